/-! ===== the tape is_w empty_w behind_w grid and work; feed, grid, work: both_w sides (written_w by wip/tools/lawz.py) ===== -/
def zR190 : SX := (sx 2 (sx 3 (sv 1) (sx 1 z0 (sv 1) z0) z0) (sx 2 (sx 3 (sv 2) (sx 1 z0 (sv 1) z0) z0) (sx 2 (sx 12 (sx 20 (sx 3 (sv 2) z0 z0) (sx 4 (sx 3 z0 z0 z0) (sv 3) z0) (sv 2)) (sx 20 (sx 2 (sx 3 (sv 3) (sx 7 (sx 5 (sx 3 z0 z0 z0) (sv 1) z0) (sx 3 (sv 2) z0 z0) z0) z0) (sx 2 (sx 10 (sx 26 (sx 20 (sx 3 (sv 3) z0 z0) (sx 1 (sv 10) (sv 1) z0) z0) (sx 20 (sx 3 (sv 3) z0 z0) (sx 1 (sv 32) (sv 1) z0) z0) z0) (sx 20 (sx 2 (sx 4 (sv 2) (sv 1) z0) (sx 15 z0 z0 z0) z0) z0 z0) z0) (sx 2 (sx 3 (sv 4) (sx 3 (sv 2) z0 z0) z0) (sx 2 (sx 3 (sv 5) (sx 1 z0 (sv 2) z0) z0) (sx 2 (sx 7 (sx 5 (sx 3 z0 z0 z0) (sv 5) z0) (sx 3 (sv 1) z0 z0) (so 6 (sx 3 (sv 2) z0 z0))) (sx 2 (sx 11 (sx 24 (sx 32 (sx 30 (sx 3 (sv 3) z0 z0) (sx 31 z0 z0 z0) z0) (sv 186) z0) z0 z0) (sx 20 (sx 2 (sx 12 (sx 25 (sx 20 (sx 3 (sv 2) z0 z0) (sx 4 (sx 3 z0 z0 z0) (sv 3) z0) (sv 2)) (sx 24 (sx 32 (sx 30 (sx 7 (sx 5 (sx 3 z0 z0 z0) (sv 1) z0) (sx 3 (sv 2) z0 z0) z0) (sx 31 z0 z0 z0) z0) (sv 186) z0) z0 z0) z0) (sx 20 (sx 2 (sx 3 (sv 5) (sx 28 (sx 20 (sx 14 (sx 3 (sv 2) z0 z0) (sx 3 (sv 4) z0 z0) (sv 1)) (sx 1 (sv 8) (sv 1) z0) (sv 2)) (sx 15 (sx 15 (sx 1 (sv 37) (sv 2) z0) (sx 3 (sv 5) z0 z0) (sv 2)) (sx 18 (sx 32 (sx 30 (sx 7 (sx 5 (sx 3 z0 z0 z0) (sv 1) z0) (sx 3 (sv 2) z0 z0) z0) (sx 31 z0 z0 z0) z0) (sv 188) z0) z0 (sv 2)) z0) (sx 3 (sv 5) z0 z0)) z0) (sx 4 (sv 2) (sv 1) z0) z0) z0 z0) (sx 1 z0 z0 z0)) (sx 7 (sx 5 (sx 3 z0 z0 z0) (sv 4) z0) (sx 3 (sv 1) z0 z0) (so 6 (sx 28 (sx 20 (sx 14 (sx 3 (sv 2) z0 z0) (sx 3 (sv 4) z0 z0) (sv 1)) (sx 1 (sv 8) (sv 1) z0) (sv 4)) (sx 1 (sv 4) (sv 1) z0) (sx 1 (sv 1) (sv 1) z0)))) z0) z0 z0) (sx 11 (sx 24 (sx 32 (sx 30 (sx 3 (sv 3) z0 z0) (sx 31 z0 z0 z0) z0) (sv 187) z0) z0 z0) (sx 20 (sx 2 (sx 12 (sx 25 (sx 20 (sx 3 (sv 2) z0 z0) (sx 4 (sx 3 z0 z0 z0) (sv 3) z0) (sv 2)) (sx 24 (sx 32 (sx 30 (sx 7 (sx 5 (sx 3 z0 z0 z0) (sv 1) z0) (sx 3 (sv 2) z0 z0) z0) (sx 31 z0 z0 z0) z0) (sv 187) z0) z0 z0) z0) (sx 20 (sx 2 (sx 3 (sv 5) (sx 28 (sx 20 (sx 14 (sx 3 (sv 2) z0 z0) (sx 3 (sv 4) z0 z0) (sv 1)) (sx 1 (sv 4) (sv 1) z0) (sv 2)) (sx 15 (sx 15 (sx 15 (sx 1 (sv 10) (sv 2) z0) (sx 3 (sv 5) z0 z0) (sv 2)) (sx 18 (sx 7 (sx 5 (sx 3 z0 z0 z0) (sv 1) z0) (sx 3 (sv 2) z0 z0) z0) z0 (sv 2)) z0) (sx 1 (sv 48) (sv 2) z0) (sv 1)) (sx 3 (sv 5) z0 z0)) z0) (sx 4 (sv 2) (sv 1) z0) z0) z0 z0) (sx 1 z0 z0 z0)) (sx 7 (sx 5 (sx 3 z0 z0 z0) (sv 4) z0) (sx 3 (sv 1) z0 z0) (so 6 (sx 28 (sx 20 (sx 14 (sx 3 (sv 2) z0 z0) (sx 3 (sv 4) z0 z0) (sv 1)) (sx 1 (sv 4) (sv 1) z0) (sv 4)) (sx 1 (sv 4) (sv 1) z0) (sx 1 (sv 2) (sv 1) z0)))) z0) z0 z0) (sx 20 (sx 2 (sx 3 (sv 5) (sx 18 (sx 3 (sv 3) z0 z0) z0 (sv 2)) z0) (sx 2 (sx 7 (sx 5 (sx 3 z0 z0 z0) (sv 4) z0) (sx 3 (sv 1) z0 z0) (so 6 (sx 28 (sx 24 (sx 32 (sx 30 (sx 3 (sv 3) z0 z0) (sx 31 z0 z0 z0) z0) (sv 189) z0) z0 z0) (sx 1 (sv 3) (sv 1) z0) (sx 1 (sv 4) (sv 1) z0)))) (sx 4 (sv 2) (sv 1) z0) z0) z0) z0 z0))) (sx 2 (sx 7 (sx 5 (sx 3 z0 z0 z0) (sv 6) z0) (sx 3 (sv 1) z0 z0) (so 7 (sx 3 (sv 5) z0 z0))) (sx 4 (sv 1) (sv 1) z0) z0) z0) z0) z0) z0) z0) z0) z0 z0) (sx 1 z0 z0 z0)) (sx 2 (sx 7 (sx 5 (sx 3 z0 z0 z0) (sv 4) z0) (sx 3 (sv 1) z0 z0) (so 6 (sx 1 z0 (sv 1) z0))) (sx 2 (sx 7 (sx 5 (sx 3 z0 z0 z0) (sv 5) z0) (sx 3 (sv 1) z0 z0) (so 6 (sx 4 (sx 3 z0 z0 z0) (sv 3) z0))) (sx 2 (sx 5 (sx 3 z0 z0 z0) (sx 1 z0 (sv 1) z0) (sv 7)) (sx 5 (sx 3 z0 z0 z0) (sx 1 z0 (sv 1) z0) (sv 8)) z0) z0) z0) z0) z0) z0)
def zR206 : SX := (sx 2 (sx 5 (sx 3 z0 z0 z0) (sx 1 z0 (sv 1) z0) (sv 12)) (sx 2 (sx 9 (sx 32 (sx 30 (sx 3 z0 z0 z0) (sx 30 (sx 1 (sv 95) (sv 1) z0) (sx 31 z0 z0 z0) z0) z0) (sv 199) z0) z0 z0) (sx 2 (sx 12 (sx 25 (sx 21 (sx 4 (sx 3 z0 z0 z0) (sv 8) z0) z0 z0) (sx 21 (sx 7 (sx 5 (sx 3 z0 z0 z0) (sv 4) z0) (sx 4 (sx 3 z0 z0 z0) (sv 7) z0) z0) z0 (sv 1)) z0) (sx 20 (sx 2 (sx 9 (sx 32 (sx 30 (sx 3 z0 z0 z0) (sx 31 z0 z0 z0) z0) (sv 210) z0) z0 z0) (sx 9 (sx 32 (sx 30 (sx 3 z0 z0 z0) (sx 30 (sx 1 (sv 59) (sv 1) z0) (sx 31 z0 z0 z0) z0) z0) (sv 194) z0) z0 z0) z0) z0 z0) (sx 1 z0 z0 z0)) (sx 2 (sx 10 (sx 21 (sx 4 (sx 3 z0 z0 z0) (sv 8) z0) z0 (sv 4)) (sx 20 (sx 16 (sx 4 (sx 3 z0 z0 z0) (sv 8) z0) z0 z0) z0 z0) z0) (sx 2 (sx 20 (sx 2 (sx 3 (sv 1) (sx 1 z0 (sv 1) z0) z0) (sx 12 (sx 20 (sx 3 (sv 1) z0 z0) (sx 1 (sv 95) (sv 1) z0) (sv 2)) (sx 20 (sx 7 (sx 5 (sx 3 z0 z0 z0) (sv 10) z0) (sx 3 (sv 1) z0 z0) (so 6 (sx 7 (sx 5 (sx 3 z0 z0 z0) (sv 10) z0) (sx 14 (sx 1 (sv 95) (sv 1) z0) (sx 3 (sv 1) z0 z0) z0) z0))) z0 z0) (sx 4 (sv 1) (sv 1) z0)) z0) z0 z0) (sx 2 (sx 20 (sx 2 (sx 3 (sv 1) (sx 1 z0 (sv 1) z0) z0) (sx 12 (sx 20 (sx 3 (sv 1) z0 z0) (sx 4 (sx 3 z0 z0 z0) (sv 12) z0) (sv 2)) (sx 20 (sx 7 (sx 5 (sx 3 z0 z0 z0) (sv 11) z0) (sx 3 (sv 1) z0 z0) (so 6 (sx 7 (sx 5 (sx 3 z0 z0 z0) (sv 11) z0) (sx 14 (sx 1 (sv 1100) (sv 1) z0) (sx 3 (sv 1) z0 z0) z0) z0))) z0 z0) (sx 4 (sv 1) (sv 1) z0)) z0) z0 z0) (sx 2 (sx 20 (sx 2 (sx 3 (sv 1) (sx 1 z0 (sv 1) z0) z0) (sx 12 (sx 20 (sx 3 (sv 1) z0 z0) (sx 1 (sv 14) (sv 1) z0) (sv 2)) (sx 20 (sx 7 (sx 5 (sx 3 z0 z0 z0) (sv 13) z0) (sx 3 (sv 1) z0 z0) (so 7 (sx 7 (sx 5 (sx 3 z0 z0 z0) (sv 13) z0) (sx 14 (sx 1 (sv 14) (sv 1) z0) (sx 3 (sv 1) z0 z0) z0) z0))) z0 z0) (sx 4 (sv 1) (sv 1) z0)) z0) z0 z0) (sx 2 (sx 9 (sx 32 (sx 30 (sx 3 z0 z0 z0) (sx 31 z0 z0 z0) z0) (sv 241) z0) z0 z0) (sx 16 (sx 1 z0 (sv 1) z0) z0 z0) z0) z0) z0) z0) z0) z0) z0) z0)
def zR214 : SX := (sx 2 (sx 3 (sv 1) (sx 1 z0 (sv 1) z0) z0) (sx 2 (sx 12 (sx 25 (sx 21 (sx 4 (sx 3 z0 z0 z0) (sv 8) z0) z0 z0) (sx 21 (sx 7 (sx 5 (sx 3 z0 z0 z0) (sv 4) z0) (sx 4 (sx 3 z0 z0 z0) (sv 7) z0) z0) z0 (sv 1)) z0) (sx 20 (sx 2 (sx 3 (sv 2) (sx 32 (sx 30 (sx 3 z0 z0 z0) (sx 30 (sx 1 (sv 9) (sv 1) z0) (sx 30 (sx 1 (sv 4) (sv 1) z0) (sx 31 z0 z0 z0) z0) z0) z0) (sv 201) z0) z0) (sx 2 (sx 11 (sx 21 (sx 3 (sv 2) z0 z0) z0 (sv 2)) (sx 20 (sx 9 (sx 32 (sx 30 (sx 3 z0 z0 z0) (sx 30 (sx 1 (sv 1) (sv 1) z0) (sx 31 z0 z0 z0) z0) z0) (sv 191) z0) z0 z0) z0 z0) (sx 11 (sx 20 (sx 3 (sv 1) z0 z0) (sx 1 (sv 30) (sv 1) z0) z0) (sx 20 (sx 9 (sx 32 (sx 30 (sx 3 z0 z0 z0) (sx 30 (sx 1 (sv 5) (sv 1) z0) (sx 31 z0 z0 z0) z0) z0) (sv 191) z0) z0 z0) z0 z0) (sx 20 (sx 2 (sx 6 (sx 3 z0 z0 z0) (sx 1 (sv 1) (sv 1) z0) (sv 112)) (sx 2 (sx 9 (sx 32 (sx 30 (sx 3 z0 z0 z0) (sx 30 (sx 14 (sx 1 (sv 125) (sv 1) z0) (sx 14 (sx 1 (sv 4) (sv 1) z0) (sx 3 (sv 1) z0 z0) (sv 2)) z0) (sx 30 (sx 3 (sv 2) z0 z0) (sx 31 z0 z0 z0) z0) z0) z0) (sv 215) z0) z0 z0) (sx 4 (sv 1) (sv 1) z0) z0) z0) z0 z0))) (sx 9 (sx 32 (sx 30 (sx 3 z0 z0 z0) (sx 30 (sx 1 (sv 59) (sv 1) z0) (sx 31 z0 z0 z0) z0) z0) (sv 194) z0) z0 z0) z0) z0) z0 z0) (sx 1 z0 z0 z0)) (sx 2 (sx 10 (sx 21 (sx 4 (sx 3 z0 z0 z0) (sv 8) z0) z0 (sv 4)) (sx 20 (sx 16 (sx 4 (sx 3 z0 z0 z0) (sv 8) z0) z0 z0) z0 z0) z0) (sx 2 (sx 7 (sx 5 (sx 3 z0 z0 z0) (sv 14) z0) (sx 1 z0 (sv 1) z0) (so 6 (sx 3 (sv 1) z0 z0))) (sx 2 (sx 20 (sx 2 (sx 3 (sv 2) (sx 1 z0 (sv 1) z0) z0) (sx 12 (sx 20 (sx 3 (sv 2) z0 z0) (sx 14 (sx 1 (sv 4) (sv 1) z0) (sx 3 (sv 1) z0 z0) (sv 2)) (sv 2)) (sx 20 (sx 7 (sx 5 (sx 3 z0 z0 z0) (sv 14) z0) (sx 14 (sx 1 (sv 1) (sv 1) z0) (sx 3 (sv 2) z0 z0) z0) (so 6 (sx 7 (sx 5 (sx 3 z0 z0 z0) (sv 14) z0) (sx 14 (sx 1 (sv 125) (sv 1) z0) (sx 3 (sv 2) z0 z0) z0) z0))) z0 z0) (sx 4 (sv 2) (sv 1) z0)) z0) z0 z0) (sx 16 (sx 1 z0 (sv 1) z0) z0 z0) z0) z0) z0) z0) z0)
def zW : List Nat × List Nat := ([0, 3, 7, 8, 12, 18, 19], [184, 185, 186, 188, 189, 190, 191, 194, 195])
theorem zb_190 : bb_190 = sx 2 (sx 2 (sx 5 (sx 3 z0 z0 z0) (sx 4 (sx 3 z0 z0 z0) (sv 2) z0) (sv 3)) (sx 2 (sx 5 (sx 3 z0 z0 z0) (sx 1 z0 (sv 1) z0) (sv 2)) zR190 z0) z0) (sx 17 z0 z0 z0) z0 := rfl
theorem zb_206 : bb_206 = sx 2 (sx 5 (sx 3 z0 z0 z0) (sx 1 z0 (sv 1) z0) z0) (sx 2 (sx 9 (sx 32 (sx 30 (sx 3 z0 z0 z0) (sx 31 z0 z0 z0) z0) (sv 190) z0) z0 z0) zR206 z0) z0 := rfl
theorem zb_214 : bb_214 = sx 2 (sx 5 (sx 3 z0 z0 z0) (sx 1 z0 (sv 1) z0) z0) (sx 2 (sx 9 (sx 32 (sx 30 (sx 3 z0 z0 z0) (sx 31 z0 z0 z0) z0) (sv 190) z0) z0 z0) zR214 z0) z0 := rfl
theorem zf_190 : (fr_S m_W m_in m_st false zW zR190).1 = true := by decide +kernel
theorem zf_206 : (fr_S m_W m_in m_st false zW zR206).1 = true := by decide +kernel
theorem zf_214 : (fr_S m_W m_in m_st false zW zR214).1 = true := by decide +kernel
section ZZ
variable {xs : Nat → Int} {L K n : Nat} {c d : Nat} {h h' : XH} {g g' : XS × Nat × Nat}
theorem z_R {R : SX} (hR : (fr_S m_W m_in m_st false zW R).1 = true) {en : List Int} {cc : Nat} {vs en' : List Int} (hg : g.1 = a_g3) (ht : en.getD 0 0 = 182) (z : h 182 2 = 0) (e : evS xs L g_ck (evF xs L g_ck K g_cW g_M n) K g_cW R en (g, h) = some (cc, vs, en', (g', h'))) : h' 182 2 = 0 := by
  obtain ⟨-, fr, -⟩ := (fr_S_ok (fr_all n) R).1 hR en g h cc vs en' g' h' hg (Or.inr ht) e
  rw [fr 182 2 (fun _ => by decide) (by decide)]
  exact z
theorem put_ev {F : XP} {e : SX} {k : Nat} {v : Int} {en : List Int} (ht : en.getD 0 0 = 182) (he : evE xs L g_ck F g_cW e en (g, h) = some ([v], (g, h))) : evS xs L g_ck F K g_cW (sx 5 (sx 3 z0 z0 z0) e (sv k)) en (g, h) = some (0, [], en, (g, j_up h 182 k v)) := by
  rw [es_5]
  unfold s_putf
  rw [ee_3]
  show ((evE xs L g_ck F g_cW e en (g, h)).bind fun y => some (0, [], en, (y.2.1, j_up y.2.2 (en.getD 0 0).toNat k (j_hd y.1)))) = _
  rw [he, ht]
  rfl
theorem put_ev0 {F : XP} {e : SX} {v : Int} {en : List Int} (ht : en.getD 0 0 = 182) (he : evE xs L g_ck F g_cW e en (g, h) = some ([v], (g, h))) : evS xs L g_ck F K g_cW (sx 5 (sx 3 z0 z0 z0) e z0) en (g, h) = some (0, [], en, (g, j_up h 182 0 v)) := by
  rw [es_5]
  unfold s_putf
  rw [ee_3]
  show ((evE xs L g_ck F g_cW e en (g, h)).bind fun y => some (0, [], en, (y.2.1, j_up y.2.2 (en.getD 0 0).toNat 0 (j_hd y.1)))) = _
  rw [he, ht]
  rfl
theorem seq_0 {A B : XR} {en en1 : List Int} {st st1_w : XT} {vs : List Int} (ha_w : A en st = some (0, vs, en1, st1_w)) : s_seq A B en st = B en1 st1_w := by
  unfold s_seq
  rw [ha_w]
  rfl
theorem z_190 {cc : Nat} {r : List Int} (hg : g.1 = a_g3) (e : evF xs L g_ck K g_cW g_M (n + 1) 190 [182] (g, h) = some (cc, r, (g', h'))) : h' 182 2 = 0 := by
  unfold evF at e
  rw [gm_190] at e
  obtain ⟨⟨c1_w, v1_w, en1, g1, h1⟩, e1_w, e2_w⟩ := j_bd e
  have e1' : evS xs L g_ck (evF xs L g_ck K g_cW g_M n) K g_cW bb_190 [182, 0, 0, 0, 0, 0, 0] (g, h) = some (c1_w, v1_w, en1, (g1, h1)) := e1_w
  have hh : h1 = h' := by
    dsimp only at e2_w
    split at e2_w
    · cases e2_w
      rfl
    · cases e2_w
  subst hh
  rw [zb_190, es_2, es_2, es_2] at e1'
  obtain ⟨⟨c2, v2, en2, g2, h2⟩, e3_w, e4_w⟩ := j_bd e1'
  rw [seq_0 (put_ev rfl rfl), seq_0 (put_ev rfl rfl)] at e3_w
  have z2 : h2 182 2 = 0 := z_R zf_190 hg rfl up_eq e3_w
  dsimp only at e4_w
  split at e4_w
  · cases e4_w
    exact z2
  · cases e4_w
    exact z2
theorem z_gw {q : Nat} {R : SX} {ml_w : Nat} {cc : Nat} {r en : List Int} (hq : g_M q = (0, ml_w, [20], [1], sx 2 (sx 5 (sx 3 z0 z0 z0) (sx 1 z0 (sv 1) z0) z0) (sx 2 (sx 9 (sx 32 (sx 30 (sx 3 z0 z0 z0) (sx 31 z0 z0 z0) z0) (sv 190) z0) z0 z0) R z0) z0)) (hen : j_pad 0 ml_w (j_lay [20] [182]) = en) (ht : en.getD 0 0 = 182) (hR : (fr_S m_W m_in m_st false zW R).1 = true) (hg : g.1 = a_g3) (e : evF xs L g_ck K g_cW g_M (n + 2) q [182] (g, h) = some (cc, r, (g', h'))) : h' 182 2 = 0 := by
  unfold evF at e
  rw [hq] at e
  obtain ⟨⟨c1_w, v1_w, en1, g1, h1⟩, e1_w, e2_w⟩ := j_bd e
  have hh : h1 = h' := by
    dsimp only at e2_w
    split at e2_w
    · cases e2_w
      rfl
    · cases e2_w
  subst hh
  dsimp only at e1_w
  rw [hen, es_2, es_2, seq_0 (put_ev0 ht rfl)] at e1_w
  obtain ⟨⟨c2, v2, en2, g2, h2⟩, e3_w, e4_w⟩ := j_bd e1_w
  rw [es_9, ee_32] at e3_w
  obtain ⟨⟨v3, g3_w, h3⟩, e5_w, e6_w⟩ := j_bd e3_w
  have e5' : (evF xs L g_ck K g_cW g_M (n + 1) 190 [en.getD 0 0] (g, j_up h 182 0 0)).bind (fun r => if r.1 = 1 then some r.2 else none) = some (v3, (g3_w, h3)) := e5_w
  rw [ht] at e5'
  obtain ⟨⟨c7, v7, g7, h7⟩, e8, e9_w⟩ := j_bd e5'
  have z7 : h7 182 2 = 0 := z_190 hg e8
  obtain ⟨hg7, -⟩ := fr_all (n + 1) 190 [182] _ _ _ _ _ _ (by decide) hg (Or.inr rfl) e8
  have k7 : (v7, (g7, h7)) = (v3, (g3_w, h3)) := by
    dsimp only at e9_w
    split at e9_w
    · exact Option.some.inj e9_w
    · cases e9_w
  cases k7
  dsimp only at e6_w
  cases e6_w
  exact z_R hR hg7 ht z7 e4_w
theorem z_206 {cc : Nat} {r : List Int} (hg : g.1 = a_g3) (e : evF xs L g_ck K g_cW g_M (n + 2) 206 [182] (g, h) = some (cc, r, (g', h'))) : h' 182 2 = 0 := z_gw (gm_206.trans (by rw [zb_206])) rfl rfl zf_206 hg e
theorem z_214 {cc : Nat} {r : List Int} (hg : g.1 = a_g3) (e : evF xs L g_ck K g_cW g_M (n + 2) 214 [182] (g, h) = some (cc, r, (g', h'))) : h' 182 2 = 0 := z_gw (gm_214.trans (by rw [zb_214])) rfl rfl zf_214 hg e
theorem c_190 {P : Int × Int} {gg : Nat × Nat} (hK_w : 4294967300 ≤ K) : G190 P gg (evF xs L g_ck K g_cW g_M (n + 40)) := g_190 (n := n + 39) hK_w (g_186 (n := n + 38)) (g_187 (n := n + 38)) (g_188 (n := n + 38) (g_186 (n := n + 37))) (g_189 (n := n + 38))
theorem grid_inv (hK2 : 20000000000 ≤ K) (hn : n + 41 < 99999) (hI : Inv0 h) : ∃ (v1_w v2 : List Int) (h1 h2 : XH), evF xs L g_ck K g_cW g_M (n + 41) 2 [0] ((a_g3, c, d), h) = some (1, v1_w, ((a_g3, c, d), h1)) ∧ evF xs L g_ck K g_cW g_M (n + 41) 206 [182] ((a_g3, c, d), h1) = some (1, v2, ((a_g3, c, d), h2)) ∧ Inv0 h2 := by
  obtain ⟨v, h1, e1_w, e2_w, e3_w, e4_w⟩ := grid_ok (xs := xs) (L := L) (K := K) (c := c) (d := d) (n := n + 40) (by omega) (by omega) hI.1.1
  obtain ⟨P, hQ, hD, k0_w, k1_w⟩ := hI.2.kp e2_w (fun o k a _ => e4_w o k a)
  obtain ⟨r, h2, f1_w, w, -, -, f2_w⟩ := p_206 (P := P) (g := (c, d)) (xs := xs) (L := L) (K := K) (n := n) (ck := g_ck) (cW := g_cW) hK2 (c_190 (K := K) (by omega)) hQ hD k0_w k1_w
  have z : h2 182 2 = 0 := z_206 (n := n + 39) rfl f1_w
  obtain ⟨-, fr⟩ := fr_all (n + 41) 206 [182] _ _ _ _ _ _ (by decide) rfl (Or.inr rfl) f1_w
  have qt : h2 2 1 = 0 := (fr 2 1 (fun z => absurd z (by decide)) (by decide)).trans e3_w
  have hH : HT g_fk a_g3 h2 := by
    obtain ⟨P'_w, q, -⟩ := f2_w
    exact q.1
  exact ⟨[v], r, h1, h2, e1_w, f1_w, ⟨hH, by rw [qt]; decide, by rw [qt]; decide, by rw [z, qt]⟩, f2_w⟩
theorem work_inv (hK2 : 20000000000 ≤ K) (hn : n + 41 < 99999) (hI : Inv0 h) : ∃ (v1_w v2 : List Int) (h1 h2 : XH), evF xs L g_ck K g_cW g_M (n + 41) 4 [0] ((a_g3, c, d), h) = some (1, v1_w, ((a_g3, c, d), h1)) ∧ evF xs L g_ck K g_cW g_M (n + 41) 214 [182] ((a_g3, c, d), h1) = some (1, v2, ((a_g3, c, d), h2)) ∧ Inv0 h2 := by
  obtain ⟨v, h1, e1_w, e2_w, e3_w, e4_w⟩ := work_ok (xs := xs) (L := L) (K := K) (c := c) (d := d) (n := n + 40) (by omega) (by omega) hI.1.1
  obtain ⟨P, hQ, hD, k0_w, k1_w⟩ := hI.2.kp e2_w (fun o k a _ => e4_w o k a)
  obtain ⟨r, h2, f1_w, w, -, -, f2_w, f3_w, f4_w, f5_w⟩ := p_214 (P := P) (g := (c, d)) (xs := xs) (L := L) (K := K) (n := n) (ck := g_ck) (cW := g_cW) hK2 hn (c_190 (K := K) (by omega)) hQ hD k0_w k1_w
  have z : h2 182 2 = 0 := z_214 (n := n + 39) rfl f1_w
  obtain ⟨-, fr⟩ := fr_all (n + 41) 214 [182] _ _ _ _ _ _ (by decide) rfl (Or.inr rfl) f1_w
  have qt : h2 2 1 = 0 := (fr 2 1 (fun z => absurd z (by decide)) (by decide)).trans e3_w
  exact ⟨[v], r, h1, h2, e1_w, f1_w, ⟨f2_w.1, by rw [qt]; decide, by rw [qt]; decide, by rw [z, qt]⟩, P, f2_w, f3_w, f4_w, f5_w⟩
theorem feed_inv (hK_w : 4294967300 ≤ K) {a b e : Int} (hI : Inv0 h) : ∃ (v : Int) (h1 h2 : XH), evF xs L g_ck K g_cW g_M (n + 2) 1 [0, a, b, e] ((a_g3, c, d), h) = some (1, [v], ((a_g3, c, d), h1)) ∧ evF xs L g_ck K g_cW g_M (n + 2) 183 [182, a, b, e] ((a_g3, c, d), h1) = some (1, [v], ((a_g3, c, d), h2)) ∧ Inv0 h2 := by
  obtain ⟨v, h1, h2, e1_w, f1_w, hL⟩ := feed_ok (xs := xs) (L := L) (K := K) (c := c) (d := d) (n := n) (a := a) (b := b) (e := e) hK_w hI.1
  obtain ⟨hH, m0_w, m1_w, hm_w⟩ := hI.1
  obtain ⟨h1', e1', -, e3_w⟩ := fqA (xs := xs) (L := L) (ck := g_ck) (cW := g_cW) (K := K) (n := n) (a := a) (b := b) (c := e) (g := (a_g3, c, d)) (h := h) (by omega) fg_1 fg_2 fg_3 fg_4 (by decide) rfl ⟨m0_w, m1_w⟩
  have u1 : h1' = h1 := by
    have t := e1'.symm.trans e1_w
    cases t
    rfl
  subst u1
  have k1_w : KeptC h h1' := e3_w (fun x => KeptC h x) (fun x m s p => by
    unfold upA
    split
    · intro o k ho
      have t2_w : (2 : Int).toNat = 2 := rfl
      have t3_w : (3 : Int).toNat = 3 := rfl
      rw [up_ne (fun z => by have := z.1; omega), up_ne (fun z => by have := z.1; omega)]
      exact p o k ho
    · exact p) (fun _ _ _ => rfl)
  obtain ⟨h2', f1', -, f3_w⟩ := fqM (xs := xs) (L := L) (ck := g_ck) (cW := g_cW) (K := K) (n := n) (a := a) (b := b) (c := e) (g := (a_g3, c, d)) (h := h1') (by omega) fg_5 fg_6 (by decide) (show h1' (182 : Int).toNat 2 = h 2 1 from (k1_w 182 2 (Nat.le_refl _)).trans hm_w) ⟨m0_w, m1_w⟩
  have u2_w : h2' = h2 := by
    have t := f1'.symm.trans f1_w
    cases t
    rfl
  subst u2_w
  have hI1 : LQ h1' := hI.2.kp (by
    have t := e3_w _ kpA_HT hH
    exact t) (fun o k q _ => k1_w o k q)
  obtain ⟨P, hQ, hD, c0, c1_w⟩ := hI1
  have key_w := f3_w (fun x => (∀ o k : Nat, 182 ≤ o → (o = 182 → k ≠ 0 ∧ k ≠ 2) → o ≠ 183 → x o k = h1' o k) ∧ (∀ i : Nat, i < 1000 → IV P (1, 0, 255) (x 183 i)) ∧ x 182 0 = 0) (fun x m s hs p => by
    unfold upM
    split
    · rename_i hr
      have hs2 : 0 ≤ s ∧ s ≤ 255 := by
        unfold rdB j_b at hr
        by_cases t1_w : s = 10
        · omega
        · by_cases t2_w : 32 ≤ s ∧ s ≤ 126
          · omega
          · have t3_w : (decide (s = 10) || (decide (32 ≤ s) && decide (s ≤ 126))) = false := by
              rw [decide_eq_false t1_w, Bool.false_or, Bool.and_eq_false_iff, decide_eq_false_iff_not, decide_eq_false_iff_not]
              omega
            rw [t3_w] at hr
            exact absurd hr (by decide)
      have t2_w : (182 : Int).toNat = 182 := rfl
      have t3_w : (183 : Int).toNat = 183 := rfl
      rw [t2_w, t3_w]
      refine ⟨fun o k ho h1 h2 => ?_, fun i hi_w => ?_, ?_⟩
      · rw [up_ne (fun z => (h1 z.1).2 z.2), up_ne (fun z => h2 z.1)]
        exact p.1 o k ho h1 h2
      · rw [up_ne (fun z => absurd z.1 (by decide))]
        by_cases t : i = m.toNat
        · subst t
          rw [up_eq]
          exact ⟨hs2.1, hs2.2, hs⟩
        · rw [up_ne (fun z => t z.2)]
          exact p.2.1 i hi_w
      · rw [up_ne (fun z => absurd z.2 (by decide)), up_ne (fun z => absurd z.1 (by decide))]
        exact p.2.2
    · exact p) ⟨fun o k ho q1_w q2_w => up_ne (fun z => by
        have t2_w : (182 : Int).toNat = 182 := rfl
        exact (q1_w (z.1.trans t2_w)).1 z.2), fun i hi_w => by
        rw [up_ne (fun z => absurd z.1 (by decide))]
        have t := hQ.2.2.1 183 (by decide) (0, 1000, (1, 0, 255)) List.mem_cons_self i 0 (Nat.zero_le _) hi_w (by decide)
        have u : (qA (r_T 0) 183).2.1 * 0 + i = i := by rw [Nat.mul_zero, Nat.zero_add]
        rw [u] at t
        exact t, up_eq⟩
  obtain ⟨p1_w, p2_w, p3_w⟩ := key_w
  have eo : ∀ o : Nat, 183 < o → h2' o = h1' o := fun o a => funext fun k => p1_w o k (by omega) (fun z => by omega) (by omega)
  refine ⟨v, h1', h2', e1_w, f1_w, hL, P, ⟨hL.1, fun k => ?_, fun q hq => ?_, ?_⟩, ?_, ?_, ?_⟩
  · by_cases t0_w : k = 0
    · subst t0_w
      rw [p3_w]
      exact ⟨by decide, by decide, in_0⟩
    · by_cases t2_w : k = 2
      · subst t2_w
        have l1 := hL.2.1
        have l2 := hL.2.2.1
        have l3 := hL.2.2.2
        exact ⟨by omega, by omega, ⟨by omega, by omega⟩⟩
      · rw [p1_w 182 k (by decide) (fun _ => ⟨t0_w, t2_w⟩) (by decide)]
        exact hQ.2.1 k
  · by_cases t : q = 183
    · subst t
      intro x hx i j j1 j2_w j3_w
      have ex_w : x = (0, 1000, (1, 0, 255)) := by
        have : x ∈ [(0, 1000, ((1, 0, 255) : IT))] := hx
        exact List.mem_singleton.mp this
      subst ex_w
      have u : (qA (r_T 0) 183).2.1 * j + i = i := by
        show 0 * j + i = i
        rw [Nat.zero_mul, Nat.zero_add]
      rw [u]
      exact p2_w i j2_w
    · rw [eo q (by omega)]
      exact hQ.2.2.1 q hq
  · have hj := hQ.2.2.2
    unfold RJ at hj ⊢
    rw [eo 188 (by decide), eo 189 (by decide), eo 191 (by decide)]
    exact hj
  · unfold DG
    rw [eo 188 (by decide)]
    exact hD
  · rw [p1_w 182 12 (by decide) (fun _ => ⟨by decide, by decide⟩) (by decide)]
    exact c0
  · rw [p1_w 182 12 (by decide) (fun _ => ⟨by decide, by decide⟩) (by decide)]
    exact c1_w
end ZZ
