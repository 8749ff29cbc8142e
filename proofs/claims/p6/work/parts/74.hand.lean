/-! ===== the class's two that loop and call ===== -/
def lJ_98 : SX := (sx 3 (sv 6) (sx 1 z0 (sv 1) z0) z0)
def lI_98 : SX := (sx 3 (sv 7) (sx 1 z0 (sv 1) z0) z0)
def lA_98 : SX := (sx 9 (sx 32 (sx 30 (sx 3 z0 z0 z0) (sx 30 (sx 14 (sx 1 z0 (sv 1) z0) (sx 4 (sx 3 z0 z0 z0) (sv 10) z0) z0) (sx 30 (sx 3 (sv 1) z0 z0) (sx 31 z0 z0 z0) z0) z0) z0) (sv 101) z0) z0 z0)
def lB_98 : SX := (sx 9 (sx 32 (sx 30 (sx 5 (sx 3 z0 z0 z0) (sv 2) z0) (sx 30 (sx 4 (sx 3 z0 z0 z0) (sv 10) z0) (sx 30 (sx 3 (sv 3) z0 z0) (sx 31 z0 z0 z0) z0) z0) z0) (sv 55) z0) z0 z0)
def lD_98 : SX := (sx 6 (sx 3 z0 z0 z0) (sx 1 (sv 1) (sv 1) z0) (sv 160))
def lc_98 : SX := (sx 25 (sx 21 (sx 3 (sv 5) z0 z0) z0 (sv 4)) (sx 20 (sx 3 (sv 7) z0 z0) (sx 1 (sv 13) (sv 1) z0) (sv 2)) z0)
def lb_98 : SX := (sx 20 (sx 2 (sx 9 (sx 32 (sx 30 (sx 5 (sx 3 z0 z0 z0) (sv 4) z0) (sx 30 (sx 14 (sx 14 (sx 4 (sx 3 z0 z0 z0) (sv 10) z0) (sx 1 (sv 13) (sv 1) z0) (sv 2)) (sx 3 (sv 7) z0 z0) z0) (sx 30 (sx 3 (sv 6) z0 z0) (sx 31 z0 z0 z0) z0) z0) z0) (sv 55) z0) z0 z0) (sx 3 (sv 6) (sx 14 (sx 3 (sv 6) z0 z0) (sx 32 (sx 30 (sx 3 (sv 4) z0 z0) (sx 30 (sx 17 (sx 3 (sv 7) z0 z0) (sx 3 (sv 5) z0 z0) (sv 1)) (sx 31 z0 z0 z0) z0) z0) (sv 54) z0) z0) z0) z0) z0 z0)
def ls_98 : SX := (sx 4 (sv 7) (sv 1) z0)
theorem lq_98 : bb_98 = sx 2 (sx 2 lA_98 (sx 2 lB_98 (sx 2 lJ_98 (sx 2 (sx 20 (sx 2 lI_98 (sx 12 lc_98 lb_98 ls_98) z0) z0 z0) lD_98 z0) z0) z0) z0) (sx 17 z0 z0 z0) z0 := rfl
theorem gm_98 : g_M 98 = (0, 8, [15, 2, 1, 17, 1], [], bb_98) := rfl
def lI_97 : SX := (sx 3 (sv 2) (sx 1 z0 (sv 1) z0) z0)
def lR_97 : SX := (sx 2 (sx 9 (sx 32 (sx 30 (sx 5 (sx 3 z0 z0 z0) (sv 1) z0) (sx 30 (sx 5 (sx 3 (sv 1) z0 z0) (sv 1) z0) (sx 31 z0 z0 z0) z0) z0) (sv 58) z0) z0 z0) (sx 2 (sx 9 (sx 32 (sx 30 (sx 5 (sx 3 z0 z0 z0) (sv 2) z0) (sx 30 (sx 5 (sx 3 (sv 1) z0 z0) (sv 2) z0) (sx 31 z0 z0 z0) z0) z0) (sv 58) z0) z0 z0) (sx 2 (sx 9 (sx 32 (sx 30 (sx 5 (sx 3 z0 z0 z0) (sv 3) z0) (sx 30 (sx 5 (sx 3 (sv 1) z0 z0) (sv 3) z0) (sx 31 z0 z0 z0) z0) z0) (sv 58) z0) z0 z0) (sx 2 (sx 9 (sx 32 (sx 30 (sx 5 (sx 3 z0 z0 z0) (sv 4) z0) (sx 30 (sx 5 (sx 3 (sv 1) z0 z0) (sv 4) z0) (sx 31 z0 z0 z0) z0) z0) (sv 58) z0) z0 z0) (sx 2 (sx 9 (sx 32 (sx 30 (sx 5 (sx 3 z0 z0 z0) (sv 5) z0) (sx 30 (sx 5 (sx 3 (sv 1) z0 z0) (sv 5) z0) (sx 31 z0 z0 z0) z0) z0) (sv 58) z0) z0 z0) (sx 2 (sx 9 (sx 32 (sx 30 (sx 5 (sx 3 z0 z0 z0) (sv 6) z0) (sx 30 (sx 5 (sx 3 (sv 1) z0 z0) (sv 6) z0) (sx 31 z0 z0 z0) z0) z0) (sv 58) z0) z0 z0) (sx 2 (sx 9 (sx 32 (sx 30 (sx 5 (sx 3 z0 z0 z0) (sv 7) z0) (sx 30 (sx 5 (sx 3 (sv 1) z0 z0) (sv 7) z0) (sx 31 z0 z0 z0) z0) z0) (sv 58) z0) z0 z0) (sx 2 (sx 9 (sx 32 (sx 30 (sx 5 (sx 3 z0 z0 z0) (sv 8) z0) (sx 30 (sx 5 (sx 3 (sv 1) z0 z0) (sv 8) z0) (sx 31 z0 z0 z0) z0) z0) (sv 80) z0) z0 z0) (sx 2 (sx 5 (sx 3 z0 z0 z0) (sx 4 (sx 3 (sv 1) z0 z0) (sv 9) z0) (sv 9)) (sx 2 (sx 5 (sx 3 z0 z0 z0) (sx 4 (sx 3 (sv 1) z0 z0) (sv 10) z0) (sv 10)) (sx 2 (sx 5 (sx 3 z0 z0 z0) (sx 4 (sx 3 (sv 1) z0 z0) (sv 11) z0) (sv 11)) (sx 5 (sx 3 z0 z0 z0) (sx 4 (sx 3 (sv 1) z0 z0) (sv 12) z0) (sv 12)) z0) z0) z0) z0) z0) z0) z0) z0) z0) z0) z0)
def lc_97 : SX := (sx 25 (sx 20 (sx 3 (sv 2) z0 z0) (sx 10 (sx 5 (sx 3 z0 z0 z0) z0 z0) z0 z0) (sv 2)) (sx 20 (sx 3 (sv 2) z0 z0) (sx 10 (sx 5 (sx 3 (sv 1) z0 z0) z0 z0) z0 z0) (sv 2)) z0)
def lb_97 : SX := (sx 20 (sx 7 (sx 5 (sx 3 z0 z0 z0) z0 z0) (sx 3 (sv 2) z0 z0) (so 7 (sx 7 (sx 5 (sx 3 (sv 1) z0 z0) z0 z0) (sx 3 (sv 2) z0 z0) z0))) z0 z0)
def ls_97 : SX := (sx 4 (sv 2) (sv 1) z0)
theorem lq_97 : bb_97 = sx 2 (sx 2 (sx 20 (sx 2 lI_97 (sx 12 lc_97 lb_97 ls_97) z0) z0 z0) lR_97 z0) (sx 17 z0 z0 z0) z0 := rfl
theorem gm_97 : g_M 97 = (0, 3, [15, 15], [], bb_97) := rfl
section LEAF5
variable {xs : Nat → Int} {L K c d n : Nat} {ck : Nat → List Nat} {cW : Nat → Nat → Int} {F : XP} {a b e : SX}
theorem k99 : a_g3.all (fun c => decide (c.1 ≠ 99)) = true := by decide +kernel
theorem no_99 {z : Nat → Int} {v : Int} (h : TV z a_g3 99 v) : False := by
  obtain ⟨-, c, hc, e⟩ := h.2.2.2.2.1 (by decide) (by decide)
  exact of_decide_eq_true (List.all_eq_true.mp k99 c (List.mem_of_getElem? hc)) e
/-- a statement that only goes on, by the third reading -/
theorem run_ty {D : Nat} (hK : 4294967300 ≤ K) (hF : ∀ q, (g_T D).2.2.2.1 q = true → TotF (g_T D) (a_g3, c, d) g_ro F q) {t : SX} {τ τ' : List Nat} (ht : (tyS (g_T D) [99] false t).1 τ = some (some τ', none, none)) {en : List Int} {hh : XH} (hv : VL (fun _ => 0) a_g3 τ en) (hH : HT g_fk a_g3 hh) :
    ∃ vals en' h', evS xs L g_ck F K g_cW t en ((a_g3, c, d), hh) = some (0, vals, en', ((a_g3, c, d), h')) ∧ HT g_fk a_g3 h' ∧ FR g_ro hh h' ∧ VL (fun _ => 0) a_g3 τ' en' := by
  obtain ⟨cc, vals, en', g', h', e1, e2, e3, e4⟩ := (ty_S (xs := xs) (L := L) (ck := g_ck) (g := (a_g3, c, d)) (rt := [99]) (thr := false) g_GG (g_TG D) nt_cW hF (g_WK D) hK rfl t).1 (fun _ => 0) _ _ ht en hh hv hH
  rcases e4 with ⟨rfl, rfl, τ1, k, k2⟩ | ⟨rfl, rfl, k⟩ | ⟨-, -, τ1, k, -⟩ | ⟨-, -, τ1, k, -⟩ | ⟨-, k, -⟩
  · cases k
    exact ⟨vals, en', h', e1, e2, e3, k2⟩
  · exfalso
    obtain ⟨x, -, hx⟩ := VL.one k
    exact no_99 hx
  · cases k
  · cases k
  · cases k
def RunT (xs : Nat → Int) (L : Nat) (ck : Nat → List Nat) (F : XP) (K : Nat) (cW : Nat → Nat → Int) (c d : Nat) (t : SX) (τ : List Nat) : Prop := ∀ (en : List Int) (hh : XH), VL (fun _ => 0) a_g3 τ en → HT g_fk a_g3 hh → ∃ vals en' h', evS xs L ck F K cW t en ((a_g3, c, d), hh) = some (0, vals, en', ((a_g3, c, d), h')) ∧ HT g_fk a_g3 h' ∧ FR g_ro hh h' ∧ VL (fun _ => 0) a_g3 τ en'
theorem tA_98 : (tyS (g_T 1) [99] false lA_98).1 [15, 2, 0, 1, 17, 1, 0, 0] = some (some [15, 2, 0, 1, 17, 1, 0, 0], none, none) := by decide +kernel
theorem tB_98 : (tyS (g_T 1) [99] false lB_98).1 [15, 2, 0, 1, 17, 1, 0, 0] = some (some [15, 2, 0, 1, 17, 1, 0, 0], none, none) := by decide +kernel
theorem tD_98 : (tyS (g_T 1) [99] false lD_98).1 [15, 0, 0, 0, 0, 0, 0, 0] = some (some [15, 0, 0, 0, 0, 0, 0, 0], none, none) := by decide +kernel
theorem tR_97 : (tyS (g_T 2) [99] false lR_97).1 [15, 15, 0] = some (some [15, 15, 0], none, none) := by decide +kernel
theorem gen_98 (hK : 4294967300 ≤ K) (hA : RunT xs L ck (evF xs L ck K cW g_M (n + 1)) K cW c d lA_98 [15, 2, 0, 1, 17, 1, 0, 0]) (hB : RunT xs L ck (evF xs L ck K cW g_M (n + 1)) K cW c d lB_98 [15, 2, 0, 1, 17, 1, 0, 0]) (hD : RunT xs L ck (evF xs L ck K cW g_M (n + 1)) K cW c d lD_98 [15, 0, 0, 0, 0, 0, 0, 0]) : TotF (g_T 0) (a_g3, c, d) g_ro (evF xs L ck K cW g_M (n + 2)) 98 := by
  intro av hh hH hv
  have hv0 : VL (fun _ => 0) a_g3 [15, 2, 0, 1, 17, 1, 0, 0] (j_pad 0 8 (j_lay [15, 2, 1, 17, 1] av)) := VL_pad (g := (a_g3, c, d)) (n := 8) (ts := [15, 2, 0, 1, 17, 1]) (VL_lay (g := (a_g3, c, d)) (pk := [15, 2, 1, 17, 1]) hv)
  have hget : ∀ (r i q len : Int) (h : XH), j_rf a_g3 r.toNat 0 = some q → j_len a_g3 q.toNat = len → evF xs L ck K cW g_M (n + 1) 54 [r, i] ((a_g3, c, d), h) = some (1, [if 0 ≤ i ∧ i < len then h q.toNat i.toNat else 0], ((a_g3, c, d), h)) := fun r i q len h h1 h2 => row_get h1 h2
  have hset : ∀ (r i v q len : Int) (h : XH), j_rf a_g3 r.toNat 0 = some q → j_len a_g3 q.toNat = len → evF xs L ck K cW g_M (n + 1) 55 [r, i, v] ((a_g3, c, d), h) = some (1, [], ((a_g3, c, d), if 0 ≤ i ∧ i < len then j_up h q.toNat i.toNat v else h)) := fun r i v q len h h1 h2 => row_set h1 h2
  generalize hF : evF xs L ck K cW g_M (n + 1) = F at hA hB hD hget hset
  generalize he0 : j_pad 0 8 (j_lay [15, 2, 1, 17, 1] av) = en0 at hv0
  obtain ⟨v1, e1, h1, a1, a2, a3, a4⟩ := hA _ _ hv0 hH
  obtain ⟨v2, e2, h2, b1, b2, b3, b4⟩ := hB _ _ a4 a2
  obtain ⟨p, nm, z, lo, s, m, u, i, rfl, hp, hs⟩ : ∃ p nm z lo s m u i, e2 = [p, nm, z, lo, s, m, u, i] ∧ TV (fun _ => 0) a_g3 15 p ∧ TV (fun _ => 0) a_g3 17 s := by
    match e2, b4 with
    | [p, nm, z, lo, s, m, u, i], k => exact ⟨p, nm, z, lo, s, m, u, i, rfl, k.1, k.2.2.2.2.1⟩
  obtain ⟨r4, hr4, r40, c4, hc4, he4⟩ := ref_at (ci := 5) (k := 4) (kd := 17) hp (by decide) rfl (by decide) (by decide)
  have hrow : TV (fun _ => 0) a_g3 17 r4 := TV.ref (by decide) (by decide) ⟨r40, c4, hc4, he4⟩
  obtain ⟨q, len, hq, hl, l0, l1, ht, hro⟩ := row_at hrow
  obtain ⟨q2, len2, hq2, hl2, l02, l12, ht2, hro2⟩ := row_at hs
  have go := lp_gen (g := (a_g3, c, d)) (C' := evE xs L ck F cW lc_98) (B' := evS xs L ck F K cW lb_98) (P' := evS xs L ck F K cW ls_98)
    (Inv := fun en h => ∃ u i : Int, en = [p, nm, z, lo, s, m, u, i] ∧ InI u ∧ 0 ≤ i ∧ i ≤ 13 ∧ HT g_fk a_g3 h ∧ FR g_ro hh h) (Done := fun en h => HT g_fk a_g3 h ∧ FR g_ro hh h ∧ ∃ u i : Int, en = [p, nm, z, lo, s, m, u, i]) (Ret := fun _ _ => False) (mea := fun en _ => (13 - en.getD 7 0).toNat) (by
    rintro en h ⟨u, i, rfl, hu, i0, i1, k1, k2⟩
    by_cases hi : 0 < m ∧ i < 13
    · have hc : evE xs L ck F cW lc_98 [p, nm, z, lo, s, m, u, i] ((a_g3, c, d), h) = some ([1], ((a_g3, c, d), h)) := by
        unfold lc_98
        simp only [ee_25, ee_21, n_ife, n_nz, ee_20, ee_3, ee_1, n_cmp, Option.bind_some, j_hd, List.headD_cons, n_sv, n_z0, List.getD_cons_zero, List.getD_cons_succ, j_cmp]
        simp [hi.1, hi.2, j_b]
      have hm0 : m ≠ 0 := by omega
      have s1 := hset r4 (j_iop 0 (j_iop 2 (h p.toNat 10) 13) i) u q len h hq hl
      have n1 : HT g_fk a_g3 (if 0 ≤ j_iop 0 (j_iop 2 (h p.toNat 10) 13) i ∧ j_iop 0 (j_iop 2 (h p.toNat 10) 13) i < len then j_up h q.toNat (j_iop 0 (j_iop 2 (h p.toNat 10) 13) i).toNat u else h) := by
        split
        · exact up_i ht k1 hu
        · exact k1
      have n2 : FR g_ro hh (if 0 ≤ j_iop 0 (j_iop 2 (h p.toNat 10) 13) i ∧ j_iop 0 (j_iop 2 (h p.toNat 10) 13) i < len then j_up h q.toNat (j_iop 0 (j_iop 2 (h p.toNat 10) 13) i).toNat u else h) := by
        split
        · exact k2.tr (FR.up (hro _))
        · exact k2
      generalize (if 0 ≤ j_iop 0 (j_iop 2 (h p.toNat 10) 13) i ∧ j_iop 0 (j_iop 2 (h p.toNat 10) 13) i < len then j_up h q.toNat (j_iop 0 (j_iop 2 (h p.toNat 10) 13) i).toNat u else h) = h' at s1 n1 n2
      have s2 := hget s (j_div 1 i m) q2 len2 h' hq2 hl2
      generalize (if 0 ≤ j_div 1 i m ∧ j_div 1 i m < len2 then h' q2.toNat (j_div 1 i m).toNat else 0) = w at s2
      refine Or.inr ⟨1, h, by decide, hc, 0, [], [p, nm, z, lo, s, m, j_iop 0 u w, i], h', ?_, Or.inl ⟨Or.inl rfl, [p, nm, z, lo, s, m, j_iop 0 u w, i + 1], h', ?_, ⟨j_iop 0 u w, i + 1, rfl, iop_in _ _ _, by omega, by omega, n1, n2⟩, ?_⟩⟩
      · unfold lb_98
        have e13 : ∀ x, j_iop 2 x ((13 : Nat) : Int) = j_iop 2 x 13 := fun _ => rfl
        simp only [es_20, es_2, es_9, es_3, s_seq, ee_32, n_call, ee_30, ee_31, ee_14, n_bin, ee_17, ee_5, ee_4, ee_3, ee_1, Option.bind_some, j_hd, List.headD_cons, n_sv, n_z0, List.getD_cons_zero, List.getD_cons_succ, List.cons_append, List.nil_append, hr4, e13, if_true]
        simp [e13, s1, s2, hm0]
      · show some (0, [], [p, nm, z, lo, s, m, j_iop 0 u w, j32 (i + 1)], _) = _
        rw [j32_up i0 hi.2 (by decide)]
      · show (13 - (i + 1)).toNat < (13 - i).toNat
        omega
    · refine Or.inl ⟨h, ?_, k1, k2, u, i, rfl⟩
      unfold lc_98
      simp only [ee_25, ee_21, n_ife, n_nz, ee_20, ee_3, ee_1, n_cmp, Option.bind_some, j_hd, List.headD_cons, n_sv, n_z0, List.getD_cons_zero, List.getD_cons_succ, j_cmp]
      by_cases a1 : 0 < m
      · have a2 : ¬ i < 13 := fun k => hi ⟨a1, k⟩
        simp [a1, a2, j_b]
      · simp [a1, j_b]) K 13 [p, nm, z, lo, s, m, 0, 0] h2 ⟨0, 0, rfl, in_0, Int.le_refl _, by decide, b2, a3.tr b3⟩ (by show (13 - (0 : Int)).toNat ≤ 13; decide) (by omega)
  obtain ⟨en3, h3, f1, f2, f3, u3, i3, rfl⟩ := go.resolve_right (fun ⟨_, _, _, _, k⟩ => k)
  obtain ⟨v4, e4, h4, d1, d2, d3, d4⟩ := hD [p, nm, z, lo, s, m, u3, i3] _ ⟨hp, TV.zero, TV.zero, TV.zero, TV.zero, TV.zero, TV.zero, TV.zero, trivial⟩ f2
  refine ⟨[], h4, ?_, d2, f3.tr d3, trivial⟩
  have kk : evS xs L ck F K cW bb_98 en0 ((a_g3, c, d), hh) = some (1, [], e4, ((a_g3, c, d), h4)) := by
    have q1 : evS xs L ck F K cW (sx 20 (sx 2 lI_98 (sx 12 lc_98 lb_98 ls_98) z0) z0 z0) [p, nm, z, lo, s, m, 0, i] ((a_g3, c, d), h2) = some (0, [], [p, nm, z, lo, s, m, u3, i3], ((a_g3, c, d), h3)) := by
      rw [es_20, es_2, lI_98, es_3, es_12, ee_1]
      unfold s_seq
      dsimp only
      simp only [Option.bind_some, if_true]
      rw [show [p, nm, z, lo, s, m, 0, i].set (sx_n (sv 7)) (j_hd [if sx_n z0 = 0 then (sx_n z0 : Int) else -(sx_n z0 : Int)]) = [p, nm, z, lo, s, m, 0, 0] from rfl, f1]
    have q2 : evS xs L ck F K cW lJ_98 [p, nm, z, lo, s, m, u, i] ((a_g3, c, d), h2) = some (0, [], [p, nm, z, lo, s, m, 0, i], ((a_g3, c, d), h2)) := by
      rw [lJ_98, es_3, ee_1]
      rfl
    rw [lq_98, es_2, es_2, es_2, es_2, es_2, es_17]
    unfold s_seq
    rw [a1, Option.bind_some]
    dsimp only
    rw [if_pos rfl, b1, Option.bind_some]
    dsimp only
    rw [if_pos rfl, q2, Option.bind_some]
    dsimp only
    rw [if_pos rfl, q1, Option.bind_some]
    dsimp only
    rw [if_pos rfl, d1]
    rfl
  rw [evF_s, gm_98, hF]
  show (evS xs L ck F K cW bb_98 (j_pad 0 8 (j_lay [15, 2, 1, 17, 1] av)) ((a_g3, c, d), hh)).bind _ = _
  rw [he0]
  rw [kk, Option.bind_some]
  exact if_pos chk_self
theorem gen_97 (hK : 4294967300 ≤ K) (hR : RunT xs L ck (evF xs L ck K cW g_M n) K cW c d lR_97 [15, 15, 0]) : TotF (g_T 0) (a_g3, c, d) g_ro (evF xs L ck K cW g_M (n + 1)) 97 := by
  intro av hh hH hv
  obtain ⟨r, v, rfl, hr, hr2⟩ := VL2 (s := 15) (t := 15) hv
  generalize hF : evF xs L ck K cW g_M n = F at hR
  obtain ⟨r0, c1, hc1, he1⟩ := hr.2.2.2.2.1 (by decide) (by decide)
  obtain ⟨q, hq, q0, c', hc', he'⟩ := ref_at (ci := 5) (k := 0) (kd := 7) hr (by decide) rfl (by decide) (by decide)
  obtain ⟨hl, l1⟩ := len_at hc'
  have ht := fun j => (ty_arr hc' j).2.1 he'
  have hro := ro_arr hc1 (by omega) (by omega) hq hc' he' (by decide)
  have l0 : (0 : Int) ≤ (c'.2.1 : Int) := by omega
  generalize (c'.2.1 : Int) = len at hl l1 l0
  obtain ⟨q2, hq2, q20, c2, hc2, he2⟩ := ref_at (ci := 5) (k := 0) (kd := 7) hr2 (by decide) rfl (by decide) (by decide)
  obtain ⟨hl2, l12⟩ := len_at hc2
  have ht2 := fun j => (ty_arr hc2 j).2.1 he2
  generalize (c2.2.1 : Int) = len2 at hl2 l12
  have go := lp_gen (g := (a_g3, c, d)) (C' := evE xs L ck F cW lc_97) (B' := evS xs L ck F K cW lb_97) (P' := evS xs L ck F K cW ls_97)
    (Inv := fun en h => ∃ i : Int, en = [r, v, i] ∧ 0 ≤ i ∧ i ≤ len ∧ HT g_fk a_g3 h ∧ FR g_ro hh h) (Done := fun en h => HT g_fk a_g3 h ∧ FR g_ro hh h ∧ ∃ i : Int, en = [r, v, i]) (Ret := fun _ _ => False) (mea := fun en _ => (len - en.getD 2 0).toNat) (by
    rintro en h ⟨i, rfl, i0, i1, h1, h2⟩
    have hc : evE xs L ck F cW lc_97 [r, v, i] ((a_g3, c, d), h) = some ([j_b (decide (i < len) && decide (i < len2))], ((a_g3, c, d), h)) := by
      unfold lc_97
      simp only [ee_25, n_ife, n_nz, ee_20, ee_10, ee_5, ee_3, n_cmp, n_alen, Option.bind_some, j_hd, List.headD_cons, n_sv, n_z0, List.getD_cons_zero, List.getD_cons_succ, hq, hl, hq2, hl2, j_cmp]
      by_cases a1 : i < len <;> by_cases a2 : i < len2 <;> simp [a1, a2, j_b]
    by_cases hi : i < len ∧ i < len2
    · refine Or.inr ⟨1, h, by decide, by rw [hc, decide_eq_true hi.1, decide_eq_true hi.2]; rfl, 0, [], [r, v, i], j_up h q.toNat i.toNat (h q2.toNat i.toNat), ?_, Or.inl ⟨Or.inl rfl, [r, v, i + 1], j_up h q.toNat i.toNat (h q2.toNat i.toNat), ?_, ⟨i + 1, rfl, by omega, by omega, HT.up h1 (fun e => absurd ((ht _).symm.trans e) (by decide)) (fun _ => (h1 q2.toNat i.toNat).2.1 (ht2 _)) (fun e => absurd ((ht _).symm.trans e) (by decide)), h2.tr (FR.up (hro _))⟩, ?_⟩⟩
      · unfold lb_97
        simp only [es_20, es_7, s_ast, ee_7, n_aload, ee_5, ee_3, Option.bind_some, j_hd, List.headD_cons, n_sv, n_z0, List.getD_cons_zero, List.getD_cons_succ, hq, hq2]
        simp [hl, hl2, i0, hi]
      · show some (0, [], [r, v, j32 (i + 1)], _) = _
        rw [j32_up i0 hi.1 l1]
      · show (len - (i + 1)).toNat < (len - i).toNat
        omega
    · refine Or.inl ⟨h, ?_, h1, h2, i, rfl⟩
      rw [hc]
      have : (decide (i < len) && decide (i < len2)) = false := by
        by_cases a1 : i < len
        · by_cases a2 : i < len2
          · exact absurd ⟨a1, a2⟩ hi
          · simp [a2]
        · simp [a1]
      rw [this]
      rfl) K (len - 0).toNat [r, v, 0] hh ⟨0, rfl, Int.le_refl _, l0, hH, FR.rf⟩ (Nat.le_refl _) (by omega)
  obtain ⟨en', h', e1, e2, e3, i, rfl⟩ := go.resolve_right (fun ⟨_, _, _, _, k⟩ => k)
  obtain ⟨v4, e4, h4, d1, d2, d3, d4⟩ := hR [r, v, i] _ ⟨hr, hr2, TV.zero, trivial⟩ e2
  refine ⟨[], h4, ?_, d2, e3.tr d3, trivial⟩
  have kk : evS xs L ck F K cW bb_97 [r, v, 0] ((a_g3, c, d), hh) = some (1, [], e4, ((a_g3, c, d), h4)) := by
    have q1 : evS xs L ck F K cW (sx 20 (sx 2 lI_97 (sx 12 lc_97 lb_97 ls_97) z0) z0 z0) [r, v, 0] ((a_g3, c, d), hh) = some (0, [], [r, v, i], ((a_g3, c, d), h')) := by
      rw [es_20, es_2, lI_97, es_3, es_12, ee_1]
      unfold s_seq
      dsimp only
      simp only [Option.bind_some, if_true]
      rw [show [r, v, 0].set (sx_n (sv 2)) (j_hd [if sx_n z0 = 0 then (sx_n z0 : Int) else -(sx_n z0 : Int)]) = [r, v, 0] from rfl, e1]
    rw [lq_97, es_2, es_2, es_17]
    unfold s_seq
    rw [q1, Option.bind_some]
    dsimp only
    rw [if_pos rfl, d1]
    rfl
  rw [evF_s, gm_97, hF]
  show (evS xs L ck F K cW bb_97 [r, v, 0] ((a_g3, c, d), hh)).bind _ = _
  rw [kk, Option.bind_some]
  exact if_pos chk_self
theorem tot_98 (hK : 4294967300 ≤ K) (hF : ∀ q, (g_T 1).2.2.2.1 q = true → TotF (g_T 1) (a_g3, c, d) g_ro (evF xs L g_ck K g_cW g_M (n + 1)) q) : TotF (g_T 0) (a_g3, c, d) g_ro (evF xs L g_ck K g_cW g_M (n + 2)) 98 :=
  gen_98 hK (fun _ _ => run_ty hK hF tA_98) (fun _ _ => run_ty hK hF tB_98) (fun _ _ => run_ty hK hF tD_98)
theorem tot_97 (hK : 4294967300 ≤ K) (hF : ∀ q, (g_T 2).2.2.2.1 q = true → TotF (g_T 2) (a_g3, c, d) g_ro (evF xs L g_ck K g_cW g_M n) q) : TotF (g_T 0) (a_g3, c, d) g_ro (evF xs L g_ck K g_cW g_M (n + 1)) 97 :=
  gen_97 hK (fun _ _ => run_ty hK hF tR_97)
/-- the same, up to a depth -/
theorem cls_lo {D : Nat} (hD : D ≤ 99999) (hK : 4294967300 ≤ K) (hand : ∀ n f, g_hd f = true → g_dp f < n → g_dp f < D → TotF (g_T 0) (a_g3, c, d) g_ro (evF xs L g_ck K g_cW g_M n) f) : ∀ n f, g_dp f < n → g_dp f < D → g_hd f = false → TotX (g_T 0) (a_g3, c, d) g_ro (evF xs L g_ck K g_cW g_M n) f ∧ (g_THR f = false → TotF (g_T 0) (a_g3, c, d) g_ro (evF xs L g_ck K g_cW g_M n) f)
  | 0, _, h, _, _ => absurd h (by omega)
  | n + 1, f, h, hd, hh => by
    have hk := (tk_all f).1
    simp only [g_tk, hh, Bool.or_false, Bool.or_eq_true, Nat.beq_eq] at hk
    have h1 := hk.resolve_left (by omega)
    rw [g_tc, Bool.and_eq_true] at h1
    refine ty_X (T := g_T (g_dp f)) (g := (a_g3, c, d)) g_GG (g_TG _) nt_cW (g_WK _) hK (fun q hq => ?_) h1.1 h1.2
    have hq2 : (Nat.blt (g_dp q) (g_dp f) && !g_THR q) = true := hq
    rw [Bool.and_eq_true] at hq2
    have hlt : g_dp q < g_dp f := by
      have := hq2.1
      simp only [Nat.blt_eq] at this
      exact this
    cases hx : g_hd q with
    | true => exact hand n q hx (by omega) (by omega)
    | false => exact (cls_lo hD hK hand n q (by omega) (by omega) hx).2 (by simpa using hq2.2)
/-- what may be called at a depth -/
theorem cls_up {D : Nat} (hD : D ≤ 99999) (hK : 4294967300 ≤ K) (hand : ∀ n f, g_hd f = true → g_dp f < n → g_dp f < D → TotF (g_T 0) (a_g3, c, d) g_ro (evF xs L g_ck K g_cW g_M n) f) {n : Nat} (hn : D ≤ n) : ∀ q, (g_T D).2.2.2.1 q = true → TotF (g_T D) (a_g3, c, d) g_ro (evF xs L g_ck K g_cW g_M n) q := fun q hq => by
  have hq2 : (Nat.blt (g_dp q) D && !g_THR q) = true := hq
  rw [Bool.and_eq_true] at hq2
  have hlt : g_dp q < D := by
    have := hq2.1
    simp only [Nat.blt_eq] at this
    exact this
  cases hx : g_hd q with
  | true => exact hand n q hx (by omega) hlt
  | false => exact (cls_lo hD hK hand n q (by omega) hlt hx).2 (by simpa using hq2.2)
theorem hd_cases {f : Nat} (h : g_hd f = true) : f = 54 ∨ f = 55 ∨ f = 56 ∨ f = 57 ∨ f = 58 ∨ f = 59 ∨ f = 68 ∨ f = 77 ∨ f = 97 ∨ f = 98 ∨ f = 101 ∨ f = 102 ∨ f = 103 ∨ f = 104 ∨ f = 151 := by
  simp only [g_hd, List.any_cons, List.any_nil, Bool.or_false, Bool.or_eq_true, Nat.beq_eq] at h
  omega
theorem hand_0 (hK : 4294967300 ≤ K) : ∀ n f, g_hd f = true → g_dp f < n → g_dp f < 1 → TotF (g_T 0) (a_g3, c, d) g_ro (evF xs L g_ck K g_cW g_M n) f
  | 0, f, _, h, _ => absurd h (by omega)
  | n + 1, f, hh, h, hd => by
    rcases hd_cases hh with rfl | rfl | rfl | rfl | rfl | rfl | rfl | rfl | rfl | rfl | rfl | rfl | rfl | rfl | rfl
    · exact tot_54
    · exact tot_55
    · exact tot_56
    · exact tot_57 hK
    · exact tot_58 hK
    · exact tot_59 hK
    · exact tot_68
    · exact tot_77 hK
    · exact absurd hd (by decide)
    · exact absurd hd (by decide)
    · exact tot_101
    · exact absurd hd (by decide)
    · exact absurd hd (by decide)
    · exact absurd hd (by decide)
    · exact absurd hd (by decide)
theorem hand_1 (hK : 4294967300 ≤ K) : ∀ n f, g_hd f = true → g_dp f < n → g_dp f < 2 → TotF (g_T 0) (a_g3, c, d) g_ro (evF xs L g_ck K g_cW g_M n) f
  | 0, f, _, h, _ => absurd h (by omega)
  | 1, f, hh, h, _ => hand_0 hK 1 f hh h h
  | n + 2, f, hh, h, hd => by
    by_cases h0 : g_dp f < 1
    · exact hand_0 hK (n + 2) f hh h h0
    · rcases hd_cases hh with rfl | rfl | rfl | rfl | rfl | rfl | rfl | rfl | rfl | rfl | rfl | rfl | rfl | rfl | rfl
      · exact absurd (by decide) h0
      · exact absurd (by decide) h0
      · exact absurd (by decide) h0
      · exact absurd (by decide) h0
      · exact absurd (by decide) h0
      · exact absurd (by decide) h0
      · exact absurd (by decide) h0
      · exact absurd (by decide) h0
      · exact absurd hd (by decide)
      · exact tot_98 hK (cls_up (by decide) hK (fun n f a b e => hand_0 hK n f a b e) (by omega))
      · exact absurd (by decide) h0
      · exact tot_102 hK
      · exact tot_103 hK
      · exact tot_104 hK
      · exact tot_151 hK
theorem g_hand (hK : 4294967300 ≤ K) : ∀ n f, g_hd f = true → g_dp f < n → TotF (g_T 0) (a_g3, c, d) g_ro (evF xs L g_ck K g_cW g_M n) f
  | 0, f, _, h => absurd h (by omega)
  | n + 1, f, hh, h => by
    by_cases h0 : g_dp f < 2
    · exact hand_1 hK (n + 1) f hh h h0
    · rcases hd_cases hh with rfl | rfl | rfl | rfl | rfl | rfl | rfl | rfl | rfl | rfl | rfl | rfl | rfl | rfl | rfl
      · exact absurd (by decide) h0
      · exact absurd (by decide) h0
      · exact absurd (by decide) h0
      · exact absurd (by decide) h0
      · exact absurd (by decide) h0
      · exact absurd (by decide) h0
      · exact absurd (by decide) h0
      · exact absurd (by decide) h0
      · exact tot_97 hK (cls_up (by decide) hK (fun n f a b e => hand_1 hK n f a b e) (by omega))
      · exact absurd (by decide) h0
      · exact absurd (by decide) h0
      · exact absurd (by decide) h0
      · exact absurd (by decide) h0
      · exact absurd (by decide) h0
      · exact absurd (by decide) h0
/-- every method of the class that has a depth comes to an end, keeps the kinds, the tape's length and the reference's cells -/
theorem g_cls (hK : 4294967300 ≤ K) (n f : Nat) (h : g_dp f < n) (h2 : g_dp f < 99999) : TotX (g_T 0) (a_g3, c, d) g_ro (evF xs L g_ck K g_cW g_M n) f ∧ (g_THR f = false → TotF (g_T 0) (a_g3, c, d) g_ro (evF xs L g_ck K g_cW g_M n) f) := by
  cases hx : g_hd f with
  | false => exact cls_lo (Nat.le_refl _) hK (fun n f a b _ => g_hand hK n f a b) n f h h2 hx
  | true =>
    have k := g_hand (xs := xs) (L := L) (c := c) (d := d) hK n f hx h
    refine ⟨fun av hh hH hv => ?_, fun _ => k⟩
    obtain ⟨r, h', e1, e2, e3, e4⟩ := k av hh hH hv
    exact ⟨1, r, _, h', e1, e2, e3, Or.inl ⟨rfl, rfl, e4⟩⟩
end LEAF5
