/-! ===== loops of the class's leaves (written by wip/tools/hand.py) ===== -/
def lc_57 : SX := (sx 20 (sx 3 (sv 2) z0 z0) (sx 10 (sx 5 (sx 3 z0 z0 z0) z0 z0) z0 z0) (sv 2))
def lb_57 : SX := (sx 20 (sx 7 (sx 5 (sx 3 z0 z0 z0) z0 z0) (sx 3 (sv 2) z0 z0) (so 6 (sx 3 (sv 1) z0 z0))) z0 z0)
def ls_57 : SX := (sx 4 (sv 2) (sv 1) z0)
theorem lq_57 : bb_57 = sx 2 (sx 20 (sx 2 (sx 3 (sv 2) (sx 1 z0 (sv 1) z0) z0) (sx 12 lc_57 lb_57 ls_57) z0) z0 z0) (sx 17 z0 z0 z0) z0 := rfl
theorem gm_57 : g_M 57 = (0, 3, [17, 1], [], bb_57) := rfl
def lc_58 : SX := (sx 25 (sx 20 (sx 3 (sv 2) z0 z0) (sx 10 (sx 5 (sx 3 z0 z0 z0) z0 z0) z0 z0) (sv 2)) (sx 20 (sx 3 (sv 2) z0 z0) (sx 10 (sx 5 (sx 3 (sv 1) z0 z0) z0 z0) z0 z0) (sv 2)) z0)
def lb_58 : SX := (sx 20 (sx 7 (sx 5 (sx 3 z0 z0 z0) z0 z0) (sx 3 (sv 2) z0 z0) (so 6 (sx 7 (sx 5 (sx 3 (sv 1) z0 z0) z0 z0) (sx 3 (sv 2) z0 z0) z0))) z0 z0)
def ls_58 : SX := (sx 4 (sv 2) (sv 1) z0)
theorem lq_58 : bb_58 = sx 2 (sx 20 (sx 2 (sx 3 (sv 2) (sx 1 z0 (sv 1) z0) z0) (sx 12 lc_58 lb_58 ls_58) z0) z0 z0) (sx 17 z0 z0 z0) z0 := rfl
theorem gm_58 : g_M 58 = (0, 3, [17, 17], [], bb_58) := rfl
def lc_59 : SX := (sx 25 (sx 21 (sx 3 (sv 1) z0 z0) z0 (sv 3)) (sx 20 (sx 3 (sv 2) z0 z0) (sx 14 (sx 10 (sx 5 (sx 3 z0 z0 z0) z0 z0) z0 z0) (sx 3 (sv 1) z0 z0) (sv 1)) (sv 2)) z0)
def lb_59 : SX := (sx 20 (sx 7 (sx 5 (sx 3 z0 z0 z0) z0 z0) (sx 3 (sv 2) z0 z0) (so 6 (sx 7 (sx 5 (sx 3 z0 z0 z0) z0 z0) (sx 14 (sx 3 (sv 2) z0 z0) (sx 3 (sv 1) z0 z0) z0) z0))) z0 z0)
def ls_59 : SX := (sx 4 (sv 2) (sv 1) z0)
theorem lq_59 : bb_59 = sx 2 (sx 20 (sx 2 (sx 3 (sv 2) (sx 1 z0 (sv 1) z0) z0) (sx 12 lc_59 lb_59 ls_59) z0) z0 z0) (sx 17 z0 z0 z0) z0 := rfl
theorem gm_59 : g_M 59 = (0, 3, [17, 1], [], bb_59) := rfl
def lc_77 : SX := (sx 25 (sx 20 (sx 4 (sx 3 z0 z0 z0) (sv 3) z0) (sx 1 (sv 1) (sv 1) z0) z0) (sx 20 (sx 3 (sv 1) z0 z0) (sx 10 (sx 1 z0 (sv 4) z0) z0 (sv 2)) (sv 2)) z0)
def lb_77 : SX := (sx 20 (sx 10 (sx 22 (sx 13 (sx 7 (sx 1 z0 (sv 4) z0) (sx 3 (sv 1) z0 z0) (sv 2)) z0 z0) (sx 4 (sx 3 z0 z0 z0) (sv 6) z0) z0) (sx 20 (sx 16 (sx 7 (sx 1 z0 (sv 4) z0) (sx 3 (sv 1) z0 z0) (sv 2)) z0 z0) z0 z0) z0) z0 z0)
def ls_77 : SX := (sx 4 (sv 1) (sv 1) z0)
theorem lq_77 : bb_77 = sx 2 (sx 20 (sx 2 (sx 3 (sv 1) (sx 1 z0 (sv 1) z0) z0) (sx 12 lc_77 lb_77 ls_77) z0) z0 z0) (sx 16 (sx 1 (sv 23) (sv 3) z0) z0 z0) z0 := rfl
theorem gm_77 : g_M 77 = (0, 2, [19], [3], bb_77) := rfl
def lc_105 : SX := (sx 25 (sx 20 (sx 3 (sv 5) z0 z0) (sx 3 (sv 4) z0 z0) (sv 2)) (sx 20 (sx 14 (sx 3 (sv 3) z0 z0) (sx 3 (sv 5) z0 z0) z0) (sx 10 (sx 5 (sx 3 z0 z0 z0) z0 z0) z0 z0) (sv 2)) z0)
def lb_105 : SX := (sx 20 (sx 10 (sx 22 (sx 7 (sx 5 (sx 3 z0 z0 z0) z0 z0) (sx 14 (sx 3 (sv 3) z0 z0) (sx 3 (sv 5) z0 z0) z0) z0) (sx 3 (sv 1) z0 z0) z0) (sx 20 (sx 16 (sx 3 (sv 5) z0 z0) z0 z0) z0 z0) z0) z0 z0)
def ls_105 : SX := (sx 4 (sv 5) (sv 1) z0)
theorem lq_105 : bb_105 = sx 2 (sx 20 (sx 2 (sx 3 (sv 5) (sx 1 z0 (sv 1) z0) z0) (sx 12 lc_105 lb_105 ls_105) z0) z0 z0) (sx 16 (sx 1 (sv 1) (sv 1) (sv 1)) z0 z0) z0 := rfl
theorem gm_105 : g_M 105 = (0, 6, [15, 2, 1, 1], [1], bb_105) := rfl
def lc_151 : SX := (sx 20 (sx 3 (sv 4) z0 z0) (sx 3 (sv 3) z0 z0) (sv 5))
def lb_151 : SX := (sx 20 (sx 10 (sx 20 (sx 32 (sx 30 (sx 5 (sx 3 z0 z0 z0) z0 z0) (sx 30 (sx 14 (sx 14 (sx 3 (sv 1) z0 z0) (sx 1 (sv 13) (sv 1) z0) (sv 2)) (sx 3 (sv 4) z0 z0) z0) (sx 31 z0 z0 z0) z0) z0) (sv 54) z0) (sx 1 (sv 1) (sv 1) (sv 1)) (sv 1)) (sx 20 (sx 16 (sx 3 (sv 4) z0 z0) z0 z0) z0 z0) z0) z0 z0)
def ls_151 : SX := (sx 4 (sv 4) (sv 1) z0)
theorem lq_151 : bb_151 = sx 2 (sx 20 (sx 2 (sx 3 (sv 4) (sx 14 (sx 3 (sv 2) z0 z0) (sx 1 (sv 1) (sv 1) z0) z0) z0) (sx 12 lc_151 lb_151 ls_151) z0) z0 z0) (sx 16 (sx 1 (sv 1) (sv 1) (sv 1)) z0 z0) z0 := rfl
theorem gm_151 : g_M 151 = (0, 5, [12, 1, 1, 1], [1], bb_151) := rfl
section LEAF
variable {xs : Nat → Int} {L K c d n : Nat} {ck : Nat → List Nat} {cW : Nat → Nat → Int}
theorem j32_up {i l : Int} (h0 : 0 ≤ i) (h1 : i < l) (h2 : l < 2147483648) : j32 (i + 1) = i + 1 := j32_in ⟨by omega, by omega⟩
theorem tot_57 (hK : 4294967300 ≤ K) : TotF (g_T 0) (a_g3, c, d) g_ro (evF xs L ck K cW g_M (n + 1)) 57 := by
  intro av hh hH hv
  obtain ⟨r, v, rfl, hr, hvi⟩ := VL2 (s := 17) (t := 1) hv
  obtain ⟨q, len, hq, hl, l0, l1, ht, hro⟩ := row_at hr
  have hv1 := hvi.1 rfl
  have go := lp_gen (g := (a_g3, c, d)) (C' := evE xs L ck (evF xs L ck K cW g_M n) cW lc_57) (B' := evS xs L ck (evF xs L ck K cW g_M n) K cW lb_57) (P' := evS xs L ck (evF xs L ck K cW g_M n) K cW ls_57)
    (Inv := fun en h => ∃ i : Int, en = [r, v, i] ∧ 0 ≤ i ∧ i ≤ len ∧ HT g_fk a_g3 h ∧ FR g_ro hh h) (Done := fun _ h => HT g_fk a_g3 h ∧ FR g_ro hh h) (Ret := fun _ _ => False) (mea := fun en _ => (len - en.getD 2 0).toNat) (by
    rintro en h ⟨i, rfl, i0, i1, h1, h2⟩
    have hc : evE xs L ck (evF xs L ck K cW g_M n) cW lc_57 [r, v, i] ((a_g3, c, d), h) = some ([j_b (decide (i < len))], ((a_g3, c, d), h)) := by
      unfold lc_57
      simp only [ee_20, ee_10, ee_5, ee_3, n_cmp, n_alen, Option.bind_some, j_hd, List.headD_cons, n_sv, n_z0, List.getD_cons_zero, List.getD_cons_succ, hq, hl, j_cmp]
      rfl
    by_cases hi : i < len
    · refine Or.inr ⟨1, h, by decide, by rw [hc, decide_eq_true hi]; rfl, 0, [], [r, v, i], j_up h q.toNat i.toNat v, ?_, Or.inl ⟨Or.inl rfl, [r, v, i + 1], j_up h q.toNat i.toNat v, ?_, ⟨i + 1, rfl, by omega, by omega, up_i ht h1 hv1, h2.tr (FR.up (hro _))⟩, ?_⟩⟩
      · unfold lb_57
        simp only [es_20, es_7, s_ast, ee_5, ee_3, Option.bind_some, j_hd, List.headD_cons, n_sv, n_z0, List.getD_cons_zero, List.getD_cons_succ, hq]
        simp [hl, i0, hi]
      · show some (0, [], [r, v, j32 (i + 1)], _) = _
        rw [j32_up i0 hi l1]
      · show (len - (i + 1)).toNat < (len - i).toNat
        omega
    · exact Or.inl ⟨h, by rw [hc, decide_eq_false hi]; rfl, h1, h2⟩) K (len - 0).toNat [r, v, 0] hh ⟨0, rfl, Int.le_refl _, l0, hH, FR.rf⟩ (Nat.le_refl _) (by omega)
  obtain ⟨en', h', e1, e2, e3⟩ := go.resolve_right (fun ⟨_, _, _, _, k⟩ => k)
  refine ⟨[], h', ?_, e2, e3, trivial⟩
  rw [evF_s, gm_57]
  have k1 : evS xs L ck (evF xs L ck K cW g_M n) K cW bb_57 [r, v, 0] ((a_g3, c, d), hh) = some (1, [], en', ((a_g3, c, d), h')) := by
    rw [lq_57, es_2, es_20, es_2, es_3, es_12, es_17, ee_1]
    unfold s_seq
    dsimp only
    simp only [Option.bind_some, if_true]
    rw [show [r, v, 0].set (sx_n (sv 2)) (j_hd [if sx_n z0 = 0 then (sx_n z0 : Int) else -(sx_n z0 : Int)]) = [r, v, 0] from rfl, e1]
    rfl
  show (evS xs L ck (evF xs L ck K cW g_M n) K cW bb_57 [r, v, 0] ((a_g3, c, d), hh)).bind _ = _
  rw [k1, Option.bind_some]
  exact if_pos chk_self
theorem tot_58 (hK : 4294967300 ≤ K) : TotF (g_T 0) (a_g3, c, d) g_ro (evF xs L ck K cW g_M (n + 1)) 58 := by
  intro av hh hH hv
  obtain ⟨r, v, rfl, hr, hr2⟩ := VL2 (s := 17) (t := 17) hv
  obtain ⟨q, len, hq, hl, l0, l1, ht, hro⟩ := row_at hr
  obtain ⟨q2, len2, hq2, hl2, l02, l12, ht2, hro2⟩ := row_at hr2
  have go := lp_gen (g := (a_g3, c, d)) (C' := evE xs L ck (evF xs L ck K cW g_M n) cW lc_58) (B' := evS xs L ck (evF xs L ck K cW g_M n) K cW lb_58) (P' := evS xs L ck (evF xs L ck K cW g_M n) K cW ls_58)
    (Inv := fun en h => ∃ i : Int, en = [r, v, i] ∧ 0 ≤ i ∧ i ≤ len ∧ HT g_fk a_g3 h ∧ FR g_ro hh h) (Done := fun _ h => HT g_fk a_g3 h ∧ FR g_ro hh h) (Ret := fun _ _ => False) (mea := fun en _ => (len - en.getD 2 0).toNat) (by
    rintro en h ⟨i, rfl, i0, i1, h1, h2⟩
    have hc : evE xs L ck (evF xs L ck K cW g_M n) cW lc_58 [r, v, i] ((a_g3, c, d), h) = some ([j_b (decide (i < len) && decide (i < len2))], ((a_g3, c, d), h)) := by
      unfold lc_58
      simp only [ee_25, n_ife, n_nz, ee_20, ee_10, ee_5, ee_3, n_cmp, n_alen, Option.bind_some, j_hd, List.headD_cons, n_sv, n_z0, List.getD_cons_zero, List.getD_cons_succ, hq, hl, hq2, hl2, j_cmp]
      by_cases a1 : i < len <;> by_cases a2 : i < len2 <;> simp [a1, a2, j_b]
    by_cases hi : i < len ∧ i < len2
    · refine Or.inr ⟨1, h, by decide, by rw [hc, decide_eq_true hi.1, decide_eq_true hi.2]; rfl, 0, [], [r, v, i], j_up h q.toNat i.toNat (h q2.toNat i.toNat), ?_, Or.inl ⟨Or.inl rfl, [r, v, i + 1], j_up h q.toNat i.toNat (h q2.toNat i.toNat), ?_, ⟨i + 1, rfl, by omega, by omega, up_i ht h1 ((h1 q2.toNat i.toNat).1 (ht2 _)), h2.tr (FR.up (hro _))⟩, ?_⟩⟩
      · unfold lb_58
        simp only [es_20, es_7, s_ast, ee_7, n_aload, ee_5, ee_3, Option.bind_some, j_hd, List.headD_cons, n_sv, n_z0, List.getD_cons_zero, List.getD_cons_succ, hq, hq2]
        simp [hl, hl2, i0, hi]
      · show some (0, [], [r, v, j32 (i + 1)], _) = _
        rw [j32_up i0 hi.1 l1]
      · show (len - (i + 1)).toNat < (len - i).toNat
        omega
    · refine Or.inl ⟨h, ?_, h1, h2⟩
      rw [hc]
      have : (decide (i < len) && decide (i < len2)) = false := by
        by_cases a1 : i < len
        · by_cases a2 : i < len2
          · exact absurd ⟨a1, a2⟩ hi
          · simp [a2]
        · simp [a1]
      rw [this]
      rfl) K (len - 0).toNat [r, v, 0] hh ⟨0, rfl, Int.le_refl _, l0, hH, FR.rf⟩ (Nat.le_refl _) (by omega)
  obtain ⟨en', h', e1, e2, e3⟩ := go.resolve_right (fun ⟨_, _, _, _, k⟩ => k)
  refine ⟨[], h', ?_, e2, e3, trivial⟩
  rw [evF_s, gm_58]
  have k1 : evS xs L ck (evF xs L ck K cW g_M n) K cW bb_58 [r, v, 0] ((a_g3, c, d), hh) = some (1, [], en', ((a_g3, c, d), h')) := by
    rw [lq_58, es_2, es_20, es_2, es_3, es_12, es_17, ee_1]
    unfold s_seq
    dsimp only
    simp only [Option.bind_some, if_true]
    rw [show [r, v, 0].set (sx_n (sv 2)) (j_hd [if sx_n z0 = 0 then (sx_n z0 : Int) else -(sx_n z0 : Int)]) = [r, v, 0] from rfl, e1]
    rfl
  show (evS xs L ck (evF xs L ck K cW g_M n) K cW bb_58 [r, v, 0] ((a_g3, c, d), hh)).bind _ = _
  rw [k1, Option.bind_some]
  exact if_pos chk_self
end LEAF
section LEAF2
variable {xs : Nat → Int} {L K c d n : Nat} {ck : Nat → List Nat} {cW : Nat → Nat → Int} {F : XP} {a b e : SX}
theorem tot_59 (hK : 4294967300 ≤ K) : TotF (g_T 0) (a_g3, c, d) g_ro (evF xs L ck K cW g_M (n + 1)) 59 := by
  intro av hh hH hv
  obtain ⟨r, v, rfl, hr, hvi⟩ := VL2 (s := 17) (t := 1) hv
  obtain ⟨q, len, hq, hl, l0, l1, ht, hro⟩ := row_at hr
  have hv1 := hvi.1 rfl
  unfold InI at hv1
  have go := lp_gen (g := (a_g3, c, d)) (C' := evE xs L ck (evF xs L ck K cW g_M n) cW lc_59) (B' := evS xs L ck (evF xs L ck K cW g_M n) K cW lb_59) (P' := evS xs L ck (evF xs L ck K cW g_M n) K cW ls_59)
    (Inv := fun en h => ∃ i : Int, en = [r, v, i] ∧ 0 ≤ i ∧ i ≤ len ∧ HT g_fk a_g3 h ∧ FR g_ro hh h) (Done := fun _ h => HT g_fk a_g3 h ∧ FR g_ro hh h) (Ret := fun _ _ => False) (mea := fun en _ => (len - en.getD 2 0).toNat) (by
    rintro en h ⟨i, rfl, i0, i1, h1, h2⟩
    by_cases hi : 0 ≤ v ∧ i < len - v
    · have e9 : j_iop 1 len v = len - v := j32_in ⟨by omega, by omega⟩
      have e8 : j_iop 0 i v = i + v := j32_in ⟨by omega, by omega⟩
      have hc : evE xs L ck (evF xs L ck K cW g_M n) cW lc_59 [r, v, i] ((a_g3, c, d), h) = some ([1], ((a_g3, c, d), h)) := by
        unfold lc_59
        simp only [ee_25, ee_21, n_ife, n_nz, ee_20, ee_14, n_bin, ee_10, ee_5, ee_3, n_cmp, n_alen, Option.bind_some, j_hd, List.headD_cons, n_sv, n_z0, List.getD_cons_zero, List.getD_cons_succ, hq, hl, j_cmp, e9]
        simp [hi.1, hi.2, j_b]
      refine Or.inr ⟨1, h, by decide, hc, 0, [], [r, v, i], j_up h q.toNat i.toNat (h q.toNat (i + v).toNat), ?_, Or.inl ⟨Or.inl rfl, [r, v, i + 1], j_up h q.toNat i.toNat (h q.toNat (i + v).toNat), ?_, ⟨i + 1, rfl, by omega, by omega, up_i ht h1 ((h1 q.toNat (i + v).toNat).1 (ht _)), h2.tr (FR.up (hro _))⟩, ?_⟩⟩
      · unfold lb_59
        simp only [es_20, es_7, s_ast, ee_7, n_aload, ee_14, n_bin, ee_5, ee_3, Option.bind_some, j_hd, List.headD_cons, n_sv, n_z0, List.getD_cons_zero, List.getD_cons_succ, hq, hl, e8]
        have a1 : 0 ≤ i + v ∧ i + v < len := by omega
        have a2 : 0 ≤ i ∧ i < len := by omega
        simp [hl, a1, a2]
      · show some (0, [], [r, v, j32 (i + 1)], _) = _
        rw [j32_up i0 (by omega : i < len) l1]
      · show (len - (i + 1)).toNat < (len - i).toNat
        omega
    · have hc : evE xs L ck (evF xs L ck K cW g_M n) cW lc_59 [r, v, i] ((a_g3, c, d), h) = some ([0], ((a_g3, c, d), h)) := by
        unfold lc_59
        simp only [ee_25, ee_21, n_ife, n_nz, ee_20, ee_14, n_bin, ee_10, ee_5, ee_3, n_cmp, n_alen, Option.bind_some, j_hd, List.headD_cons, n_sv, n_z0, List.getD_cons_zero, List.getD_cons_succ, hq, hl, j_cmp]
        by_cases hv0 : 0 ≤ v
        · have e9 : j_iop 1 len v = len - v := j32_in ⟨by omega, by omega⟩
          have hn : ¬ i < len - v := fun k => hi ⟨hv0, k⟩
          simp [hv0, e9, hn, j_b]
        · simp [hv0, j_b]
      exact Or.inl ⟨h, hc, h1, h2⟩) K (len - 0).toNat [r, v, 0] hh ⟨0, rfl, Int.le_refl _, l0, hH, FR.rf⟩ (Nat.le_refl _) (by omega)
  obtain ⟨en', h', e1, e2, e3⟩ := go.resolve_right (fun ⟨_, _, _, _, k⟩ => k)
  refine ⟨[], h', ?_, e2, e3, trivial⟩
  rw [evF_s, gm_59]
  have k1 : evS xs L ck (evF xs L ck K cW g_M n) K cW bb_59 [r, v, 0] ((a_g3, c, d), hh) = some (1, [], en', ((a_g3, c, d), h')) := by
    rw [lq_59, es_2, es_20, es_2, es_3, es_12, es_17, ee_1]
    unfold s_seq
    dsimp only
    simp only [Option.bind_some, if_true]
    rw [show [r, v, 0].set (sx_n (sv 2)) (j_hd [if sx_n z0 = 0 then (sx_n z0 : Int) else -(sx_n z0 : Int)]) = [r, v, 0] from rfl, e1]
    rfl
  show (evS xs L ck (evF xs L ck K cW g_M n) K cW bb_59 [r, v, 0] ((a_g3, c, d), hh)).bind _ = _
  rw [k1, Option.bind_some]
  exact if_pos chk_self
theorem gm_68 : g_M 68 = (0, 2, [19, 1], [1], bb_68) := rfl
theorem gm_101 : g_M 101 = (0, 4, [15, 1, 2], [], bb_101) := rfl
theorem tot_68 : TotF (g_T 0) (a_g3, c, d) g_ro (evF xs L ck K cW g_M (n + 1)) 68 := by
  intro av hh hH hv
  obtain ⟨r, i, rfl, hr, hi⟩ := VL2 (s := 19) (t := 1) hv
  obtain ⟨q, hq, q0, c', hc', he'⟩ := ref_at (ci := 9) (k := 0) (kd := 8) hr (by decide) rfl (by decide) (by decide)
  obtain ⟨hl, hl2⟩ := len_at hc'
  have ht := fun j => (ty_arr hc' j).2.2 he'
  generalize (c'.2.1 : Int) = len at hl hl2
  have hv1 : ∀ b : Bool, InI (if b = true then hh q.toNat i.toNat else -1) := fun b => by
    cases b
    · show InI (-1)
      exact ⟨by decide, by decide⟩
    · exact (hH q.toNat i.toNat).1 (ht _)
  refine ⟨[if (decide (0 ≤ i) && decide (i < hh r.toNat 1) && decide (i < len)) = true then hh q.toNat i.toNat else -1], hh, ?_, hH, FR.rf, TV.int (hv1 _), trivial⟩
  rw [evF_s, gm_68]
  have k1 : evS xs L ck (evF xs L ck K cW g_M n) K cW bb_68 [r, i] ((a_g3, c, d), hh) = some (1, [if (decide (0 ≤ i) && decide (i < hh r.toNat 1) && decide (i < len)) = true then hh q.toNat i.toNat else -1], [r, i], ((a_g3, c, d), hh)) := by
    generalize evF xs L ck K cW g_M n = F
    unfold bb_68
    simp only [es_16, ee_28, ee_25, ee_21, ee_20, ee_10, ee_7, ee_5, ee_4, ee_3, ee_1, n_ife, n_nz, n_cmp, n_alen, n_aload, Option.bind_some, j_hd, List.headD_cons, n_sv, n_z0, List.getD_cons_zero, List.getD_cons_succ, hq, hl, j_cmp, if_true]
    by_cases h1 : 0 ≤ i <;> by_cases h2 : i < hh r.toNat 1 <;> by_cases h3 : i < len <;> simp [h1, h2, h3, j_b, hq, hl]
  show (evS xs L ck (evF xs L ck K cW g_M n) K cW bb_68 [r, i] ((a_g3, c, d), hh)).bind _ = _
  rw [k1, Option.bind_some]
  exact if_pos chk_self
theorem tot_101 : TotF (g_T 0) (a_g3, c, d) g_ro (evF xs L ck K cW g_M (n + 1)) 101 := by
  intro av hh hH hv
  obtain ⟨r, i, v, rfl, hr, hi, hvv⟩ := VL3 (s := 15) (t := 1) (u := 2) hv
  obtain ⟨r0, c1, hc1, he1⟩ := hr.2.2.2.2.1 (by decide) (by decide)
  obtain ⟨q, hq, q0, c', hc', he'⟩ := ref_at (ci := 5) (k := 0) (kd := 7) hr (by decide) rfl (by decide) (by decide)
  obtain ⟨hl, hl2⟩ := len_at hc'
  have ht := fun j => (ty_arr hc' j).2.1 he'
  have hro := ro_arr hc1 (by omega) (by omega) hq hc' he' (by decide)
  generalize (c'.2.1 : Int) = len at hl hl2
  refine ⟨[], if 0 ≤ i ∧ i < len then j_up hh q.toNat i.toNat v else hh, ?_, ?_, ?_, trivial⟩
  · rw [evF_s, gm_101]
    have k1 : evS xs L ck (evF xs L ck K cW g_M n) K cW bb_101 [r, i, v, 0] ((a_g3, c, d), hh) = some (1, [], [r, i, v, 0], ((a_g3, c, d), if 0 ≤ i ∧ i < len then j_up hh q.toNat i.toNat v else hh)) := by
      generalize evF xs L ck K cW g_M n = F
      unfold bb_101
      simp only [es_2, es_10, es_20, es_7, es_17, s_seq, s_if, s_ast, ee_25, ee_21, ee_20, ee_10, ee_5, ee_3, ee_1, n_ife, n_nz, n_cmp, n_alen, Option.bind_some, j_hd, List.headD_cons, n_sv, n_z0, List.getD_cons_zero, List.getD_cons_succ, hq, hl, j_cmp, if_true]
      by_cases h1 : 0 ≤ i <;> by_cases h2 : i < len <;> simp [h1, h2, j_b, hq, hl]
    show (evS xs L ck (evF xs L ck K cW g_M n) K cW bb_101 [r, i, v, 0] ((a_g3, c, d), hh)).bind _ = _
    rw [k1, Option.bind_some]
    exact if_pos chk_self
  · split
    · exact HT.up hH (fun e => absurd ((ht _).symm.trans e) (by decide)) (fun _ => hvv.2.1 rfl) (fun e => absurd ((ht _).symm.trans e) (by decide))
    · exact hH
  · split
    · exact FR.up (hro _)
    · exact FR.rf
end LEAF2
