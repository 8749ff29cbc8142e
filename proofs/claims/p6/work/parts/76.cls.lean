/-! ===== grid, work and feed, as the law sees them: the class's side ===== -/
section CLS6
variable {xs : Nat → Int} {L K c d n : Nat} {F : XP}
theorem gm_2 : g_M 2 = (0, 2, [10], [1], bb_2) := rfl
theorem gm_4 : g_M 4 = (0, 2, [10], [1], bb_4) := rfl
theorem gm_61 : g_M 61 = (0, 1, [19], [], bb_61) := rfl
theorem cy_21 : c_ty g_fk a_g3 2 1 = 1 := by decide +kernel
theorem cy_3 : ∀ j, c_ty g_fk a_g3 3 j = 1 := by
  obtain ⟨c', h, e⟩ : ∃ c', a_g3[3]? = some c' ∧ c'.1 = 8 := by
    have h : (match a_g3[3]? with | some c' => decide (c'.1 = 8) | none => false) = true := by decide +kernel
    split at h
    · exact ⟨_, by assumption, of_decide_eq_true h⟩
    · cases h
  exact fun j => (ty_arr h j).2.2 e
theorem ro_21 : g_ro 2 1 = true := by decide
theorem ro_ge {o k : Nat} (h : 182 ≤ o) : g_ro o k = true := by
  unfold g_ro
  rw [Bool.or_eq_true, Bool.or_eq_true]
  exact Or.inl (Or.inr (Nat.ble_eq.mpr h))
theorem ro_t {k : Nat} : g_ro 3 k = true := by
  unfold g_ro
  rw [Bool.or_eq_true]
  exact Or.inr rfl
theorem clr_ok {ck : Nat → List Nat} {cW : Nat → Nat → Int} {o : Int} {st : XT} : evF xs L ck K cW g_M (n + 1) 61 [o] st = some (1, [], (st.1, j_up st.2 o.toNat 1 0)) := by
  rw [evF_s, gm_61]
  have k1 : evS xs L ck (evF xs L ck K cW g_M n) K cW bb_61 [o] st = some (1, [], [o], (st.1, j_up st.2 o.toNat 1 0)) := by
    generalize evF xs L ck K cW g_M n = F
    rfl
  show (evS xs L ck (evF xs L ck K cW g_M n) K cW bb_61 [o] st).bind _ = _
  rw [k1, Option.bind_some]
  exact if_pos chk_self
theorem root_ty : TV (fun _ => 0) a_g3 10 0 := by
  have h : (match a_g3[0]? with | some c' => decide (c'.1 = 10) | none => false) = true := by decide +kernel
  split at h
  · rename_i c' hc
    exact TV.ref (by decide) (by decide) ⟨Int.le_refl _, c', hc, of_decide_eq_true h⟩
  · cases h
theorem fld_ty {k kd : Nat} (hk : (g_fk 0)[k]? = some kd) (h6 : 6 ≤ kd) (h7 : kd < 100) : ∃ q : Int, j_rf a_g3 (0 : Int).toNat k = some q ∧ TV (fun _ => 0) a_g3 kd q := by
  obtain ⟨q, hq, q0, c', hc, he⟩ := ref_at (ci := 0) (k := k) root_ty (by decide) hk h6 h7
  exact ⟨q, hq, TV.ref h6 h7 ⟨q0, c', hc, he⟩⟩
theorem ht_clr {h : XH} (hH : HT g_fk a_g3 h) : HT g_fk a_g3 (j_up h (2 : Int).toNat 1 0) := hH.up (fun _ => in_0) (fun e => absurd (cy_21.symm.trans e) (by decide)) (fun e => absurd (cy_21.symm.trans e) (by decide))
/-- what a call of the class leaves -/
def KeptC (h h' : XH) : Prop := ∀ o k, 182 ≤ o → h' o k = h o k
theorem FR.kp {h h' : XH} (a : FR g_ro h h') : KeptC h h' := fun o k e => a o k (ro_ge e)
theorem KeptC.tr {h h1 h2 : XH} (a : KeptC h h1) (b : KeptC h1 h2) : KeptC h h2 := fun o k e => (b o k e).trans (a o k e)
theorem kp_clr {h : XH} : KeptC h (j_up h (2 : Int).toNat 1 0) := fun o k e => up_ne (fun z => by have := z.1; rw [show (2 : Int).toNat = 2 from rfl] at this; omega)
theorem grid_ok (hK : 4294967300 ≤ K) (hn : 5 < n) {h : XH} (hH : HT g_fk a_g3 h) : ∃ v h', evF xs L g_ck K g_cW g_M (n + 1) 2 [0] ((a_g3, c, d), h) = some (1, [v], ((a_g3, c, d), h')) ∧ HT g_fk a_g3 h' ∧ h' 2 1 = 0 ∧ KeptC h h' := by
  obtain ⟨q1, hq1, t1⟩ := fld_ty (k := 1) (kd := 15) rfl (by decide) (by decide)
  obtain ⟨q2, hq2, t2⟩ := fld_ty (k := 2) (kd := 15) rfl (by decide) (by decide)
  obtain ⟨q0, hq0, t0⟩ := fld_ty (k := 0) (kd := 16) rfl (by decide) (by decide)
  have e01 : q0 = 1 := Option.some.inj (hq0.symm.trans fg_1)
  subst e01
  obtain ⟨r1, h1, a1, a2, a3, a4⟩ := (g_cls (xs := xs) (L := L) (c := c) (d := d) hK n 119 (Nat.lt_of_le_of_lt (show g_dp 119 ≤ 5 by decide) hn) (by decide)).2 (by decide) [1, q2] h hH ⟨t0, t2, trivial⟩
  obtain ⟨v, rfl, hv⟩ := VL.one (t := 1) a4
  have h61 : ∀ st : XT, evF xs L g_ck K g_cW g_M n 61 [2] st = some (1, [], (st.1, j_up st.2 (2 : Int).toNat 1 0)) := fun st => by
    obtain ⟨m, rfl⟩ : ∃ m, n = m + 1 := ⟨n - 1, by omega⟩
    exact clr_ok
  have b2 := ht_clr a2
  have b3 : KeptC h (j_up h1 (2 : Int).toNat 1 0) := a3.kp.tr kp_clr
  have b4 : j_up h1 (2 : Int).toNat 1 0 2 1 = 0 := up_eq
  generalize hh2 : j_up h1 (2 : Int).toNat 1 0 = h2 at b2 b3 b4
  obtain ⟨r3, h3, c1, c2, c3, c4⟩ := (g_cls (xs := xs) (L := L) (c := c) (d := d) hK n 97 (Nat.lt_of_le_of_lt (show g_dp 97 ≤ 5 by decide) hn) (by decide)).2 (by decide) [q1, q2] h2 b2 ⟨t1, t2, trivial⟩
  obtain ⟨r4, h4, d1, d2, d3, d4⟩ := (g_cls (xs := xs) (L := L) (c := c) (d := d) hK n 3 (Nat.lt_of_le_of_lt (show g_dp 3 ≤ 5 by decide) hn) (by decide)).2 (by decide) [0] h3 c2 ⟨root_ty, trivial⟩
  refine ⟨v, if v = 0 then h4 else h2, ?_, ?_, ?_, ?_⟩
  · rw [evF_s, gm_2]
    have k1 : evS xs L g_ck (evF xs L g_ck K g_cW g_M n) K g_cW bb_2 [0, 0] ((a_g3, c, d), h) = some (1, [v], [0, v], ((a_g3, c, d), if v = 0 then h4 else h2)) := by
      generalize evF xs L g_ck K g_cW g_M n = F at a1 h61 c1 d1 ⊢
      unfold bb_2
      simp only [es_2, es_3, es_9, es_10, es_20, es_16, ee_32, ee_30, ee_31, ee_21, ee_5, ee_3, s_seq, s_if, n_call, n_cmp, Option.bind_some, j_hd, List.headD_cons, n_sv, n_z0, List.getD_cons_zero, List.getD_cons_succ, List.set_cons_succ, List.set_cons_zero, hq0, hq1, hq2, fg_2, List.cons_append, List.nil_append, a1, h61, hh2, if_true, j_cmp]
      by_cases hv0 : v = 0
      · subst hv0
        simp [j_b, c1, d1, h61, hh2]
      · simp [j_b, hv0, h61, hh2]
    show (evS xs L g_ck (evF xs L g_ck K g_cW g_M n) K g_cW bb_2 [0, 0] ((a_g3, c, d), h)).bind _ = _
    rw [k1, Option.bind_some]
    exact if_pos chk_self
  · split
    · exact d2
    · exact b2
  · split
    · rw [d3 2 1 ro_21, c3 2 1 ro_21]
      exact b4
    · exact b4
  · split
    · exact b3.tr (c3.kp.tr d3.kp)
    · exact b3
theorem work_ok (hK : 4294967300 ≤ K) (hn : 5 < n) {h : XH} (hH : HT g_fk a_g3 h) : ∃ v h', evF xs L g_ck K g_cW g_M (n + 1) 4 [0] ((a_g3, c, d), h) = some (1, [v], ((a_g3, c, d), h')) ∧ HT g_fk a_g3 h' ∧ h' 2 1 = 0 ∧ KeptC h h' := by
  obtain ⟨q1, hq1, t1⟩ := fld_ty (k := 1) (kd := 15) rfl (by decide) (by decide)
  obtain ⟨q3, hq3, t3⟩ := fld_ty (k := 3) (kd := 13) rfl (by decide) (by decide)
  obtain ⟨q4, hq4, t4⟩ := fld_ty (k := 4) (kd := 13) rfl (by decide) (by decide)
  obtain ⟨q0, hq0, t0⟩ := fld_ty (k := 0) (kd := 16) rfl (by decide) (by decide)
  have e01 : q0 = 1 := Option.some.inj (hq0.symm.trans fg_1)
  subst e01
  obtain ⟨r1, h1, a1, a2, a3, a4⟩ := (g_cls (xs := xs) (L := L) (c := c) (d := d) hK n 120 (Nat.lt_of_le_of_lt (show g_dp 120 ≤ 5 by decide) hn) (by decide)).2 (by decide) [1, q1, q4] h hH ⟨t0, t1, t4, trivial⟩
  obtain ⟨v, rfl, hv⟩ := VL.one (t := 1) a4
  have h61 : ∀ st : XT, evF xs L g_ck K g_cW g_M n 61 [2] st = some (1, [], (st.1, j_up st.2 (2 : Int).toNat 1 0)) := fun st => by
    obtain ⟨m, rfl⟩ : ∃ m, n = m + 1 := ⟨n - 1, by omega⟩
    exact clr_ok
  have b2 := ht_clr a2
  have b3 : KeptC h (j_up h1 (2 : Int).toNat 1 0) := a3.kp.tr kp_clr
  have b4 : j_up h1 (2 : Int).toNat 1 0 2 1 = 0 := up_eq
  generalize hh2 : j_up h1 (2 : Int).toNat 1 0 = h2 at b2 b3 b4
  obtain ⟨r3, h3, c1, c2, c3, c4⟩ := (g_cls (xs := xs) (L := L) (c := c) (d := d) hK n 117 (Nat.lt_of_le_of_lt (show g_dp 117 ≤ 5 by decide) hn) (by decide)).2 (by decide) [q3, q4] h2 b2 ⟨t3, t4, trivial⟩
  refine ⟨v, if v = 0 then h3 else h2, ?_, ?_, ?_, ?_⟩
  · rw [evF_s, gm_4]
    have k1 : evS xs L g_ck (evF xs L g_ck K g_cW g_M n) K g_cW bb_4 [0, 0] ((a_g3, c, d), h) = some (1, [v], [0, v], ((a_g3, c, d), if v = 0 then h3 else h2)) := by
      generalize evF xs L g_ck K g_cW g_M n = F at a1 h61 c1 ⊢
      unfold bb_4
      simp only [es_2, es_3, es_9, es_10, es_20, es_16, ee_32, ee_30, ee_31, ee_21, ee_5, ee_3, s_seq, s_if, n_call, n_cmp, Option.bind_some, j_hd, List.headD_cons, n_sv, n_z0, List.getD_cons_zero, List.getD_cons_succ, List.set_cons_succ, List.set_cons_zero, hq0, hq1, hq3, hq4, fg_2, List.cons_append, List.nil_append, a1, h61, hh2, if_true, j_cmp]
      by_cases hv0 : v = 0
      · subst hv0
        simp [j_b, c1, h61, hh2]
      · simp [j_b, hv0, h61, hh2]
    show (evS xs L g_ck (evF xs L g_ck K g_cW g_M n) K g_cW bb_4 [0, 0] ((a_g3, c, d), h)).bind _ = _
    rw [k1, Option.bind_some]
    exact if_pos chk_self
  · split
    · exact c2
    · exact b2
  · split
    · rw [c3 2 1 ro_21]
      exact b4
    · exact b4
  · split
    · exact b3.tr c3.kp
    · exact b3
end CLS6
