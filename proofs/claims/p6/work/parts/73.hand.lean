/-! ===== the class's leaves: those that call ===== -/
section LEAF4
variable {xs : Nat → Int} {L K c d n : Nat} {ck : Nat → List Nat} {cW : Nat → Nat → Int} {F : XP} {a b e : SX}
theorem gm_102 : g_M 102 = (0, 3, [15, 2], [1], bb_102) := rfl
theorem gm_103 : g_M 103 = (0, 3, [15, 2], [1], bb_103) := rfl
theorem gm_104 : g_M 104 = (0, 3, [15, 2], [1], bb_104) := rfl
theorem tot_102 (hK : 4294967300 ≤ K) : TotF (g_T 0) (a_g3, c, d) g_ro (evF xs L ck K cW g_M (n + 2)) 102 := by
  intro av hh hH hv
  obtain ⟨p, name, rfl, hp, hn⟩ := VL2 (s := 15) (t := 2) hv
  obtain ⟨v, hv1, e1⟩ := find_ok (xs := xs) (L := L) (ck := ck) (cW := cW) (c := c) (d := d) (n := n) hK (name := name) (from0 := 0) (many := hh p.toNat 10) (hh := hh) hp (by decide) (by decide)
  refine ⟨[v], hh, ?_, hH, FR.rf, TV.int hv1, trivial⟩
  rw [evF_s, gm_102]
  generalize evF xs L ck K cW g_M (n + 1) = F at e1
  have k1 : evS xs L ck F K cW bb_102 [p, name, 0] ((a_g3, c, d), hh) = some (1, [v], [p, name, 0], ((a_g3, c, d), hh)) := by
    unfold bb_102
    simp only [es_16, ee_32, n_call, ee_30, ee_31, ee_4, ee_3, ee_1, Option.bind_some, j_hd, List.headD_cons, n_sv, n_z0, List.getD_cons_zero, List.getD_cons_succ, List.cons_append, List.nil_append, if_true]
    have e2 : F 105 [p, name, ((0 : Nat) : Int), hh p.toNat 10] ((a_g3, c, d), hh) = some (1, [v], ((a_g3, c, d), hh)) := e1
    rw [e2]
    rfl
  show (evS xs L ck F K cW bb_102 [p, name, 0] ((a_g3, c, d), hh)).bind _ = _
  rw [k1, Option.bind_some]
  exact if_pos chk_self
theorem tot_103 (hK : 4294967300 ≤ K) : TotF (g_T 0) (a_g3, c, d) g_ro (evF xs L ck K cW g_M (n + 2)) 103 := by
  intro av hh hH hv
  obtain ⟨p, name, rfl, hp, hn⟩ := VL2 (s := 15) (t := 2) hv
  obtain ⟨v, hv1, e1⟩ := find_ok (xs := xs) (L := L) (ck := ck) (cW := cW) (c := c) (d := d) (n := n) hK (name := name) (from0 := 4) (many := hh p.toNat 11) (hh := hh) hp (by decide) (by decide)
  refine ⟨[v], hh, ?_, hH, FR.rf, TV.int hv1, trivial⟩
  rw [evF_s, gm_103]
  generalize evF xs L ck K cW g_M (n + 1) = F at e1
  have k1 : evS xs L ck F K cW bb_103 [p, name, 0] ((a_g3, c, d), hh) = some (1, [v], [p, name, 0], ((a_g3, c, d), hh)) := by
    unfold bb_103
    simp only [es_16, ee_32, n_call, ee_30, ee_31, ee_4, ee_3, ee_1, Option.bind_some, j_hd, List.headD_cons, n_sv, n_z0, List.getD_cons_zero, List.getD_cons_succ, List.cons_append, List.nil_append, if_true]
    have e2 : F 105 [p, name, ((4 : Nat) : Int), hh p.toNat 11] ((a_g3, c, d), hh) = some (1, [v], ((a_g3, c, d), hh)) := e1
    rw [e2]
    rfl
  show (evS xs L ck F K cW bb_103 [p, name, 0] ((a_g3, c, d), hh)).bind _ = _
  rw [k1, Option.bind_some]
  exact if_pos chk_self
theorem tot_104 (hK : 4294967300 ≤ K) : TotF (g_T 0) (a_g3, c, d) g_ro (evF xs L ck K cW g_M (n + 2)) 104 := by
  intro av hh hH hv
  obtain ⟨p, name, rfl, hp, hn⟩ := VL2 (s := 15) (t := 2) hv
  obtain ⟨v, hv1, e1⟩ := find_ok (xs := xs) (L := L) (ck := ck) (cW := cW) (c := c) (d := d) (n := n) hK (name := name) (from0 := 8) (many := hh p.toNat 12) (hh := hh) hp (by decide) (by decide)
  refine ⟨[v], hh, ?_, hH, FR.rf, TV.int hv1, trivial⟩
  rw [evF_s, gm_104]
  generalize evF xs L ck K cW g_M (n + 1) = F at e1
  have k1 : evS xs L ck F K cW bb_104 [p, name, 0] ((a_g3, c, d), hh) = some (1, [v], [p, name, 0], ((a_g3, c, d), hh)) := by
    unfold bb_104
    simp only [es_16, ee_32, n_call, ee_30, ee_31, ee_4, ee_3, ee_1, Option.bind_some, j_hd, List.headD_cons, n_sv, n_z0, List.getD_cons_zero, List.getD_cons_succ, List.cons_append, List.nil_append, if_true]
    have e2 : F 105 [p, name, ((8 : Nat) : Int), hh p.toNat 12] ((a_g3, c, d), hh) = some (1, [v], ((a_g3, c, d), hh)) := e1
    rw [e2]
    rfl
  show (evS xs L ck F K cW bb_104 [p, name, 0] ((a_g3, c, d), hh)).bind _ = _
  rw [k1, Option.bind_some]
  exact if_pos chk_self
theorem j32_m (a b : Int) : j32 (a + j32 b) = j32 (a + b) := by
  show (Int32.ofInt (a + (Int32.ofInt b).toInt)).toInt = (Int32.ofInt (a + b)).toInt
  congr 1
  rw [Int32.ofInt_add, Int32.ofInt_toInt, ← Int32.ofInt_add]
theorem tot_151 (hK : 4294967300 ≤ K) : TotF (g_T 0) (a_g3, c, d) g_ro (evF xs L ck K cW g_M (n + 2)) 151 := by
  intro av hh hH hv
  obtain ⟨r, me, pl, la, rfl, hr, hme, hpl, hla⟩ : ∃ r me pl la, av = [r, me, pl, la] ∧ TV (fun _ => 0) a_g3 12 r ∧ TV (fun _ => 0) a_g3 1 me ∧ TV (fun _ => 0) a_g3 1 pl ∧ TV (fun _ => 0) a_g3 1 la := by
    have hv : VL (fun _ => 0) a_g3 [12, 1, 1, 1] av := hv
    match av, hv with
    | [r, me, pl, la], h => exact ⟨r, me, pl, la, rfl, h.1, h.2.1, h.2.2.1, h.2.2.2.1⟩
  obtain ⟨ro, hro, ro0, cr, hcr, her⟩ := ref_at (ci := 2) (k := 0) (kd := 17) hr (by decide) rfl (by decide) (by decide)
  have hrow : TV (fun _ => 0) a_g3 17 ro := TV.ref (by decide) (by decide) ⟨ro0, cr, hcr, her⟩
  obtain ⟨q, len, hq, hl, l0, l1, ht, hwr⟩ := row_at hrow
  -- where the row is looked at
  have e8 : ∀ i : Int, j_iop 0 (j_iop 2 me 13) i = j32 (j_iop 2 me 13 + i) := fun i => rfl
  generalize hm13 : j_iop 2 me 13 = m13 at e8
  have hstep : ∀ i : Int, 0 ≤ j32 (m13 + i) → j32 (m13 + i) < len → j32 (m13 + j32 (i + 1)) = j32 (m13 + i) + 1 := fun i h0 h1 => by
    rw [j32_m, ← Int.add_assoc]
    have : j32 (m13 + i + 1) = j32 (1 + j32 (m13 + i)) := by rw [j32_m, Int.add_comm]
    rw [this, j32_in ⟨by omega, by omega⟩]
    omega
  have hget : ∀ i : Int, evF xs L ck K cW g_M (n + 1) 54 [ro, j32 (m13 + i)] ((a_g3, c, d), hh) = some (1, [if 0 ≤ j32 (m13 + i) ∧ j32 (m13 + i) < len then hh q.toNat (j32 (m13 + i)).toNat else 0], ((a_g3, c, d), hh)) := fun i => row_get hq hl
  generalize hF : evF xs L ck K cW g_M (n + 1) = F at hget
  have go := lp_gen (g := (a_g3, c, d)) (C' := evE xs L ck F cW lc_151) (B' := evS xs L ck F K cW lb_151) (P' := evS xs L ck F K cW ls_151)
    (Inv := fun en h => ∃ i : Int, en = [r, me, pl, la, i] ∧ InI i ∧ h = hh) (Done := fun _ h => h = hh) (Ret := fun vs h => h = hh ∧ ∃ w : Int, vs = [w] ∧ InI w) (mea := fun en _ => if 0 ≤ j32 (m13 + en.getD 4 0) ∧ j32 (m13 + en.getD 4 0) < len then (len - j32 (m13 + en.getD 4 0)).toNat else 0) (by
    rintro en h ⟨i, rfl, hi, rfl⟩
    by_cases hla2 : i ≤ la
    · have hc : evE xs L ck F cW lc_151 [r, me, pl, la, i] ((a_g3, c, d), h) = some ([1], ((a_g3, c, d), h)) := by
        unfold lc_151
        simp only [ee_20, ee_3, n_cmp, Option.bind_some, j_hd, List.headD_cons, n_sv, n_z0, List.getD_cons_zero, List.getD_cons_succ, j_cmp]
        simp [hla2, j_b]
      have hb : ∀ w : Int, F 54 [ro, j32 (m13 + i)] ((a_g3, c, d), h) = some (1, [w], ((a_g3, c, d), h)) → evS xs L ck F K cW lb_151 [r, me, pl, la, i] ((a_g3, c, d), h) = if w = -1 then some (0, [], [r, me, pl, la, i], ((a_g3, c, d), h)) else some (1, [i], [r, me, pl, la, i], ((a_g3, c, d), h)) := fun w hw => by
        unfold lb_151
        simp only [es_20, es_10, es_16, s_if, ee_32, n_call, ee_30, ee_31, ee_20, ee_14, n_bin, ee_5, ee_3, ee_1, n_cmp, Option.bind_some, j_hd, List.headD_cons, n_sv, n_z0, List.getD_cons_zero, List.getD_cons_succ, List.cons_append, List.nil_append, hro]
        have e13 : j_iop 2 me ((13 : Nat) : Int) = m13 := hm13
        simp only [if_true, e13, e8, hw, Option.bind_some, j_cmp]
        by_cases h1 : w = -1 <;> simp [h1, j_b]
      by_cases hin : 0 ≤ j32 (m13 + i) ∧ j32 (m13 + i) < len
      · have hw := hget i
        rw [if_pos hin] at hw
        have hbb := hb _ hw
        by_cases h1 : h q.toNat (j32 (m13 + i)).toNat = -1
        · rw [if_pos h1] at hbb
          refine Or.inr ⟨1, h, by decide, hc, 0, [], _, h, hbb, Or.inl ⟨Or.inl rfl, [r, me, pl, la, j32 (i + 1)], h, rfl, ⟨j32 (i + 1), rfl, in_j32 _, rfl⟩, ?_⟩⟩
          show (if 0 ≤ j32 (m13 + j32 (i + 1)) ∧ j32 (m13 + j32 (i + 1)) < len then (len - j32 (m13 + j32 (i + 1))).toNat else 0) < (if 0 ≤ j32 (m13 + i) ∧ j32 (m13 + i) < len then (len - j32 (m13 + i)).toNat else 0)
          rw [if_pos hin, hstep i hin.1 hin.2]
          split <;> omega
        · rw [if_neg h1] at hbb
          exact Or.inr ⟨1, h, by decide, hc, 1, [i], _, h, hbb, Or.inr (Or.inr ⟨rfl, rfl, i, rfl, hi⟩)⟩
      · have hw := hget i
        rw [if_neg hin] at hw
        have hbb := hb _ hw
        rw [if_neg (by decide)] at hbb
        exact Or.inr ⟨1, h, by decide, hc, 1, [i], _, h, hbb, Or.inr (Or.inr ⟨rfl, rfl, i, rfl, hi⟩)⟩
    · refine Or.inl ⟨h, ?_, rfl⟩
      unfold lc_151
      simp only [ee_20, ee_3, n_cmp, Option.bind_some, j_hd, List.headD_cons, n_sv, n_z0, List.getD_cons_zero, List.getD_cons_succ, j_cmp]
      simp [hla2, j_b]) K len.toNat [r, me, pl, la, j_iop 0 pl 1] hh ⟨_, rfl, iop_in _ _ _, rfl⟩ (by
        show (if 0 ≤ j32 (m13 + j_iop 0 pl 1) ∧ j32 (m13 + j_iop 0 pl 1) < len then (len - j32 (m13 + j_iop 0 pl 1)).toNat else 0) ≤ _
        split <;> omega) (by omega)
  have fin : ∀ (w : Int), InI w → (∃ en', evS xs L ck F K cW bb_151 [r, me, pl, la, 0] ((a_g3, c, d), hh) = some (1, [w], en', ((a_g3, c, d), hh))) → ∃ r' h', evF xs L ck K cW g_M (n + 2) 151 [r, me, pl, la] ((a_g3, c, d), hh) = some (1, r', ((a_g3, c, d), h')) ∧ HT g_fk a_g3 h' ∧ FR g_ro hh h' ∧ VL (fun _ => 0) a_g3 [1] r' := fun w hw ⟨en', k1⟩ => by
    refine ⟨[w], hh, ?_, hH, FR.rf, TV.int hw, trivial⟩
    rw [evF_s, gm_151, hF]
    show (evS xs L ck F K cW bb_151 [r, me, pl, la, 0] ((a_g3, c, d), hh)).bind _ = _
    rw [k1, Option.bind_some]
    exact if_pos chk_self
  have e0 : evE xs L ck F cW (sx 14 (sx 3 (sv 2) z0 z0) (sx 1 (sv 1) (sv 1) z0) z0) [r, me, pl, la, 0] ((a_g3, c, d), hh) = some ([j_iop 0 pl 1], ((a_g3, c, d), hh)) := rfl
  rcases go with ⟨en', h', e1, rfl⟩ | ⟨vs, en', h', e1, rfl, w, rfl, hw⟩
  · refine fin (-1) ⟨by decide, by decide⟩ ⟨en', ?_⟩
    rw [lq_151, es_2, es_20, es_2, es_3, es_12, es_16, ee_1]
    unfold s_seq
    dsimp only
    rw [e0]
    simp only [Option.bind_some, if_true]
    rw [show [r, me, pl, la, 0].set (sx_n (sv 4)) (j_hd [j_iop 0 pl 1]) = [r, me, pl, la, j_iop 0 pl 1] from rfl, e1]
    rfl
  · refine fin w hw ⟨en', ?_⟩
    rw [lq_151, es_2, es_20, es_2, es_3, es_12, es_16, ee_1]
    unfold s_seq
    dsimp only
    rw [e0]
    simp only [Option.bind_some, if_true]
    rw [show [r, me, pl, la, 0].set (sx_n (sv 4)) (j_hd [j_iop 0 pl 1]) = [r, me, pl, la, j_iop 0 pl 1] from rfl, e1]
    rfl
end LEAF4
