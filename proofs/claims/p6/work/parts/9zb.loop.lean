/-! ===== the law's loop_w, whatever it is_w that lasts from call to call ===== -/
def lwE (i s t : Int) : List Int := [0, 0, 182, 203, i, s, t]
def sA (j : Nat) : SX := sx 7 (sx 3 z0 z0 z0) (sx 14 (sx 3 (sv 4) z0 z0) (sx 1 (sv j) (sv 1) z0) z0) (sv 1)
def sB (j : Nat) : SX := sx 21 (sA j) z0 (sv 1)
def StepOK (xs : Nat → Int) (L K : Nat) (F : XP) (I : XH → Prop) (B : SX) (i : Int) : Prop := ∀ (s t : Int) (c d : Nat) (h : XH), I h → ∃ (s' t' : Int) (c' d' : Nat) (h' : XH), evS xs L g_ck F K g_cW B (lwE i s t) ((a_g3, c, d), h) = some (2, [], lwE i s' t', ((a_g3, c', d'), h')) ∧ I h' ∧ c' ≤ c + 1 ∧ d' ≤ d + 6
def CaseOK (xs : Nat → Int) (L K : Nat) (F : XP) (I : XH → Prop) (B : SX) (i : Int) : Prop := ∀ (z s t : Int) (c d : Nat) (h : XH), I h → ∃ (s' t' : Int) (c' d' : Nat) (h' : XH), evS xs L g_ck F K g_cW B (z :: lwE i s t) ((a_g3, c, d), h) = some (2, [], lwE i s' t', ((a_g3, c', d'), h')) ∧ I h' ∧ c' ≤ c + 1 ∧ d' ≤ d + 6
section LAWL
variable {xs : Nat → Int} {L K : Nat} {F : XP} {I : XH → Prop} {i s t : Int}
theorem es_14 {ck : Nat → List Nat} {cW : Nat → Nat → Int} {a b c : SX} : evS xs L ck F K cW (sx 14 a b c) = fun en st => some (2, [], en, st) := rfl
theorem es_26 {ck : Nat → List Nat} {cW : Nat → Nat → Int} {a b c : SX} : evS xs L ck F K cW (sx 26 a b c) = fun en st => evS xs L ck F K cW a en.tail st := rfl
theorem es_24 {ck : Nat → List Nat} {cW : Nat → Nat → Int} {a b c : SX} : evS xs L ck F K cW (sx 24 a b c) = s_try F (sx_n c) (evE xs L ck F cW a) (evE xs L ck F cW b) := rfl
theorem case_cons {l B C : SX} (hB_w : StepOK xs L K F I B i) (hC : CaseOK xs L K F I C i) : CaseOK xs L K F I (sx 25 l B C) i := by
  intro z s t c d h hI
  rw [es_25]
  by_cases e : (sx_l l).any (fun n => decide ((z :: lwE i s t).headD 0 = sx_z n)) = true
  · obtain ⟨s', t', c', d', h', e1_w, e2_w⟩ := hB_w s t c d h hI
    refine ⟨s', t', c', d', h', (if_pos e).trans ?_, e2_w⟩
    show (evS xs L g_ck F K g_cW B (lwE i s t) ((a_g3, c, d), h)).bind _ = _
    rw [e1_w]
    rfl
  · obtain ⟨s', t', c', d', h', e1_w, e2_w⟩ := hC z s t c d h hI
    exact ⟨s', t', c', d', h', (if_neg e).trans e1_w, e2_w⟩
theorem case_nil {a b : SX} : CaseOK xs L K F I (sx 26 (sx 14 z0 z0 z0) a b) i := fun _ s t c d h hI => ⟨s, t, c, d, h, rfl, hI, by omega, by omega⟩
theorem lw_l1 : (lwE i s t).getD (sx_n (sv 1)) 0 = 0 := rfl
theorem lw_l2 : (lwE i s t).getD (sx_n (sv 2)) 0 = 182 := rfl
theorem lw_l3 : (lwE i s t).getD (sx_n (sv 3)) 0 = 203 := rfl
theorem lw_l4 : (lwE i s t).getD (sx_n (sv 4)) 0 = i := rfl
theorem lw_s5 {v : Int} : (lwE i s t).set 5 v = lwE i v t := rfl
theorem lw_s6 {v : Int} : (lwE i s t).set 6 v = lwE i s v := rfl
theorem j32_id {x : Int} (h0 : -2147483648 ≤ x) (h1 : x ≤ 2147483647) : j32 x = x := j32_in ⟨h0, by omega⟩
theorem sA_ev {st : XT} (hL : (L : Int) ≤ 2147483647) (h0 : 0 ≤ i) (h1 : i + 7 ≤ (L : Int)) (j : Nat) (hj : j ≤ 6) : evE xs L g_ck F g_cW (sA j) (lwE i s t) st = some ([xs (i + (j : Int)).toNat], st) := by
  have e1_w : evE xs L g_ck F g_cW (sx 14 (sx 3 (sv 4) z0 z0) (sx 1 (sv j) (sv 1) z0) z0) (lwE i s t) st = some ([i + (j : Int)], st) := by
    rw [ee_14, ee_3, ee_1]
    unfold n_bin
    show some ([j_iop 0 i (j : Int)], st) = _
    rw [show j_iop 0 i (j : Int) = j32 (i + (j : Int)) from rfl, j32_id (by omega) (by omega)]
  unfold sA
  rw [ee_7]
  unfold n_aload
  rw [ee_3]
  show ((evE xs L g_ck F g_cW (sx 14 (sx 3 (sv 4) z0 z0) (sx 1 (sv j) (sv 1) z0) z0) (lwE i s t) st).bind fun y => if 0 ≤ j_hd y.1 ∧ j_hd y.1 < (L : Int) then some ([xs (j_hd y.1).toNat], y.2) else none) = _
  rw [e1_w, Option.bind_some]
  exact if_pos ⟨show 0 ≤ i + (j : Int) by omega, show i + (j : Int) < (L : Int) by omega⟩
theorem sB_ev {st : XT} (hL : (L : Int) ≤ 2147483647) (h0 : 0 ≤ i) (h1 : i + 7 ≤ (L : Int)) (j : Nat) (hj : j ≤ 6) : evE xs L g_ck F g_cW (sB j) (lwE i s t) st = some ([j_b (j_cmp 1 (xs (i + (j : Int)).toNat) 0)], st) := by
  unfold sB
  rw [ee_21]
  show (evE xs L g_ck F g_cW (sA j) (lwE i s t) st).bind _ = _
  rw [sA_ev hL h0 h1 j hj]
  rfl
/-- the arguments of a call: what they are, whatever the state_w is_w -/
def ArgE (xs : Nat → Int) (L : Nat) (F : XP) (A : SX) (i : Int) (vs : List Int) : Prop := ∀ (s t : Int) (st : XT), evE xs L g_ck F g_cW A (lwE i s t) st = some (vs, st)
theorem arg_nil : ArgE xs L F (sx 31 z0 z0 z0) i [] := fun _ _ _ => rfl
theorem arg_cons {a A : SX} {v : Int} {vs : List Int} (ha_w : ∀ (s t : Int) (st : XT), evE xs L g_ck F g_cW a (lwE i s t) st = some ([v], st)) (hA : ArgE xs L F A i vs) : ArgE xs L F (sx 30 a A z0) i (v :: vs) := fun s t st => by
  rw [ee_30]
  show ((evE xs L g_ck F g_cW a (lwE i s t) st).bind _) = _
  rw [ha_w, Option.bind_some, hA, Option.bind_some]
  rfl
theorem arg_x {A : SX} {vs : List Int} (hA : ArgE xs L F A i vs) : ArgE xs L F (sx 30 (sx 3 (sv 1) z0 z0) A z0) i (0 :: vs) := arg_cons (fun _ _ _ => rfl) hA
theorem arg_m {A : SX} {vs : List Int} (hA : ArgE xs L F A i vs) : ArgE xs L F (sx 30 (sx 3 (sv 2) z0 z0) A z0) i (182 :: vs) := arg_cons (fun _ _ _ => rfl) hA
theorem arg_o : ArgE xs L F (sx 30 (sx 3 (sv 3) z0 z0) (sx 31 z0 z0 z0) z0) i [203] := arg_cons (fun _ _ _ => rfl) arg_nil
/-- a call of both_w, nothing_w held_w against the other_w -/
theorem step_1 {A B : SX} {f r : Nat} {vs ws_w : List Int} (hA : ArgE xs L F A i vs) (hB_w : ArgE xs L F B i ws_w) (hP : ∀ (c d : Nat) (h : XH), I h → ∃ (v1_w v2 : List Int) (h1 h2 : XH), F f vs ((a_g3, c, d), h) = some (1, v1_w, ((a_g3, c, d), h1)) ∧ F r ws_w ((a_g3, c, d), h1) = some (1, v2, ((a_g3, c, d), h2)) ∧ I h2) :
    StepOK xs L K F I (sx 2 (sx 9 (sx 32 A (sv f) z0) z0 z0) (sx 2 (sx 9 (sx 32 B (sv r) z0) z0 z0) (sx 14 z0 z0 z0) z0) z0) i := by
  intro s t c d h hI
  obtain ⟨v1_w, v2, h1, h2, e1_w, e2_w, e3_w⟩ := hP c d h hI
  refine ⟨s, t, c, d, h2, ?_, e3_w, by omega, by omega⟩
  have a1_w := hA s t ((a_g3, c, d), h)
  have a2 := hB_w s t ((a_g3, c, d), h1)
  simp only [es_2, s_seq, es_9, ee_32, n_call, n_sv, a1_w, a2, Option.bind_some, e1_w, e2_w, if_true, es_14]
/-- a call of the class by one that catches, and of the reference_w -/
theorem step_2 {A B : SX} {f r : Nat} {vs ws_w : List Int} (hA : ArgE xs L F A i vs) (hB_w : ArgE xs L F B i ws_w) (hP : ∀ (c d : Nat) (h : XH), I h → ∃ (v1_w v2 : List Int) (c' d' : Nat) (h1 h2 : XH), F f vs ((a_g3, c, d), h) = some (1, v1_w, ((a_g3, c', d'), h1)) ∧ F r ws_w ((a_g3, c', d'), h1) = some (1, v2, ((a_g3, c', d'), h2)) ∧ I h2 ∧ c' ≤ c + 1 ∧ d' ≤ d + 6) :
    StepOK xs L K F I (sx 2 (sx 20 (sx 2 (sx 3 (sv 5) (sx 32 A (sv f) z0) z0) (sx 3 (sv 6) (sx 32 B (sv r) z0) z0) z0) z0 z0) (sx 14 z0 z0 z0) z0) i := by
  intro s t c d h hI
  obtain ⟨v1_w, v2, c', d', h1, h2, e1_w, e2_w, e3_w, e4_w, e5_w⟩ := hP c d h hI
  refine ⟨j_hd v1_w, j_hd v2, c', d', h2, ?_, e3_w, e4_w, e5_w⟩
  have a1_w := hA s t ((a_g3, c, d), h)
  have a2 := hB_w (j_hd v1_w) t ((a_g3, c', d'), h1)
  simp only [es_2, s_seq, es_3, es_20, ee_32, n_call, lw_s5, lw_s6, n_sv, a1_w, a2, Option.bind_some, e1_w, e2_w, if_true, es_14]
theorem lw_cond {a : SX} {st : XT} (hL : (L : Int) ≤ 2147483647) : evE xs L g_ck F g_cW fwC (lwE i s t) st = some ([j_b (decide (i ≤ (L : Int) - 7))], st) := by
  unfold fwC
  rw [ee_20, ee_14, ee_3, ee_10, ee_1]
  unfold n_cmp n_bin n_alen
  show some ([j_b (j_cmp 5 i (j_iop 1 (L : Int) 7))], st) = _
  rw [show j_iop 1 (L : Int) 7 = j32 ((L : Int) - 7) from rfl, j32_id (by omega) (by omega)]
  rfl
theorem lw_sel {st : XT} (hL : (L : Int) ≤ 2147483647) (h0 : 0 ≤ i) (h1 : i + 7 ≤ (L : Int)) : evE xs L g_ck F g_cW fwS (lwE i s t) st = some ([j_iop 3 (xs i.toNat) 63], st) := by
  have e1_w : evE xs L g_ck F g_cW (sx 7 (sx 3 z0 z0 z0) (sx 3 (sv 4) z0 z0) (sv 1)) (lwE i s t) st = some ([xs i.toNat], st) := by
    rw [ee_7]
    unfold n_aload
    rw [ee_3, ee_3]
    exact if_pos ⟨h0, show i < (L : Int) by omega⟩
  unfold fwS
  rw [ee_14]
  unfold n_bin
  rw [e1_w]
  rfl
theorem lw_step {st : XT} (h0 : 0 ≤ i) (h1 : i + 7 ≤ 2147483647) : evS xs L g_ck F K g_cW fwP (lwE i s t) st = some (0, [], lwE (i + 7) s t, st) := by
  unfold fwP
  rw [es_4]
  show some (0, [], lwE (j32 (i + 7)) s t, st) = _
  rw [j32_id (by omega) (by omega)]
theorem lw_body {C : SX} (hL : (L : Int) ≤ 2147483647) (h0 : 0 ≤ i) (h1 : i + 7 ≤ (L : Int)) (hC : CaseOK xs L K F I C i) {c d : Nat} {h : XH} (hI : I h) : ∃ (s' t' : Int) (c' d' : Nat) (h' : XH), evS xs L g_ck F K g_cW (sx 20 (sx 19 fwS C z0) z0 z0) (lwE i s t) ((a_g3, c, d), h) = some (0, [], lwE i s' t', ((a_g3, c', d'), h')) ∧ I h' ∧ c' ≤ c + 1 ∧ d' ≤ d + 6 := by
  obtain ⟨s', t', c', d', h', e1_w, e2_w⟩ := hC (j_iop 3 (xs i.toNat) 63) s t c d h hI
  refine ⟨s', t', c', d', h', ?_, e2_w⟩
  rw [es_20, es_19]
  unfold s_sw
  rw [lw_sel hL h0 h1, Option.bind_some]
  show ((evS xs L g_ck F K g_cW C (j_iop 3 (xs i.toNat) 63 :: lwE i s t) ((a_g3, c, d), h)).bind _) = _
  rw [e1_w]
  rfl
theorem lw_loop {C : SX} (hL : (L : Int) ≤ 2147483640) (hC : ∀ i : Int, 0 ≤ i → i + 7 ≤ (L : Int) → CaseOK xs L K F I C i) : ∀ (m fuel : Nat) (i s t : Int) (c d : Nat) (h : XH), 0 ≤ i → (L : Int) < i + 7 * (m : Int) + 7 → m + 1 ≤ fuel → I h →
    ∃ (i' s' t' : Int) (c' d' : Nat) (h' : XH), s_loop (evE xs L g_ck F g_cW fwC) (evS xs L g_ck F K g_cW (sx 20 (sx 19 fwS C z0) z0 z0)) (evS xs L g_ck F K g_cW fwP) fuel (lwE i s t) ((a_g3, c, d), h) = some (0, [], lwE i' s' t', ((a_g3, c', d'), h')) ∧ I h' ∧ c' ≤ c + m ∧ d' ≤ d + 6 * m
  | m, fuel, i, s, t, c, d, h, h0, hm_w, hf, hI => by
    obtain ⟨fuel, rfl⟩ : ∃ k, fuel = k + 1 := ⟨fuel - 1, by omega⟩
    unfold s_loop
    rw [lw_cond (a := z0) (by omega), Option.bind_some]
    by_cases e : i ≤ (L : Int) - 7
    · match m, hm_w, hf with
      | 0, hm_w, _ => exact absurd e (by omega)
      | m + 1, hm_w, hf =>
        obtain ⟨s1_w, t1_w, c1_w, d1_w, h1, e1_w, e2_w, e3_w, e4_w⟩ := lw_body (K := K) (s := s) (t := t) (c := c) (d := d) (by omega) h0 (by omega) (hC i h0 (by omega)) hI
        obtain ⟨i2_w, s2_w, t2_w, c2, d2_w, h2, f1_w, f2_w, f3_w, f4_w⟩ := lw_loop hL hC m fuel (i + 7) s1_w t1_w c1_w d1_w h1 (by omega) (by omega) (by omega) e2_w
        refine ⟨i2_w, s2_w, t2_w, c2, d2_w, h2, ?_, f2_w, by omega, by omega⟩
        rw [decide_eq_true e]
        refine (if_neg (show ¬ (1 : Int) = 0 by decide)).trans ?_
        show ((evS xs L g_ck F K g_cW (sx 20 (sx 19 fwS C z0) z0 z0) (lwE i s t) ((a_g3, c, d), h)).bind _) = _
        rw [e1_w, Option.bind_some]
        refine (if_pos (Or.inl rfl)).trans ?_
        show ((evS xs L g_ck F K g_cW fwP (lwE i s1_w t1_w) ((a_g3, c1_w, d1_w), h1)).bind _) = _
        rw [lw_step h0 (by omega), Option.bind_some]
        exact (if_pos rfl).trans f1_w
    · refine ⟨i, s, t, c, d, h, ?_, hI, by omega, by omega⟩
      rw [decide_eq_false e]
      exact if_pos rfl
/-- the law_w behind_w its first three_w statements -/
theorem lw_end {C : SX} {m : Nat} (hL : (L : Int) ≤ 2147483640) (hm_w : L < 7 * m + 7) (hK_w : m + 1 ≤ K) (hC : ∀ i : Int, 0 ≤ i → i + 7 ≤ (L : Int) → CaseOK xs L K F I C i) {c d : Nat} {h : XH} (hI : I h) :
    ∃ (en' : List Int) (c' d' : Nat) (h' : XH), evS xs L g_ck F K g_cW (sx 2 (sx 20 (sx 2 (sx 3 (sv 4) (sx 1 z0 (sv 1) z0) z0) (sx 12 fwC (sx 20 (sx 19 fwS C z0) z0 z0) fwP) z0) z0 z0) (sx 27 (sx 1 (sv 1) (sv 1) z0) z0 z0) z0) (lwE 0 0 0) ((a_g3, c, d), h) = some (1, [1], en', ((a_g3, c', d'), h')) ∧ c' ≤ c + m ∧ d' ≤ d + 6 * m := by
  obtain ⟨i', s', t', c', d', h', e1_w, e2_w, e3_w, e4_w⟩ := lw_loop (K := K) hL hC m K 0 0 0 c d h (by omega) (by omega) hK_w hI
  refine ⟨lwE i' s' t', c', d', h', ?_, e3_w, e4_w⟩
  rw [es_2, es_20, es_2, es_3, es_12, es_27, ee_1, ee_1]
  unfold s_seq
  show (((s_loop (evE xs L g_ck F g_cW fwC) (evS xs L g_ck F K g_cW (sx 20 (sx 19 fwS C z0) z0 z0)) (evS xs L g_ck F K g_cW fwP) K (lwE 0 0 0) ((a_g3, c, d), h)).bind _)) = _
  rw [e1_w]
  rfl
end LAWL
