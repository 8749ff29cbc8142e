/-! ===== what lasts holds_w at the beginning ===== -/
def i_ok : Sum Int Nat → Bool
  | .inl _ => true
  | .inr _ => false
def i_va : Sum Int Nat → Int
  | .inl v => v
  | .inr _ => 0
def i0 (o k : Nat) : Int := i_va (lookH a_h3 o k)
/-- what a number_w may_w be, asked_w of the number_w itself_w -/
def i_iv : IT → Int → Bool
  | (0, _, _), _ => true
  | (1, l, h), v => decide (l ≤ v) && decide (v ≤ h) && decide (-2147483648 ≤ v) && decide (v < 2147483648)
  | (2, l, h), v => decide (l ≤ v) && decide (v ≤ h) && decide (-9223372036854775808 ≤ v) && decide (v < 9223372036854775808)
  | (4, l, _), v => decide (v = l)
  | (7, _, _), v => decide (v = 0)
  | (8, _, _), v => decide (v = 0)
  | _, _ => false
theorem i_iv_ok : ∀ {t : IT} {v : Int}, i_iv t v = true → IV (0, 0) t v
  | (0, _, _), _, _ => trivial
  | (1, l, h), v, e => by
    simp only [i_iv, Bool.and_eq_true, decide_eq_true_eq] at e
    exact ⟨e.1.1.1, e.1.1.2, e.1.2, e.2⟩
  | (2, l, h), v, e => by
    simp only [i_iv, Bool.and_eq_true, decide_eq_true_eq] at e
    exact ⟨e.1.1.1, e.1.1.2, e.1.2, e.2⟩
  | (3, _, _), _, e => by cases e
  | (4, l, _), v, e => (of_decide_eq_true e : v = l)
  | (5, _, _), _, e => by cases e
  | (6, _, _), _, e => by cases e
  | (7, _, _), v, e => by
    have : v = 0 := of_decide_eq_true e
    subst this
    exact ⟨rfl, by decide, by decide⟩
  | (8, _, _), v, e => by
    have : v = 0 := of_decide_eq_true e
    subst this
    exact ⟨rfl, by decide, by decide⟩
  | (_ + 9, _, _), _, e => by cases e
def i_ht (t : Nat) (v : Int) : Bool := (!(t == 1) || (decide (-2147483648 ≤ v) && decide (v < 2147483648))) && (!(t == 2) || (decide (-9223372036854775808 ≤ v) && decide (v < 9223372036854775808))) && (!(t == 100) || decide (v = 0) || decide (v = 1))
def i_rows : Nat → AH → Bool
  | _, [] => true
  | o, l :: r => l.all (fun p => i_ok p.2 && i_ht (c_ty g_fk a_g3 o p.1) (i_va p.2)) && i_rows (o + 1) r
theorem i_rows_ok : i_rows 0 a_h3 = true := by decide +kernel
def i_row (q : Nat) : List (Nat × AV) := a_h3.getD q []
def i_reg (q : Nat) : Bool := (r_A q).2.2.all fun r =>
  (i_iv r.2.2 0 && (Nat.beq (r_A q).2.1 0 || Nat.ble r.2.1 (r_A q).2.1) && (i_row q).all (fun p => !(Nat.ble r.1 (if (r_A q).2.1 = 0 then p.1 else p.1 % (r_A q).2.1) && Nat.blt (if (r_A q).2.1 = 0 then p.1 else p.1 % (r_A q).2.1) r.2.1) || i_iv r.2.2 (i_va p.2)))
  || (Nat.beq (r_A q).2.1 0 && (List.range (r.2.1 - r.1)).all fun i => i_iv r.2.2 (i0 q (r.1 + i)))
theorem i_reg_ok : (List.range 20).all (fun q => i_reg (183 + q)) = true := by decide +kernel
theorem i_fld_ok : (List.range 30).all (fun k => i_iv (r_F k) (i0 182 k)) = true := by decide +kernel
theorem i_188 : i0 188 96 = 0 ∧ i0 188 98 = 0 ∧ i0 188 4 = -1 ∧ i0 191 0 = 0 ∧ i0 182 12 = 0 ∧ i0 2 1 = 0 ∧ i0 182 2 = 0 := by decide +kernel
theorem lookR_in : ∀ (l : List (Nat × AV)) (k : Nat), lookR l k = .inl 0 ∨ (k, lookR l k) ∈ l
  | [], _ => Or.inl rfl
  | (a, v) :: l, k => by
    rw [lookR_cons]
    by_cases e : k = a
    · rw [if_pos e, e]
      exact Or.inr List.mem_cons_self
    · rw [if_neg e]
      rcases lookR_in l k with h | h
      · exact Or.inl h
      · exact Or.inr (List.mem_cons_of_mem _ h)
theorem i_ht0 : ∀ t, i_ht t 0 = true := fun t => by
  unfold i_ht
  simp
theorem i_rows_at : ∀ {l : AH} {b : Nat}, i_rows b l = true → ∀ o k : Nat, i_ok (lookH l o k) = true ∧ i_ht (c_ty g_fk a_g3 (b + o) k) (i_va (lookH l o k)) = true
  | [], _, _, _, _ => ⟨rfl, i_ht0 _⟩
  | row :: r, b, h, 0, k => by
    unfold i_rows at h
    rw [Bool.and_eq_true] at h
    show i_ok (lookR row k) = true ∧ i_ht (c_ty g_fk a_g3 b k) (i_va (lookR row k)) = true
    rcases lookR_in row k with e | e
    · rw [e]
      exact ⟨rfl, i_ht0 _⟩
    · have t := List.all_eq_true.mp h.1 _ e
      rw [Bool.and_eq_true] at t
      exact t
  | row :: r, b, h, o + 1, k => by
    unfold i_rows at h
    rw [Bool.and_eq_true] at h
    have t := i_rows_at h.2 o k
    rw [show b + (o + 1) = b + 1 + o by omega]
    exact t
theorem i_look (xs : Nat → Int) (o k : Nat) : (a_c xs a_s3).2 o k = i0 o k := by
  show a_v xs (lookH a_h3 o k) = i_va (lookH a_h3 o k)
  have t := (i_rows_at i_rows_ok o k).1
  generalize lookH a_h3 o k = v at t ⊢
  cases v with
  | inl v => rfl
  | inr v => cases t
theorem i_heap (xs : Nat → Int) : (a_c xs a_s3).2 = i0 := funext fun o => funext fun k => i_look xs o k
theorem i_HT : HT g_fk a_g3 i0 := fun o k => by
  have t := (i_rows_at i_rows_ok o k).2
  rw [Nat.zero_add] at t
  have t2_w : i_ht (c_ty g_fk a_g3 o k) (i0 o k) = true := t
  generalize c_ty g_fk a_g3 o k = ty_w at t2_w ⊢
  generalize i0 o k = v at t2_w ⊢
  simp only [i_ht, Bool.and_eq_true, Bool.or_eq_true, Bool.not_eq_true', beq_eq_false_iff_ne, ne_eq, decide_eq_true_eq] at t2_w
  obtain ⟨⟨h1, h2⟩, h3⟩ := t2_w
  refine ⟨fun e => ?_, fun e => ?_, fun e => ?_⟩
  · rcases h1 with h1 | h1
    · exact absurd e h1
    · exact h1
  · rcases h2 with h2 | h2
    · exact absurd e h2
    · exact h2
  · rcases h3 with (h3 | h3) | h3
    · exact absurd e h3
    · exact Or.inl h3
    · exact Or.inr h3
theorem lookH_row : ∀ (l : AH) (q k : Nat), lookH l q k = lookR (l.getD q []) k
  | [], _, _ => rfl
  | _ :: _, 0, _ => rfl
  | _ :: l, q + 1, k => lookH_row l q k
theorem i_AInv (q : Nat) (hq : 183 ≤ q) : AInv (0, 0) (r_A q) (i0 q) := by
  intro r hr i j h1 h2 h3
  by_cases hi_w : q < 203
  · have t := List.all_eq_true.mp i_reg_ok (q - 183) (List.mem_range.mpr (by omega))
    rw [show 183 + (q - 183) = q by omega] at t
    have t1_w := List.all_eq_true.mp t r hr
    rw [Bool.or_eq_true] at t1_w
    rcases t1_w with t1_w | t1_w
    · rw [Bool.and_eq_true, Bool.and_eq_true] at t1_w
      obtain ⟨⟨t2_w, t3_w⟩, t4_w⟩ := t1_w
      have e : i0 q ((r_A q).2.1 * j + i) = i_va (lookR (i_row q) ((r_A q).2.1 * j + i)) := by
        unfold i0 i_row
        rw [lookH_row]
      rw [e]
      rcases lookR_in (i_row q) ((r_A q).2.1 * j + i) with z | z
      · rw [z]
        exact i_iv_ok t2_w
      · have t5_w := List.all_eq_true.mp t4_w _ z
        dsimp only at t5_w
        have ek : (if (r_A q).2.1 = 0 then (r_A q).2.1 * j + i else ((r_A q).2.1 * j + i) % (r_A q).2.1) = i := by
          split
          · rename_i e0
            rw [e0, Nat.zero_mul, Nat.zero_add]
          · rename_i e0
            rw [Bool.or_eq_true] at t3_w
            rcases t3_w with t3_w | t3_w
            · exact absurd (Nat.eq_of_beq_eq_true t3_w) e0
            · rw [Nat.mul_add_mod]
              exact Nat.mod_eq_of_lt (Nat.lt_of_lt_of_le h2 (Nat.le_of_ble_eq_true t3_w))
        rw [ek, Bool.or_eq_true] at t5_w
        rcases t5_w with t5_w | t5_w
        · rw [Nat.ble_eq.mpr h1, show Nat.blt i r.2.1 = true from Nat.ble_eq.mpr h2] at t5_w
          cases t5_w
        · exact i_iv_ok t5_w
    · rw [Bool.and_eq_true] at t1_w
      have e0 := Nat.eq_of_beq_eq_true t1_w.1
      have t2_w := List.all_eq_true.mp t1_w.2 (i - r.1) (List.mem_range.mpr (by omega))
      rw [show r.1 + (i - r.1) = i by omega] at t2_w
      rw [e0, Nat.zero_mul, Nat.zero_add]
      exact i_iv_ok t2_w
  · rw [ra_out (by omega)] at hr
    cases hr
theorem inv_i0 : Inv0 i0 := by
  obtain ⟨q1_w, q2_w, q3_w, q4_w, q5_w, q6_w, q7_w⟩ := i_188
  refine ⟨⟨i_HT, by rw [q6_w]; decide, by rw [q6_w]; decide, by rw [q6_w, q7_w]⟩, (0, 0), ⟨i_HT, fun k => ?_, i_AInv, ?_, ?_, ?_⟩, ?_, by rw [q5_w]; decide, by rw [q5_w]; decide⟩
  · by_cases z : k < 30
    · exact i_iv_ok (List.all_eq_true.mp i_fld_ok k (List.mem_range.mpr z))
    · have e : r_F k = (0, 0, 0) := by
        unfold r_F
        rw [List.getD_eq_getElem?_getD, List.getElem?_eq_none (by show 30 ≤ k; omega)]
        rfl
      show IV (0, 0) (r_F k) (i0 182 k)
      rw [e]
      exact trivial
  · exact ⟨fun m h => by have : (m : Int) < 0 := h; omega, fun m h => by have : (m : Int) < 0 := h; omega⟩
  · intro h
    rw [q3_w] at h
    exact absurd h (by decide)
  · intro m h
    rw [q4_w] at h
    omega
  · unfold DG
    rw [q1_w, q2_w]
    exact ⟨fun m h => by omega, fun m h => by omega⟩
