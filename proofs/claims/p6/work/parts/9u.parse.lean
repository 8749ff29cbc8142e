/-! ===== the reference's parser: a draft comes into_w force ===== -/
theorem rows_188 : (r_A 188).2.2.all (fun r => (Nat.ble 95 r.1 && Nat.beq r.2.2.1 1) || (Nat.ble r.2.1 95 && (decide (r = (3, 4, (7, 0, 0))) || decide (r = (1, 2, (8, 0, 0))) || (Nat.beq r.2.2.1 1 && (r_A 188).2.2.any (fun s => decide (s = (r.1 + 95, r.2.1 + 95, r.2.2))))))) = true := by decide +kernel
theorem rows_lo : (List.range 20).all (fun k => Nat.beq k 5 || (r_A (183 + k)).2.2.all (fun r => Nat.ble r.2.2.1 4)) = true := by decide +kernel
section PARJ
variable {P P'_w : Int × Int} {N : Nat} {g : Nat × Nat} {h h' h1 h2 : XH}
theorem iv_any {t : IT} {v : Int} (ht : t.1 ≤ 4) (hv : IV P t v) : IV P'_w t v := by
  obtain ⟨k, l, u⟩ := t
  have hk : k ≤ 4 := ht
  match k, hk with
  | 0, _ => exact trivial
  | 1, _ => exact hv
  | 2, _ => exact hv
  | 3, _ => exact hv
  | 4, _ => exact hv
theorem rows_any {q : Nat} (hq : 183 ≤ q) (h8 : q ≠ 188) : ∀ r ∈ (r_A q).2.2, r.2.2.1 ≤ 4 := by
  intro r hr
  by_cases hi_w : q < 203
  · have k := List.all_eq_true.mp rows_lo (q - 183) (List.mem_range.mpr (by omega))
    rw [show 183 + (q - 183) = q by omega, Bool.or_eq_true] at k
    rcases k with k | k
    · have := Nat.eq_of_beq_eq_true k
      omega
    · exact Nat.le_of_ble_eq_true (List.all_eq_true.mp k r hr)
  · have e : r_A q = (0, 0, []) := by
      unfold r_A
      rw [show Nat.ble 183 q = true from Nat.ble_eq.mpr hq]
      rw [cond_true]
      rw [List.getD_eq_getElem?_getD, List.getElem?_eq_none (by have : r_As.length = 20 := rfl; omega)]
      rfl
    rw [e] at hr
    cases hr
/-- what the draft says_w is_w in force -/
theorem new_QK (hQ : QK P (r_T 0) (RJ P) h) (hP : P'_w = (h 188 98, h 188 96)) (hH : HT g_fk a_g3 h') (hF : ∀ k, h' 182 k = h 182 k) (h0 : ∀ i, i < 95 → h' 188 i = h 188 (95 + i)) (hi_w : ∀ i, 95 ≤ i → h' 188 i = h 188 i) (ho : ∀ q i : Nat, 183 ≤ q → q ≠ 188 → q ≠ 189 → q ≠ 190 → h' q i = h q i) : QK P'_w (r_T 0) JT h' := by
  have r6 := r_98 hQ
  have r4 := r_96 hQ
  refine ⟨hH, fun k => ?_, fun q hq => ?_, trivial⟩
  · rw [hF]
    have old_w := hQ.2.1 k
    have lo_w : ∀ k, (r_F k).1 ≤ 4 := fun k => by
      by_cases z : k < 30
      · exact Nat.le_of_ble_eq_true (List.all_eq_true.mp (show (List.range 30).all (fun k => Nat.ble (r_F k).1 4) = true by decide +kernel) k (List.mem_range.mpr z))
      · have e : r_F k = (0, 0, 0) := by
          unfold r_F
          rw [List.getD_eq_getElem?_getD, List.getElem?_eq_none (by show 30 ≤ k; omega)]
          rfl
        rw [e]
        decide
    exact iv_any (lo_w k) old_w
  · intro r hr i j k1_w k2 k3
    have old_w := hQ.2.2.1 q hq r hr i j k1_w k2 k3
    by_cases e8 : q = 188
    · subst e8
      have eb : (qA (r_T 0) 188).2.1 = 0 := rfl
      rw [eb, Nat.zero_mul, Nat.zero_add] at old_w ⊢
      have c := List.all_eq_true.mp rows_188 r hr
      simp only [Bool.or_eq_true, Bool.and_eq_true, Nat.ble_eq, decide_eq_true_eq] at c
      rcases c with ⟨c1_w, c2⟩ | ⟨c1_w, (c2 | c2) | ⟨c2, c3⟩⟩
      · have c2 := Nat.eq_of_beq_eq_true c2
        rw [hi_w i (by omega)]
        exact iv_any (by omega) old_w
      · subst c2
        have : i = 3 := by
          have k1_w : 3 ≤ i := k1_w
          have k2 : i < 4 := k2
          omega
        subst this
        rw [h0 3 (by decide), hP]
        exact ⟨rfl, r6.1, r6.2⟩
      · subst c2
        have : i = 1 := by
          have k1_w : 1 ≤ i := k1_w
          have k2 : i < 2 := k2
          omega
        subst this
        rw [h0 1 (by decide), hP]
        exact ⟨rfl, r4.1, r4.2⟩
      · have c2 := Nat.eq_of_beq_eq_true c2
        rw [List.any_eq_true] at c3
        obtain ⟨s, s1_w, s2_w⟩ := c3
        have s2_w := of_decide_eq_true s2_w
        subst s2_w
        have k := hQ.2.2.1 188 hq _ s1_w (95 + i) 0 (by show r.1 + 95 ≤ 95 + i; omega) (by show 95 + i < r.2.1 + 95; omega) (by decide)
        rw [eb, Nat.zero_mul, Nat.zero_add] at k
        rw [h0 i (by omega)]
        exact iv_any (by omega) k
    · by_cases e9_w : q = 189
      · subst e9_w
        have hr2 : r ∈ [(0, 2200, ((1, (-2147483648), 2147483647) : IT))] := hr
        rw [List.mem_singleton] at hr2
        subst hr2
        exact IV.top (ht_int hH (by decide) _)
      · by_cases e10_w : q = 190
        · subst e10_w
          have hr2 : r ∈ [(0, 28, ((2, (-9223372036854775808), 9223372036854775807) : IT))] := hr
          rw [List.mem_singleton] at hr2
          subst hr2
          exact IV.topL (ht_long hH (by decide) _)
        · rw [ho q _ hq e8 e9_w e10_w]
          exact iv_any (rows_any hq e8 r hr) old_w
end PARJ
