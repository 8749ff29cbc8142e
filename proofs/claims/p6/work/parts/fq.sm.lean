/-! ===== see, mark_w on_w both_w sides keep_w the state_w alike_w ===== -/
section SMK
variable {h h1 h2 h3 h4 h' : XH} {D : DD} {n : Nat} {t u v : Int}
/-- one more_w share is_w seen_w -/
theorem SM.see (s : SM D h) (hn : h 70 11 = (n : Int)) (n8 : n < 8) (e1_w : h1 = j_up (j_up (j_up (j_up h 86 n t) 88 n u) 90 n v) 70 11 ((n + 1 : Nat) : Int)) (e2_w : h2 = j_up (j_up (j_up (j_up (thz h1) 194 (405 + 3 * n) t) 194 (405 + 3 * n + 1) u) 194 (405 + 3 * n + 2) v) 194 404 ((n + 1 : Nat) : Int)) : SM D h2 := by
  obtain ⟨m6_w, s12, s1_w, ⟨w, w1_w, w2_w, w3_w, w4_w⟩, ⟨k, s3_w⟩, s4_w, s5⟩ := s
  have en : w = n := by omega
  subst en
  have g : ∀ o k : Nat, o ≠ 182 → o ≠ 194 → h2 o k = h1 o k := fun o k z1 z2 => by
    rw [e2_w, up_ne (by omega), up_ne (by omega), up_ne (by omega), up_ne (by omega)]
    exact th_e z1
  have g0 : ∀ o k : Nat, o ≠ 182 → o ≠ 194 → o ≠ 86 → o ≠ 88 → o ≠ 90 → ¬ (o = 70 ∧ k = 11) → h2 o k = h o k := fun o k z1 z2 z3 z4 z5 z6 => by
    rw [g o k z1 z2, e1_w, up_ne z6, up_ne (by omega), up_ne (by omega), up_ne (by omega)]
  have r0 : ∀ k : Nat, k < 404 ∨ 429 ≤ k → h2 194 k = h 194 k := fun k z => by
    rw [e2_w, up_ne (by omega), up_ne (by omega), up_ne (by omega), up_ne (by omega), th_e (by decide), e1_w, up_ne (by omega), up_ne (by omega), up_ne (by omega), up_ne (by omega)]
  refine ⟨m6_w, s12, ?_, ⟨w + 1, by omega, ?_, ?_, fun i z => ?_⟩, ⟨k, ?_⟩, s4_w.fr m6_w s12 (g0 0 13 (by decide) (by decide) (by decide) (by decide) (by decide) (by omega)) (fun o k a b => g0 o k (by omega) (by omega) (by omega) (by omega) (by omega) (by omega)) (fun k a b => r0 k (by omega)) (g0 195 0 (by decide) (by decide) (by decide) (by decide) (by decide) (by omega)), s5.fr m6_w s12 (g0 0 14 (by decide) (by decide) (by decide) (by decide) (by decide) (by omega)) (fun o k a b => g0 o k (by omega) (by omega) (by omega) (by omega) (by omega) (by omega)) (fun k a b => r0 k (by omega)) (g0 195 1 (by decide) (by decide) (by decide) (by decide) (by decide) (by omega))⟩
  · intro q i
    have l := i.le m6_w s12
    have e : cl 70 h2 q = cl 70 h q := by
      unfold cl
      rw [g0 72 _ (by decide) (by decide) (by decide) (by decide) (by decide) (by omega), g0 74 _ (by decide) (by decide) (by decide) (by decide) (by decide) (by omega), g0 76 _ (by decide) (by decide) (by decide) (by decide) (by decide) (by omega), g0 70 10 (by decide) (by decide) (by decide) (by decide) (by decide) (by omega)]
    rw [e, s1_w q i]
    exact (r0 _ (by omega)).symm
  · rw [g 70 11 (by decide) (by decide), e1_w, up_eq]
  · rw [Nat.zero_add, e2_w, up_eq]
  · by_cases y : i = w
    · subst y
      refine ⟨?_, ?_, ?_⟩
      · rw [Nat.zero_add, g 86 _ (by decide) (by decide), e1_w, up_ne (by omega), up_ne (by omega), up_ne (by omega), up_eq, e2_w, up_ne (by omega), up_ne (by omega), up_ne (by omega), up_eq]
      · rw [Nat.zero_add, g 88 _ (by decide) (by decide), e1_w, up_ne (by omega), up_ne (by omega), up_eq, e2_w, up_ne (by omega), up_ne (by omega), up_eq]
      · rw [Nat.zero_add, g 90 _ (by decide) (by decide), e1_w, up_ne (by omega), up_eq, e2_w, up_ne (by omega), up_eq]
    · have w5 := w4_w i (by omega)
      rw [Nat.zero_add, Nat.zero_add, Nat.zero_add] at w5
      have x1_w : ∀ o : Nat, o = 86 ∨ o = 88 ∨ o = 90 → h2 o i = h o i := fun o z => by
        rw [g o i (by omega) (by omega), e1_w, up_ne (by omega), up_ne (by omega), up_ne (by omega), up_ne (by omega)]
      have x2_w : ∀ q : Nat, 405 ≤ q → q < 405 + 3 * w → h2 194 q = h 194 q := fun q z1 z2 => by
        rw [e2_w, up_ne (by omega), up_ne (by omega), up_ne (by omega), up_ne (by omega), th_e (by decide), e1_w, up_ne (by omega), up_ne (by omega), up_ne (by omega), up_ne (by omega)]
      rw [Nat.zero_add, Nat.zero_add, Nat.zero_add, x1_w (70 + 16) (by omega), x1_w (70 + 18) (by omega), x1_w (70 + 20) (by omega), x2_w _ (by omega) (by omega), x2_w _ (by omega) (by omega), x2_w _ (by omega) (by omega)]
      exact w5
  · obtain ⟨q8_w, q1_w, q2_w, q3_w⟩ := s3_w
    refine ⟨q8_w, (g0 154 1 (by decide) (by decide) (by decide) (by decide) (by decide) (by omega)).trans q1_w, ?_, fun i z => (q3_w i z).cg ?_ (EqD.of m6_w s12 (fun q zq => (r0 _ (by omega)).symm)) (fun k _ => (g0 156 _ (by decide) (by decide) (by decide) (by decide) (by decide) (by omega)).symm)⟩
    · rw [e2_w, up_ne (by omega), up_ne (by omega), up_ne (by omega), up_ne (by omega), show thz h1 182 18 = h1 182 18 from up_ne (by omega), e1_w, up_ne (by omega), up_ne (by omega), up_ne (by omega), up_ne (by omega)]
      exact q2_w
    · unfold nxt
      by_cases y : i + 1 = k
      · rw [if_pos y, if_pos y]
        exact EqD.of m6_w s12 (fun q zq => (r0 _ (by omega)).symm)
      · rw [if_neg y, if_neg y]
        exact EqD.of m6_w s12 (fun q zq => (r0 _ (by omega)).symm)
end SMK
