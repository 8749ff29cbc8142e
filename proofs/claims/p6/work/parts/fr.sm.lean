/-! ===== marks_w on_w both_w sides keep_w the state_w alike_w ===== -/
section SML
variable {h h1 h2 h3 h4 h' : XH} {D : DD} {b c d f g : Nat}
theorem cl_cp (lc : LCP b d h h1) (z : ∀ o k : Nat, b ≤ o → o ≤ b + 20 → h4 o k = h1 o k) : ∀ q : Nat, q ≤ 162 → cl b h4 q = cl d h q := fun q l => by
  obtain ⟨-, l1, l2, l3, -, -, -, -, -, -, -, l4, -⟩ := lc
  rw [cl_eq z]
  unfold cl
  by_cases y1 : q < 78
  · rw [if_pos y1, if_pos y1, l1 q y1]
  · rw [if_neg y1, if_neg y1]
    by_cases y2 : q < 150
    · rw [if_pos y2, if_pos y2, l2 _ (by omega)]
    · rw [if_neg y2, if_neg y2]
      by_cases y3 : q < 162
      · rw [if_pos y3, if_pos y3, l3 _ (by omega)]
      · rw [if_neg y3, if_neg y3, l4]
theorem sen_cp {c0 : Nat} (lc : LCP b d h h1) (z : ∀ o k : Nat, b ≤ o → o ≤ b + 20 → h4 o k = h1 o k) (s : SEN d c0 h) (a2 : ∀ q : Nat, 404 ≤ q → q < 429 → h4 194 (c + q) = h 194 (c0 + q)) : SEN b c h4 := by
  obtain ⟨-, -, -, -, -, -, -, -, l5, l6, l7, -, l8⟩ := lc
  obtain ⟨w, w1_w, w2_w, w3_w, w4_w⟩ := s
  refine ⟨w, w1_w, (z b 11 (by omega) (by omega)).trans (l8.trans w2_w), (a2 404 (by omega) (by omega)).trans w3_w, fun i y => ?_⟩
  obtain ⟨x1_w, x2_w, x3⟩ := w4_w i y
  refine ⟨(z _ _ (by omega) (by omega)).trans ((l5 i (by omega)).trans (x1_w.trans (a2 _ (by omega) (by omega)).symm)), (z _ _ (by omega) (by omega)).trans ((l6 i (by omega)).trans (x2_w.trans (a2 _ (by omega) (by omega)).symm)), (z _ _ (by omega) (by omega)).trans ((l7 i (by omega)).trans (x3.trans (a2 _ (by omega) (by omega)).symm))⟩
theorem MKb.lay (m6_w : nM D ≤ 6) (s12 : nS D ≤ 12) (s1_w : EqD D (cl 70 h) (bl 0 h)) (s2_w : SEN 70 0 h) (lc : LCP b 70 h h1) (z : ∀ o k : Nat, b ≤ o → o ≤ b + 20 → h4 o k = h1 o k) (a2 : ∀ q : Nat, q < 429 → h4 194 (c + q) = h 194 q) (a3 : h4 0 f = 1) (a4 : h4 195 g = 1) : MKb D b c f g h4 := by
  refine ⟨Or.inr a4, ⟨fun e => absurd (a3.symm.trans e) (by decide), fun e => absurd (a4.symm.trans e) (by decide)⟩, fun _ => ⟨fun q i => ?_, sen_cp lc z s2_w (fun q y1 y2 => (a2 q y2).trans (by rw [Nat.zero_add]))⟩⟩
  have l := i.le m6_w s12
  rw [cl_cp lc z q l, s1_w q i]
  show h 194 (0 + q) = h4 194 (c + q)
  rw [Nat.zero_add, a2 q (by omega)]
theorem SM.lay0 (s : SM D h) (lc : LCP 112 70 h h1) (e2_w : h2 = j_up h1 0 13 1) (f1_w : ∀ x k : Nat, ¬ (x = 194 ∧ 429 ≤ k ∧ k < 858) → h3 x k = j_up (thz h2) 195 0 1 x k) (f2_w : ∀ q : Nat, q < 429 → h3 194 (429 + q) = h2 194 q) (e4_w : h4 = j_up h3 182 18 (h3 182 18)) : SM D h4 := by
  obtain ⟨m6_w, s12, s1_w, s2_w, ⟨n, s3_w⟩, s4_w, s5⟩ := s
  have g : ∀ o k : Nat, o ≠ 182 → o ≠ 194 → ¬ (o = 195 ∧ k = 0) → ¬ (o = 0 ∧ k = 13) → h4 o k = h1 o k := fun o k z1 z2 z3 z4 => by
    rw [e4_w, up_ne (by omega), f1_w o k (by omega), up_ne z3, th_e z1, e2_w, up_ne z4]
  have g0 : ∀ o k : Nat, o ≠ 182 → o ≠ 194 → ¬ (o = 195 ∧ k = 0) → ¬ (o = 0 ∧ k = 13) → ¬ (112 ≤ o ∧ o ≤ 132) → h4 o k = h o k := fun o k z1 z2 z3 z4 z5 => (g o k z1 z2 z3 z4).trans (lc.1 o k (by omega))
  have r1_w : ∀ k : Nat, h2 194 k = h 194 k := fun k => by
    rw [e2_w, up_ne (by omega)]
    exact lc.1 194 k (by omega)
  have r0 : ∀ k : Nat, k < 429 ∨ 858 ≤ k → h4 194 k = h 194 k := fun k z => by
    rw [e4_w, up_ne (by omega), f1_w 194 k (by omega), up_ne (by omega), th_e (by decide)]
    exact r1_w k
  have z70 : ∀ o k : Nat, 70 ≤ o → o ≤ 70 + 20 → h4 o k = h o k := fun o k a b => g0 o k (by omega) (by omega) (by omega) (by omega) (by omega)
  refine ⟨m6_w, s12, ?_, s2_w.fr z70 (fun k a b => r0 k (by omega)), ⟨n, ?_⟩, MKb.lay m6_w s12 s1_w s2_w lc (fun o k a b => g o k (by omega) (by omega) (by omega) (by omega)) (fun q z => ?_) ?_ ?_, s5.fr m6_w s12 (g0 0 14 (by decide) (by decide) (by omega) (by omega) (by omega)) (fun o k a b => g0 o k (by omega) (by omega) (by omega) (by omega) (by omega)) (fun k a b => r0 k (by omega)) (g0 195 1 (by decide) (by decide) (by omega) (by omega) (by omega))⟩
  · rw [cl_eq z70]
    exact s1_w.tr (EqD.of m6_w s12 (fun q z => (r0 _ (by omega)).symm))
  · obtain ⟨q8_w, q1_w, q2_w, q3_w⟩ := s3_w
    refine ⟨q8_w, (g0 154 1 (by decide) (by decide) (by omega) (by omega) (by omega)).trans q1_w, ?_, fun i z => (q3_w i z).cg ?_ (EqD.of m6_w s12 (fun q zq => (r0 _ (by omega)).symm)) (fun k _ => (g0 156 _ (by decide) (by decide) (by omega) (by omega) (by omega)).symm)⟩
    · rw [e4_w, up_eq, f1_w 182 18 (by omega), up_ne (by omega), show thz h2 182 18 = h2 182 18 from up_ne (by omega), e2_w, up_ne (by omega), lc.1 182 18 (by omega)]
      exact q2_w
    · unfold nxt
      by_cases y : i + 1 = n
      · rw [if_pos y, if_pos y]
        exact EqD.of m6_w s12 (fun q zq => (r0 _ (by omega)).symm)
      · rw [if_neg y, if_neg y]
        exact EqD.of m6_w s12 (fun q zq => (r0 _ (by omega)).symm)
  · rw [e4_w, up_ne (by omega), f2_w q z]
    exact r1_w q
  · rw [e4_w, up_ne (by omega), f1_w 0 13 (by omega), up_ne (by omega), th_e (by decide), e2_w, up_eq]
  · rw [e4_w, up_ne (by omega), f1_w 195 0 (by omega), up_eq]
theorem SM.lay1 (s : SM D h) (lc : LCP 133 70 h h1) (e2_w : h2 = j_up h1 0 14 1) (f1_w : ∀ x k : Nat, ¬ (x = 194 ∧ 858 ≤ k ∧ k < 1287) → h3 x k = j_up (thz h2) 195 1 1 x k) (f2_w : ∀ q : Nat, q < 429 → h3 194 (858 + q) = h2 194 q) (e4_w : h4 = j_up h3 182 18 (h3 182 18)) : SM D h4 := by
  obtain ⟨m6_w, s12, s1_w, s2_w, ⟨n, s3_w⟩, s4_w, s5⟩ := s
  have g : ∀ o k : Nat, o ≠ 182 → o ≠ 194 → ¬ (o = 195 ∧ k = 1) → ¬ (o = 0 ∧ k = 14) → h4 o k = h1 o k := fun o k z1 z2 z3 z4 => by
    rw [e4_w, up_ne (by omega), f1_w o k (by omega), up_ne z3, th_e z1, e2_w, up_ne z4]
  have g0 : ∀ o k : Nat, o ≠ 182 → o ≠ 194 → ¬ (o = 195 ∧ k = 1) → ¬ (o = 0 ∧ k = 14) → ¬ (133 ≤ o ∧ o ≤ 153) → h4 o k = h o k := fun o k z1 z2 z3 z4 z5 => (g o k z1 z2 z3 z4).trans (lc.1 o k (by omega))
  have r1_w : ∀ k : Nat, h2 194 k = h 194 k := fun k => by
    rw [e2_w, up_ne (by omega)]
    exact lc.1 194 k (by omega)
  have r0 : ∀ k : Nat, k < 858 ∨ 1287 ≤ k → h4 194 k = h 194 k := fun k z => by
    rw [e4_w, up_ne (by omega), f1_w 194 k (by omega), up_ne (by omega), th_e (by decide)]
    exact r1_w k
  have z70 : ∀ o k : Nat, 70 ≤ o → o ≤ 70 + 20 → h4 o k = h o k := fun o k a b => g0 o k (by omega) (by omega) (by omega) (by omega) (by omega)
  refine ⟨m6_w, s12, ?_, s2_w.fr z70 (fun k a b => r0 k (by omega)), ⟨n, ?_⟩, s4_w.fr m6_w s12 (g0 0 13 (by decide) (by decide) (by omega) (by omega) (by omega)) (fun o k a b => g0 o k (by omega) (by omega) (by omega) (by omega) (by omega)) (fun k a b => r0 k (by omega)) (g0 195 0 (by decide) (by decide) (by omega) (by omega) (by omega)), MKb.lay m6_w s12 s1_w s2_w lc (fun o k a b => g o k (by omega) (by omega) (by omega) (by omega)) (fun q z => ?_) ?_ ?_⟩
  · rw [cl_eq z70]
    exact s1_w.tr (EqD.of m6_w s12 (fun q z => (r0 _ (by omega)).symm))
  · obtain ⟨q8_w, q1_w, q2_w, q3_w⟩ := s3_w
    refine ⟨q8_w, (g0 154 1 (by decide) (by decide) (by omega) (by omega) (by omega)).trans q1_w, ?_, fun i z => (q3_w i z).cg ?_ (EqD.of m6_w s12 (fun q zq => (r0 _ (by omega)).symm)) (fun k _ => (g0 156 _ (by decide) (by decide) (by omega) (by omega) (by omega)).symm)⟩
    · rw [e4_w, up_eq, f1_w 182 18 (by omega), up_ne (by omega), show thz h2 182 18 = h2 182 18 from up_ne (by omega), e2_w, up_ne (by omega), lc.1 182 18 (by omega)]
      exact q2_w
    · unfold nxt
      by_cases y : i + 1 = n
      · rw [if_pos y, if_pos y]
        exact EqD.of m6_w s12 (fun q zq => (r0 _ (by omega)).symm)
      · rw [if_neg y, if_neg y]
        exact EqD.of m6_w s12 (fun q zq => (r0 _ (by omega)).symm)
  · rw [e4_w, up_ne (by omega), f2_w q z]
    exact r1_w q
  · rw [e4_w, up_ne (by omega), f1_w 0 14 (by omega), up_ne (by omega), th_e (by decide), e2_w, up_eq]
  · rw [e4_w, up_ne (by omega), f1_w 195 1 (by omega), up_eq]
/-- back to a mark_w -/
theorem SM.back (s : SM D h) (hm_w : (d = 112 ∧ c = 429 ∧ f = 13 ∧ g = 0) ∨ (d = 133 ∧ c = 858 ∧ f = 14 ∧ g = 1)) (hg : h 195 g ≠ 0) (lc : LCP 70 d h h1) (e2_w : h2 = j_up h1 154 1 0) (f1_w : ∀ x k : Nat, ¬ (x = 194 ∧ k < 429) → h3 x k = j_up (thz h2) 195 g 1 x k) (f2_w : ∀ q : Nat, q < 429 → h3 194 q = h2 194 (c + q)) (e4_w : h4 = j_up h3 182 18 0) : SM D h4 := by
  obtain ⟨m6_w, s12, s1_w, s2_w, ⟨n, s3_w⟩, s4_w, s5⟩ := s
  have mk_w : MKb D d c f g h := by
    rcases hm_w with ⟨rfl, rfl, rfl, rfl⟩ | ⟨rfl, rfl, rfl, rfl⟩
    · exact s4_w
    · exact s5
  have hg1 : h 195 g = 1 := by
    rcases mk_w.1 with e | e
    · exact absurd e hg
    · exact e
  obtain ⟨k1_w, k2⟩ := mk_w.2.2 hg
  have gl : ∀ o k : Nat, o ≠ 182 → o ≠ 194 → ¬ (o = 195 ∧ k = g) → ¬ (o = 154 ∧ k = 1) → h4 o k = h1 o k := fun o k z1 z2 z3 z4 => by
    rw [e4_w, up_ne (by omega), f1_w o k (by omega), up_ne z3, th_e z1, e2_w, up_ne z4]
  have g0 : ∀ o k : Nat, o ≠ 182 → o ≠ 194 → ¬ (o = 195 ∧ k = g) → ¬ (o = 154 ∧ k = 1) → ¬ (70 ≤ o ∧ o ≤ 90) → h4 o k = h o k := fun o k z1 z2 z3 z4 z5 => (gl o k z1 z2 z3 z4).trans (lc.1 o k (by omega))
  have g195 : ∀ k : Nat, h4 195 k = h 195 k := fun k => by
    by_cases y : k = g
    · rw [y, hg1, e4_w, up_ne (by omega), f1_w 195 g (by omega), up_eq]
    · exact g0 195 k (by decide) (by decide) (by omega) (by omega) (by omega)
  have r1_w : ∀ k : Nat, h2 194 k = h 194 k := fun k => by
    rw [e2_w, up_ne (by omega)]
    exact lc.1 194 k (by omega)
  have r0 : ∀ k : Nat, 429 ≤ k → h4 194 k = h 194 k := fun k z => by
    rw [e4_w, up_ne (by omega), f1_w 194 k (by omega), up_ne (by omega), th_e (by decide)]
    exact r1_w k
  have rb : ∀ q : Nat, q < 429 → h4 194 q = h 194 (c + q) := fun q z => by
    rw [e4_w, up_ne (by omega), f2_w q z]
    exact r1_w _
  have z70 : ∀ o k : Nat, 70 ≤ o → o ≤ 70 + 20 → h4 o k = h1 o k := fun o k a b => gl o k (by omega) (by omega) (by omega) (by omega)
  refine ⟨m6_w, s12, fun q i => ?_, sen_cp lc z70 k2 (fun q a b => by rw [Nat.zero_add]; exact rb q b), ⟨0, by decide, ?_, ?_, fun i z => by omega⟩, s4_w.fr m6_w s12 (g0 0 13 (by decide) (by decide) (by omega) (by omega) (by omega)) (fun o k a b => g0 o k (by omega) (by omega) (by omega) (by omega) (by omega)) (fun k a b => r0 k (by omega)) (g195 0), s5.fr m6_w s12 (g0 0 14 (by decide) (by decide) (by omega) (by omega) (by omega)) (fun o k a b => g0 o k (by omega) (by omega) (by omega) (by omega) (by omega)) (fun k a b => r0 k (by omega)) (g195 1)⟩
  · have l := i.le m6_w s12
    rw [cl_cp lc z70 q l, k1_w q i]
    show h 194 (c + q) = h4 194 (0 + q)
    rw [Nat.zero_add, rb q (by omega)]
  · rw [e4_w, up_ne (by omega), f1_w 154 1 (by omega), up_ne (by omega), th_e (by decide), e2_w, up_eq]
    rfl
  · rw [e4_w, up_eq]
    rfl
end SML
