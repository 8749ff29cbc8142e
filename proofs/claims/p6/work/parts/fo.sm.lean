/-! ===== deeds on_w both_w sides keep_w the state_w alike_w ===== -/
section SMD
variable {h h1 h2 h3 h4 h' : XH} {D : DD} {n : Nat} {u : Nat → Int} {mn_w pn : Nat} {v : Int}
theorem SM.deed (s : SM D h) (hn : h 154 1 = (n : Int)) (k1_w : h' 154 1 = ((pn8 n + 1 : Nat) : Int)) (k2 : h' 182 18 = ((pn8 n + 1 : Nat) : Int)) (k3 : ∀ k : Nat, k < 16 * pn8 n → h' 156 k = h 156 (if n = 8 then k + 16 else k)) (k4 : ∀ i : Nat, i < pn8 n → ∀ q : Nat, q < 404 → h' 194 (429 * (3 + i) + q) = h 194 (429 * (3 + (if n = 8 then i + 1 else i)) + q)) (k5 : ∀ q : Nat, q < 404 → h' 194 (429 * (3 + pn8 n) + q) = h 194 q) (t1_w : h' 156 (16 * pn8 n + 1) = (mn_w : Int)) (t2_w : mn_w < 6) (t3_w : h' 156 (16 * pn8 n + 2) = (pn : Int)) (t4_w : pn < 13) (t5_w : h' 156 (16 * pn8 n) = 0 ∨ h' 156 (16 * pn8 n) = 1 ∨ (h' 156 (16 * pn8 n) = 2 ∧ pn < 12) ∨ h' 156 (16 * pn8 n) = 3) (c1_w : EqD D (cl 70 h') u) (c2 : EqD D (bl 0 h') u) (c3 : EqD D (cl 70 h) (tkb (ent (pn8 n) h') mn_w pn u)) (f0_w : h' 0 13 = h 0 13 ∧ h' 0 14 = h 0 14) (f1_w : ∀ o k : Nat, 112 ≤ o → o ≤ 153 → h' o k = h o k) (f2_w : ∀ k : Nat, 404 ≤ k → k < 1287 → h' 194 k = h 194 k) (f3_w : h' 195 0 = h 195 0 ∧ h' 195 1 = h 195 1) (f4_w : ∀ o k : Nat, 86 ≤ o → o ≤ 90 → h' o k = h o k) (f5_w : h' 70 11 = h 70 11) : SM D h' := by
  obtain ⟨m6_w, s12, s1_w, s2_w, ⟨n', s3_w⟩, s4_w, s5⟩ := s
  have en : n' = n := by
    have := s3_w.2.1
    omega
  subst en
  refine ⟨m6_w, s12, c1_w.tr c2.sy, ?_, ⟨_, s3_w.push m6_w s12 k1_w k2 k3 k4 k5 ⟨mn_w, pn, t1_w, t2_w, t3_w, t4_w, t5_w, (s1_w.sy.tr c3).tr (tkb_cg c2.sy (fun _ _ => rfl))⟩⟩, s4_w.fr m6_w s12 f0_w.1 (fun o k a b => f1_w o k a (by omega)) (fun k a b => f2_w k (by omega) (by omega)) f3_w.1, s5.fr m6_w s12 f0_w.2 (fun o k a b => f1_w o k (by omega) (by omega)) (fun k a b => f2_w k (by omega) (by omega)) f3_w.2⟩
  obtain ⟨w, w1_w, w2_w, w3_w, w4_w⟩ := s2_w
  refine ⟨w, w1_w, f5_w.trans w2_w, (f2_w _ (by omega) (by omega)).trans w3_w, fun i z => ?_⟩
  rw [f4_w (70 + 16) _ (by omega) (by omega), f4_w (70 + 18) _ (by omega) (by omega), f4_w (70 + 20) _ (by omega) (by omega), f2_w _ (by omega) (by omega), f2_w _ (by omega) (by omega), f2_w _ (by omega) (by omega)]
  exact w4_w i z
theorem cl_lo {b q : Nat} (z : q < 78) : cl b h q = h (b + 2) q := if_pos z
theorem cl_su {b q : Nat} (z : 78 ≤ q) (z2 : q < 150) : cl b h q = h (b + 4) (q - 78) := (if_neg (by omega)).trans (if_pos z2)
theorem cl_fe {b q : Nat} (z : 150 ≤ q) (z2 : q < 162) : cl b h q = h (b + 6) (q - 150) := (if_neg (by omega)).trans ((if_neg (by omega)).trans (if_pos z2))
theorem cl_ru {b q : Nat} (z : 162 ≤ q) : cl b h q = h b 10 := (if_neg (by omega)).trans ((if_neg (by omega)).trans (if_neg (by omega)))
/-- a reading_w by hand_w -/
theorem SM.read (s : SM D h) (hn : h 154 1 = (n : Int)) (t2_w : mn_w < nM D) (t4_w : pn < 13) (ke : KEP n mn_w pn 0 h h1) (e2_w : h2 = j_up h1 72 (13 * mn_w + pn) v) (rk : RKP n (thz h2) h3) (e4_w : h4 = j_up h3 194 (13 * mn_w + pn) v) : SM D h4 := by
  have m6_w := s.1
  have s12 := s.2.1
  have n8 : n ≤ 8 := by
    obtain ⟨-, -, -, -, ⟨n', s3_w⟩, -⟩ := s
    have := s3_w.2.1
    have := s3_w.1
    omega
  have p7_w : pn8 n ≤ 7 := by
    unfold pn8
    split <;> omega
  obtain ⟨a1_w, a2, a3, a4, a5, a6, a7, a8⟩ := ke
  obtain ⟨b1, b2, b3, b4⟩ := rk
  -- all_w but the state_w of the reference_w is_w as_w the class left it
  have g : ∀ o k : Nat, o ≠ 182 → o ≠ 194 → h4 o k = h2 o k := fun o k z1 z2 => by
    rw [e4_w, up_ne (by omega), b1 o k (by omega) (by omega)]
    exact th_e z1
  have g1 : ∀ o k : Nat, o ≠ 182 → o ≠ 194 → o ≠ 72 → h4 o k = h1 o k := fun o k z1 z2 z3 => by
    rw [g o k z1 z2, e2_w, up_ne (by omega)]
  have r0 : ∀ k : Nat, h2 194 k = h 194 k := fun k => by
    rw [e2_w, up_ne (by omega)]
    exact a1_w 194 k (by omega)
  have r1_w : ∀ k : Nat, k ≠ 13 * mn_w + pn → k < 1287 → h4 194 k = h 194 k := fun k z1 z2 => by
    rw [e4_w, up_ne (by omega), b1 194 k (by omega) (by omega), th_e (by decide)]
    exact r0 k
  have e0 : h4 156 (16 * pn8 n) = 0 := (g1 156 _ (by decide) (by decide) (by decide)).trans a4
  refine s.deed (n := n) (mn_w := mn_w) (pn := pn) (u := fun q => if q = 13 * mn_w + pn then v else cl 70 h q) hn ((g1 154 1 (by decide) (by decide) (by decide)).trans a2) ?_ (fun k z => (g1 156 k (by decide) (by decide) (by decide)).trans (a3 k z)) (fun i z q zq => ?_) (fun q zq => ?_) ((g1 156 _ (by decide) (by decide) (by decide)).trans a5) (by omega) ((g1 156 _ (by decide) (by decide) (by decide)).trans a6) t4_w (Or.inl e0) (fun q i => ?_) (fun q i => ?_) (fun q i => ?_) ⟨?_, ?_⟩ (fun o k z1 z2 => ?_) (fun k z1 z2 => r1_w k (by omega) z2) ⟨?_, ?_⟩ (fun o k z1 z2 => ?_) ?_
  · rw [e4_w, up_ne (by omega)]
    exact b2
  · rw [e4_w, up_ne (by omega), b3 i z q zq, th_e (by decide)]
    exact r0 _
  · rw [e4_w, up_ne (by omega), b4 q zq, th_e (by decide)]
    exact r0 _
  · show cl 70 h4 q = if q = 13 * mn_w + pn then v else cl 70 h q
    by_cases y : q = 13 * mn_w + pn
    · rw [if_pos y, cl_lo (by omega), g _ _ (by decide) (by decide), e2_w, y, up_eq]
    · rw [if_neg y]
      unfold cl
      by_cases y1 : q < 78
      · rw [if_pos y1, if_pos y1, g _ _ (by decide) (by decide), e2_w, up_ne (by omega)]
        exact a1_w 72 q (by omega)
      · rw [if_neg y1, if_neg y1, g1 _ _ (by decide) (by decide) (by decide), g1 _ _ (by decide) (by decide) (by decide), g1 _ _ (by decide) (by decide) (by decide), a1_w 74 _ (by omega), a1_w 76 _ (by omega), a1_w 70 _ (by omega)]
  · show h4 194 (0 + q) = if q = 13 * mn_w + pn then v else cl 70 h q
    rw [Nat.zero_add]
    by_cases y : q = 13 * mn_w + pn
    · rw [if_pos y, e4_w, y, up_eq]
    · rw [if_neg y, r1_w q y (by have := i.le m6_w s12; omega), s.2.2.1 q i]
      show h 194 q = h 194 (0 + q)
      rw [Nat.zero_add]
  · show cl 70 h q = tkb (ent (pn8 n) h4) mn_w pn _ q
    unfold tkb
    by_cases y : q = 13 * mn_w + pn
    · rw [if_pos ⟨e0, y⟩, cl_lo (by omega)]
      show h 72 q = h4 156 (16 * pn8 n + 3)
      rw [g1 156 _ (by decide) (by decide) (by decide), a7, if_neg (by decide), y]
    · have e00 : ent (pn8 n) h4 0 = 0 := e0
      rw [if_neg (fun z => y z.2), e00, if_neg (fun z => absurd z.1 (by decide)), if_neg (fun z => absurd z.1 (by decide)), if_neg (fun z => absurd z.1 (by decide))]
      exact (if_neg y).symm
  · rw [g1 0 13 (by decide) (by decide) (by decide), a1_w 0 13 (by omega)]
  · rw [g1 0 14 (by decide) (by decide) (by decide), a1_w 0 14 (by omega)]
  · rw [g1 o k (by omega) (by omega) (by omega), a1_w o k (by omega)]
  · rw [g1 195 0 (by decide) (by decide) (by decide), a1_w 195 0 (by omega)]
  · rw [g1 195 1 (by decide) (by decide) (by decide), a1_w 195 1 (by omega)]
  · rw [g1 o k (by omega) (by omega) (by omega), a1_w o k (by omega)]
  · rw [g1 70 11 (by decide) (by decide) (by decide), a1_w 70 11 (by omega)]
/-- what all_w deeds have in common_w: the cells_w that are as_w they were -/
theorem SM.n8 (s : SM D h) (hn : h 154 1 = (n : Int)) : n ≤ 8 ∧ pn8 n ≤ 7 := by
  obtain ⟨-, -, -, -, ⟨n', s3_w⟩, -⟩ := s
  have a := s3_w.2.1
  have b := s3_w.1
  refine ⟨by omega, ?_⟩
  unfold pn8
  split <;> omega
/-- the feeder told_w by hand_w -/
theorem SM.total (s : SM D h) (hn : h 154 1 = (n : Int)) (t4_w : pn < nS D) (ke : KEP n 0 pn 2 h h1) (e2_w : h2 = j_up h1 76 pn v) (rk : RKP n (thz h2) h3) (e4_w : h4 = j_up h3 194 (150 + pn) v) : SM D h4 := by
  have m6_w := s.1
  have s12 := s.2.1
  obtain ⟨n8, p7_w⟩ := s.n8 hn
  obtain ⟨a1_w, a2, a3, a4, a5, a6, a7, a8⟩ := ke
  obtain ⟨b1, b2, b3, b4⟩ := rk
  have g : ∀ o k : Nat, o ≠ 182 → o ≠ 194 → h4 o k = h2 o k := fun o k z1 z2 => by
    rw [e4_w, up_ne (by omega), b1 o k (by omega) (by omega)]
    exact th_e z1
  have g1 : ∀ o k : Nat, o ≠ 182 → o ≠ 194 → o ≠ 76 → h4 o k = h1 o k := fun o k z1 z2 z3 => by
    rw [g o k z1 z2, e2_w, up_ne (by omega)]
  have r0 : ∀ k : Nat, h2 194 k = h 194 k := fun k => by
    rw [e2_w, up_ne (by omega)]
    exact a1_w 194 k (by omega)
  have r1_w : ∀ k : Nat, k ≠ 150 + pn → k < 1287 → h4 194 k = h 194 k := fun k z1 z2 => by
    rw [e4_w, up_ne (by omega), b1 194 k (by omega) (by omega), th_e (by decide)]
    exact r0 k
  have e0 : h4 156 (16 * pn8 n) = 2 := (g1 156 _ (by decide) (by decide) (by decide)).trans a4
  refine s.deed (n := n) (mn_w := 0) (pn := pn) (u := fun q => if q = 150 + pn then v else cl 70 h q) hn ((g1 154 1 (by decide) (by decide) (by decide)).trans a2) ?_ (fun k z => (g1 156 k (by decide) (by decide) (by decide)).trans (a3 k z)) (fun i z q zq => ?_) (fun q zq => ?_) ((g1 156 _ (by decide) (by decide) (by decide)).trans a5) (by omega) ((g1 156 _ (by decide) (by decide) (by decide)).trans a6) (by omega) (Or.inr (Or.inr (Or.inl ⟨e0, by omega⟩))) (fun q i => ?_) (fun q i => ?_) (fun q i => ?_) ⟨?_, ?_⟩ (fun o k z1 z2 => ?_) (fun k z1 z2 => r1_w k (by omega) z2) ⟨?_, ?_⟩ (fun o k z1 z2 => ?_) ?_
  · rw [e4_w, up_ne (by omega)]
    exact b2
  · rw [e4_w, up_ne (by omega), b3 i z q zq, th_e (by decide)]
    exact r0 _
  · rw [e4_w, up_ne (by omega), b4 q zq, th_e (by decide)]
    exact r0 _
  · show cl 70 h4 q = if q = 150 + pn then v else cl 70 h q
    by_cases y : q = 150 + pn
    · rw [if_pos y, cl_fe (by omega) (by omega), g _ _ (by decide) (by decide), e2_w, show q - 150 = pn by omega, up_eq]
    · rw [if_neg y]
      unfold cl
      rw [g1 72 _ (by decide) (by decide) (by decide), g1 74 _ (by decide) (by decide) (by decide), g1 70 _ (by decide) (by decide) (by decide), a1_w 72 _ (by omega), a1_w 74 _ (by omega), a1_w 70 _ (by omega)]
      by_cases y1 : q < 78
      · rw [if_pos y1, if_pos y1]
      · rw [if_neg y1, if_neg y1]
        by_cases y2 : q < 150
        · rw [if_pos y2, if_pos y2]
        · rw [if_neg y2, if_neg y2]
          by_cases y3 : q < 162
          · rw [if_pos y3, if_pos y3, g _ _ (by decide) (by decide), e2_w, up_ne (by omega)]
            exact a1_w 76 _ (by omega)
          · rw [if_neg y3, if_neg y3]
  · show h4 194 (0 + q) = if q = 150 + pn then v else cl 70 h q
    rw [Nat.zero_add]
    by_cases y : q = 150 + pn
    · rw [if_pos y, e4_w, y, up_eq]
    · rw [if_neg y, r1_w q y (by have := i.le m6_w s12; omega), s.2.2.1 q i]
      show h 194 q = h 194 (0 + q)
      rw [Nat.zero_add]
  · show cl 70 h q = tkb (ent (pn8 n) h4) 0 pn _ q
    have e00 : ent (pn8 n) h4 0 = 2 := e0
    unfold tkb
    rw [e00, if_neg (fun z => absurd z.1 (by decide)), if_neg (fun z => absurd z.1 (by decide))]
    by_cases y : q = 150 + pn
    · rw [if_pos ⟨rfl, y⟩, cl_fe (by omega) (by omega)]
      show h 76 (q - 150) = h4 156 (16 * pn8 n + 3)
      rw [g1 156 _ (by decide) (by decide) (by decide), a7, if_pos rfl, show q - 150 = pn by omega]
    · rw [if_neg (fun z => y z.2), if_neg (fun z => absurd z.1 (by decide))]
      exact (if_neg y).symm
  · rw [g1 0 13 (by decide) (by decide) (by decide), a1_w 0 13 (by omega)]
  · rw [g1 0 14 (by decide) (by decide) (by decide), a1_w 0 14 (by omega)]
  · rw [g1 o k (by omega) (by omega) (by omega), a1_w o k (by omega)]
  · rw [g1 195 0 (by decide) (by decide) (by decide), a1_w 195 0 (by omega)]
  · rw [g1 195 1 (by decide) (by decide) (by decide), a1_w 195 1 (by omega)]
  · rw [g1 o k (by omega) (by omega) (by omega), a1_w o k (by omega)]
  · rw [g1 70 11 (by decide) (by decide) (by decide), a1_w 70 11 (by omega)]
/-- a meter moved by hand_w -/
theorem SM.move (s : SM D h) (hn : h 154 1 = (n : Int)) (t2_w : mn_w < nM D) (t4_w : pn < 12) (ke : KEP n mn_w pn 1 h h1) (c1_w : ∀ x k : Nat, x ≠ 74 → h2 x k = h1 x k) (c2 : ∀ k : Nat, h2 74 k = if 12 * mn_w + pn ≤ k ∧ k < 12 * mn_w + 12 then v else h1 74 k) (rk : RKP n (thz h2) h3) (d1_w : ∀ x k : Nat, x ≠ 194 → h4 x k = h3 x k) (d2_w : ∀ k : Nat, h4 194 k = if 78 + (12 * mn_w + pn) ≤ k ∧ k < 78 + (12 * mn_w + 12) then v else h3 194 k) : SM D h4 := by
  have m6_w := s.1
  have s12 := s.2.1
  obtain ⟨n8, p7_w⟩ := s.n8 hn
  obtain ⟨a1_w, a2, a3, a4, a5, a6, a7, a8⟩ := ke
  obtain ⟨b1, b2, b3, b4⟩ := rk
  have g : ∀ o k : Nat, o ≠ 182 → o ≠ 194 → h4 o k = h2 o k := fun o k z1 z2 => by
    rw [d1_w o k z2, b1 o k (by omega) (by omega)]
    exact th_e z1
  have g1 : ∀ o k : Nat, o ≠ 182 → o ≠ 194 → o ≠ 74 → h4 o k = h1 o k := fun o k z1 z2 z3 => by
    rw [g o k z1 z2, c1_w o k z3]
  have r0 : ∀ k : Nat, h2 194 k = h 194 k := fun k => by
    rw [c1_w 194 k (by decide)]
    exact a1_w 194 k (by omega)
  have r1_w : ∀ k : Nat, ¬ (78 + (12 * mn_w + pn) ≤ k ∧ k < 78 + (12 * mn_w + 12)) → k < 1287 → h4 194 k = h 194 k := fun k z1 z2 => by
    rw [d2_w, if_neg z1, b1 194 k (by omega) (by omega), th_e (by decide)]
    exact r0 k
  have e0 : h4 156 (16 * pn8 n) = 1 := (g1 156 _ (by decide) (by decide) (by decide)).trans a4
  refine s.deed (n := n) (mn_w := mn_w) (pn := pn) (u := fun q => if 78 + (12 * mn_w + pn) ≤ q ∧ q < 78 + (12 * mn_w + 12) then v else cl 70 h q) hn ((g1 154 1 (by decide) (by decide) (by decide)).trans a2) ?_ (fun k z => (g1 156 k (by decide) (by decide) (by decide)).trans (a3 k z)) (fun i z q zq => ?_) (fun q zq => ?_) ((g1 156 _ (by decide) (by decide) (by decide)).trans a5) (by omega) ((g1 156 _ (by decide) (by decide) (by decide)).trans a6) (by omega) (Or.inr (Or.inl e0)) (fun q i => ?_) (fun q i => ?_) (fun q i => ?_) ⟨?_, ?_⟩ (fun o k z1 z2 => ?_) (fun k z1 z2 => r1_w k (by omega) z2) ⟨?_, ?_⟩ (fun o k z1 z2 => ?_) ?_
  · rw [d1_w 182 18 (by decide)]
    exact b2
  · rw [d2_w, if_neg (by omega), b3 i z q zq, th_e (by decide)]
    exact r0 _
  · rw [d2_w, if_neg (by omega), b4 q zq, th_e (by decide)]
    exact r0 _
  · show cl 70 h4 q = if 78 + (12 * mn_w + pn) ≤ q ∧ q < 78 + (12 * mn_w + 12) then v else cl 70 h q
    by_cases y : 78 + (12 * mn_w + pn) ≤ q ∧ q < 78 + (12 * mn_w + 12)
    · rw [if_pos y, cl_su (by omega) (by omega), g _ _ (by decide) (by decide), c2, if_pos (by omega)]
    · rw [if_neg y]
      unfold cl
      rw [g1 72 _ (by decide) (by decide) (by decide), g1 76 _ (by decide) (by decide) (by decide), g1 70 _ (by decide) (by decide) (by decide), a1_w 72 _ (by omega), a1_w 76 _ (by omega), a1_w 70 _ (by omega)]
      by_cases y1 : q < 78
      · rw [if_pos y1, if_pos y1]
      · rw [if_neg y1, if_neg y1]
        by_cases y2 : q < 150
        · rw [if_pos y2, if_pos y2, g _ _ (by decide) (by decide), c2, if_neg (by omega)]
          exact a1_w 74 _ (by omega)
        · rw [if_neg y2, if_neg y2]
  · show h4 194 (0 + q) = if 78 + (12 * mn_w + pn) ≤ q ∧ q < 78 + (12 * mn_w + 12) then v else cl 70 h q
    rw [Nat.zero_add]
    by_cases y : 78 + (12 * mn_w + pn) ≤ q ∧ q < 78 + (12 * mn_w + 12)
    · rw [if_pos y, d2_w, if_pos y]
    · rw [if_neg y, r1_w q y (by have := i.le m6_w s12; omega), s.2.2.1 q i]
      show h 194 q = h 194 (0 + q)
      rw [Nat.zero_add]
  · show cl 70 h q = tkb (ent (pn8 n) h4) mn_w pn _ q
    have e00 : ent (pn8 n) h4 0 = 1 := e0
    unfold tkb
    rw [e00, if_neg (fun z => absurd z.1 (by decide))]
    by_cases y : 78 + 12 * mn_w ≤ q ∧ q < 78 + 12 * mn_w + 12
    · rw [if_pos ⟨rfl, y⟩, cl_su (by omega) (by omega)]
      show h 74 (q - 78) = h4 156 (16 * pn8 n + (4 + (q - 78 - 12 * mn_w)))
      rw [g1 156 _ (by decide) (by decide) (by decide), show 16 * pn8 n + (4 + (q - 78 - 12 * mn_w)) = 16 * pn8 n + 4 + (q - 78 - 12 * mn_w) by omega, a8 _ (by omega)]
      exact congrArg (h 74) (by omega)
    · rw [if_neg (fun z => y z.2), if_neg (fun z => absurd z.1 (by decide)), if_neg (fun z => absurd z.1 (by decide))]
      exact (if_neg (by omega)).symm
  · rw [g1 0 13 (by decide) (by decide) (by decide), a1_w 0 13 (by omega)]
  · rw [g1 0 14 (by decide) (by decide) (by decide), a1_w 0 14 (by omega)]
  · rw [g1 o k (by omega) (by omega) (by omega), a1_w o k (by omega)]
  · rw [g1 195 0 (by decide) (by decide) (by decide), a1_w 195 0 (by omega)]
  · rw [g1 195 1 (by decide) (by decide) (by decide), a1_w 195 1 (by omega)]
  · rw [g1 o k (by omega) (by omega) (by omega), a1_w o k (by omega)]
  · rw [g1 70 11 (by decide) (by decide) (by decide), a1_w 70 11 (by omega)]
end SMD
