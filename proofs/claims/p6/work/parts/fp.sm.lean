/-! ===== run, undo, see on_w both_w sides keep_w the state_w alike_w ===== -/
section SMR
variable {h h1 h2 h3 h4 h' : XH} {D : DD} {n r : Nat} {u : Nat → Int} {mn_w pn : Nat} {v : Int}
theorem u3_f (f : FrW u3_W h h') {o k : Nat} (z : o ≠ 28 ∧ o ≠ 78 ∧ o ≠ 80 ∧ o ≠ 82 ∧ o ≠ 84 ∧ (o < 157 ∨ 178 ≤ o)) : h' o k = h o k := f o k (by
  unfold aW u3_W
  rw [Bool.or_eq_false_iff, List.contains_eq_mem, List.contains_eq_mem, decide_eq_false_iff_not, decide_eq_false_iff_not]
  simp only [List.mem_cons, List.not_mem_nil, or_false, Prod.mk.injEq]
  omega)
theorem m270_f (f : Fr (m_W 270) h h') {o k : Nat} (z : o < 182) : h' o k = h o k := f o k (fun y => absurd y (by omega)) (fr_lo (by decide) (by omega))
/-- a run by hand_w -/
theorem SM.run (s : SM D h) (hn : h 154 1 = (n : Int)) (hr : h 70 10 = (r : Int)) (ke : KEP n 0 0 3 h h1) (c1_w : FrW u3_W h1 h2) (e2_w : h' = j_up h2 70 10 ((r + 1 : Nat) : Int)) (rk : RKP n (thz h') h3) (d1_w : Fr (m_W 270) h3 h4) (d2_w : ∀ q : Nat, q < 162 ∨ 404 ≤ q → h4 194 q = h3 194 q) (d3_w : h4 194 162 = ((r + 1 : Nat) : Int)) : SM D h4 := by
  have m6_w := s.1
  have s12 := s.2.1
  obtain ⟨n8, p7_w⟩ := s.n8 hn
  obtain ⟨a1_w, a2, a3, a4, a5, a6, a7, a8⟩ := ke
  obtain ⟨b1, b2, b3, b4⟩ := rk
  have g : ∀ o k : Nat, o < 182 → h4 o k = h' o k := fun o k z => by
    rw [m270_f d1_w z, b1 o k (by omega) (by omega)]
    exact th_e (by omega)
  have g1 : ∀ o k : Nat, o < 157 → o ≠ 28 ∧ o ≠ 78 ∧ o ≠ 80 ∧ o ≠ 82 ∧ o ≠ 84 → ¬ (o = 70 ∧ k = 10) → h4 o k = h1 o k := fun o k z1 z2 z3 => by
    rw [g o k (by omega), e2_w, up_ne z3, u3_f c1_w (by omega)]
  have r0 : ∀ k : Nat, h' 194 k = h 194 k := fun k => by
    rw [e2_w, up_ne (by omega), u3_f c1_w (by omega)]
    exact a1_w 194 k (by omega)
  have e0 : h4 156 (16 * pn8 n) = 3 := (g1 156 _ (by decide) (by decide) (by omega)).trans a4
  have hc_w : ∀ q : Nat, q < 162 → cl 70 h4 q = cl 70 h q := fun q z => by
    unfold cl
    rw [g1 72 _ (by decide) (by decide) (by omega), g1 74 _ (by decide) (by decide) (by omega), g1 76 _ (by decide) (by decide) (by omega), a1_w 72 _ (by omega), a1_w 74 _ (by omega), a1_w 76 _ (by omega), if_pos z, if_pos z]
  refine s.deed (n := n) (mn_w := 0) (pn := 0) (u := fun q => if q = 162 then ((r + 1 : Nat) : Int) else cl 70 h q) hn ((g1 154 1 (by decide) (by decide) (by omega)).trans a2) ?_ (fun k z => (g1 156 k (by decide) (by decide) (by omega)).trans (a3 k z)) (fun i z q zq => ?_) (fun q zq => ?_) ((g1 156 _ (by decide) (by decide) (by omega)).trans a5) (by omega) ((g1 156 _ (by decide) (by decide) (by omega)).trans a6) (by omega) (Or.inr (Or.inr (Or.inr e0))) (fun q i => ?_) (fun q i => ?_) (fun q i => ?_) ⟨?_, ?_⟩ (fun o k z1 z2 => ?_) (fun k z1 z2 => ?_) ⟨?_, ?_⟩ (fun o k z1 z2 => ?_) ?_
  · rw [d1_w 182 18 (fun _ => rfl) rfl]
    exact b2
  · rw [d2_w _ (by omega), b3 i z q zq, th_e (by decide)]
    exact r0 _
  · rw [d2_w _ (by omega), b4 q zq, th_e (by decide)]
    exact r0 _
  · show cl 70 h4 q = if q = 162 then ((r + 1 : Nat) : Int) else cl 70 h q
    by_cases y : q = 162
    · rw [if_pos y, cl_ru (by omega), g _ _ (by decide), e2_w, up_eq]
    · rw [if_neg y]
      exact hc_w q (by have := i.le m6_w s12; omega)
  · show h4 194 (0 + q) = if q = 162 then ((r + 1 : Nat) : Int) else cl 70 h q
    rw [Nat.zero_add]
    by_cases y : q = 162
    · rw [if_pos y, y, d3_w]
    · have := i.le m6_w s12
      rw [if_neg y, d2_w q (by omega), b1 194 q (by omega) (by omega), th_e (by decide), r0, s.2.2.1 q i]
      show h 194 q = h 194 (0 + q)
      rw [Nat.zero_add]
  · show cl 70 h q = tkb (ent (pn8 n) h4) 0 0 _ q
    have e00 : ent (pn8 n) h4 0 = 3 := e0
    unfold tkb
    rw [e00, if_neg (fun z => absurd z.1 (by decide)), if_neg (fun z => absurd z.1 (by decide)), if_neg (fun z => absurd z.1 (by decide))]
    by_cases y : q = 162
    · rw [if_pos ⟨rfl, y⟩, cl_ru (by omega), hr]
      show (r : Int) = (if q = 162 then ((r + 1 : Nat) : Int) else cl 70 h q) - 1
      rw [if_pos y]
      omega
    · rw [if_neg (fun z => y z.2)]
      exact (if_neg y).symm
  · rw [g1 0 13 (by decide) (by decide) (by omega), a1_w 0 13 (by omega)]
  · rw [g1 0 14 (by decide) (by decide) (by omega), a1_w 0 14 (by omega)]
  · rw [g1 o k (by omega) (by omega) (by omega), a1_w o k (by omega)]
  · rw [d2_w k (by omega), b1 194 k (by omega) (by omega), th_e (by decide), r0]
  · rw [d1_w 195 0 (fun y => absurd y (by decide)) rfl, b1 195 0 (by omega) (by omega), th_e (by decide), e2_w, up_ne (by omega), u3_f c1_w (by omega), a1_w 195 0 (by omega)]
  · rw [d1_w 195 1 (fun y => absurd y (by decide)) rfl, b1 195 1 (by omega) (by omega), th_e (by decide), e2_w, up_ne (by omega), u3_f c1_w (by omega), a1_w 195 1 (by omega)]
  · rw [g1 o k (by omega) (by omega) (by omega), a1_w o k (by omega)]
  · rw [g1 70 11 (by decide) (by decide) (by omega), a1_w 70 11 (by omega)]
/-- the last_w deed is_w undone -/
theorem SM.undo (s : SM D h) (hn : h 154 1 = ((n + 1 : Nat) : Int)) (hr : 0 ≤ h 70 10 ∧ h 70 10 ≤ 100) (em : h 156 (16 * n + 1) = (mn_w : Int)) (hm_w : mn_w < 6) (ep : h 156 (16 * n + 2) = (pn : Int)) (hp : pn < 13) (h12 : h 156 (16 * n) = 2 → pn < 12) (tk : TKB n mn_w pn h h1) (f1_w : ∀ x k : Nat, ¬ (x = 194 ∧ k < 404) → ¬ (x = 182 ∧ k = 18) → h2 x k = thz h1 x k) (f2_w : h2 182 18 = (n : Int)) (f3_w : ∀ q : Nat, q < 404 → h2 194 q = h1 194 (429 * (3 + n) + q)) : SM D h2 := by
  obtain ⟨m6_w, s12, s1_w, s2_w, ⟨n', s3_w⟩, s4_w, s5⟩ := s
  have en : n' = n + 1 := by
    have := s3_w.2.1
    omega
  subst en
  have n8 : n + 1 ≤ 8 := s3_w.1
  -- what the class leaves
  have g0 : ∀ o k : Nat, o ≠ 72 → o ≠ 74 → o ≠ 76 → ¬ (o = 70 ∧ k = 10) → ¬ (o = 154 ∧ k = 1) → h1 o k = h o k := fun o k z1 z2 z3 z4 z5 => by
    rcases tk with ⟨-, e⟩ | ⟨-, e, -⟩ | ⟨-, e⟩ | ⟨-, e⟩
    · rw [e, up_ne (by omega), up_ne z5]
    · exact e o k (by omega)
    · rw [e, up_ne (by omega), up_ne z5]
    · rw [e, up_ne z4, up_ne z5]
  have c0 : ∀ q : Nat, q ≤ 162 → cl 70 h1 q = tkb (ent n h) mn_w pn (cl 70 h) q := fun q z => by
    have e00 : ent n h 0 = h 156 (16 * n) := rfl
    unfold tkb
    rw [e00]
    rcases tk with ⟨e, e1_w⟩ | ⟨e, e1_w, -, e3_w⟩ | ⟨e, e1_w⟩ | ⟨e, e1_w⟩
    · rw [e]
      by_cases y : q = 13 * mn_w + pn
      · rw [if_pos ⟨rfl, y⟩, cl_lo (by omega), e1_w, y, up_eq]
        rfl
      · rw [if_neg (fun z => y z.2), if_neg (fun z => absurd z.1 (by decide)), if_neg (fun z => absurd z.1 (by decide)), if_neg (fun z => absurd z.1 (by decide)), e1_w]
        unfold cl
        by_cases y1 : q < 78
        · rw [if_pos y1, if_pos y1, up_ne (by omega), up_ne (by omega)]
        · rw [if_neg y1, if_neg y1, up_ne (by omega), up_ne (by omega), up_ne (by omega), up_ne (by omega), up_ne (by omega), up_ne (by omega)]
    · rw [e, if_neg (fun z => absurd z.1 (by decide))]
      by_cases y : 78 + 12 * mn_w ≤ q ∧ q < 78 + 12 * mn_w + 12
      · rw [if_pos ⟨rfl, y⟩, cl_su (by omega) (by omega), e3_w, if_pos (by omega)]
        show h 156 (16 * n + 4 + (q - 78 - 12 * mn_w)) = h 156 (16 * n + (4 + (q - 78 - 12 * mn_w)))
        exact congrArg (h 156) (by omega)
      · rw [if_neg (fun z => y z.2), if_neg (fun z => absurd z.1 (by decide)), if_neg (fun z => absurd z.1 (by decide))]
        unfold cl
        rw [e1_w 72 _ (by omega), e1_w 76 _ (by omega), e1_w 70 _ (by omega)]
        by_cases y1 : q < 78
        · rw [if_pos y1, if_pos y1]
        · rw [if_neg y1, if_neg y1]
          by_cases y2 : q < 150
          · rw [if_pos y2, if_pos y2, e3_w, if_neg (by omega)]
          · rw [if_neg y2, if_neg y2]
    · have p12 := h12 e
      rw [e, if_neg (fun z => absurd z.1 (by decide)), if_neg (fun z => absurd z.1 (by decide))]
      by_cases y : q = 150 + pn
      · rw [if_pos ⟨rfl, y⟩, cl_fe (by omega) (by omega), e1_w, show q - 150 = pn by omega, up_eq]
        rfl
      · rw [if_neg (fun z => y z.2), if_neg (fun z => absurd z.1 (by decide)), e1_w]
        unfold cl
        by_cases y1 : q < 78
        · rw [if_pos y1, if_pos y1, up_ne (by omega), up_ne (by omega)]
        · rw [if_neg y1, if_neg y1]
          by_cases y2 : q < 150
          · rw [if_pos y2, if_pos y2, up_ne (by omega), up_ne (by omega)]
          · rw [if_neg y2, if_neg y2]
            by_cases y3 : q < 162
            · rw [if_pos y3, if_pos y3, up_ne (by omega), up_ne (by omega)]
            · rw [if_neg y3, if_neg y3, up_ne (by omega), up_ne (by omega)]
    · rw [e, if_neg (fun z => absurd z.1 (by decide)), if_neg (fun z => absurd z.1 (by decide)), if_neg (fun z => absurd z.1 (by decide))]
      by_cases y : q = 162
      · rw [if_pos ⟨rfl, y⟩, cl_ru (by omega), cl_ru (by omega), e1_w, up_eq]
        exact j32_id (by omega) (by omega)
      · rw [if_neg (fun z => y z.2), e1_w]
        unfold cl
        rw [if_pos (show q < 162 by omega), if_pos (show q < 162 by omega), up_ne (by omega), up_ne (by omega), up_ne (by omega), up_ne (by omega), up_ne (by omega), up_ne (by omega)]
  have k154 : h1 154 1 = (n : Int) := by
    rcases tk with ⟨-, e⟩ | ⟨-, -, e, -⟩ | ⟨-, e⟩ | ⟨-, e⟩
    · rw [e, up_ne (by omega), up_eq]
    · exact e
    · rw [e, up_ne (by omega), up_eq]
    · rw [e, up_ne (by omega), up_eq]
  have g : ∀ o k : Nat, o ≠ 182 → o ≠ 194 → h2 o k = h1 o k := fun o k z1 z2 => by
    rw [f1_w o k (by omega) (by omega)]
    exact th_e z1
  have r0 : ∀ k : Nat, h1 194 k = h 194 k := fun k => g0 194 k (by decide) (by decide) (by decide) (by omega) (by omega)
  have r1_w : ∀ k : Nat, 404 ≤ k → h2 194 k = h 194 k := fun k z => by
    rw [f1_w 194 k (by omega) (by omega), th_e (by decide)]
    exact r0 k
  have hc_w : cl 70 h2 = cl 70 h1 := cl_eq (fun o k a b => g o k (by omega) (by omega))
  have gg : ∀ o k : Nat, o ≠ 182 → o ≠ 194 → o ≠ 72 → o ≠ 74 → o ≠ 76 → ¬ (o = 70 ∧ k = 10) → ¬ (o = 154 ∧ k = 1) → h2 o k = h o k := fun o k z1 z2 z3 z4 z5 z6 z7 => (g o k z1 z2).trans (g0 o k z3 z4 z5 z6 z7)
  refine ⟨m6_w, s12, ?_, ?_, ⟨n, s3_w.pop m6_w s12 ((g 154 1 (by decide) (by decide)).trans k154) f2_w (fun k => gg 156 k (by decide) (by decide) (by decide) (by decide) (by decide) (by omega) (by omega)) (fun q a b => r1_w q (by omega)) (fun q z => (f3_w q z).trans (r0 _))⟩, s4_w.fr m6_w s12 (gg 0 13 (by decide) (by decide) (by decide) (by decide) (by decide) (by omega) (by omega)) (fun o k a b => gg o k (by omega) (by omega) (by omega) (by omega) (by omega) (by omega) (by omega)) (fun k a b => r1_w k (by omega)) (gg 195 0 (by decide) (by decide) (by decide) (by decide) (by decide) (by omega) (by omega)), s5.fr m6_w s12 (gg 0 14 (by decide) (by decide) (by decide) (by decide) (by decide) (by omega) (by omega)) (fun o k a b => gg o k (by omega) (by omega) (by omega) (by omega) (by omega) (by omega) (by omega)) (fun k a b => r1_w k (by omega)) (gg 195 1 (by decide) (by decide) (by decide) (by decide) (by decide) (by omega) (by omega))⟩
  · obtain ⟨mn', pn', t1_w, -, t3_w, -, -, t6⟩ := s3_w.2.2.2 n (by omega)
    have em' : mn' = mn_w := by
      have : h 156 (16 * n + 1) = (mn' : Int) := t1_w
      omega
    have ep' : pn' = pn := by
      have : h 156 (16 * n + 2) = (pn' : Int) := t3_w
      omega
    subst em'
    subst ep'
    have nx : nxt (n + 1) n h = bl 0 h := if_pos rfl
    rw [nx] at t6
    intro q i
    have l := i.le m6_w s12
    rw [hc_w, c0 q l, tkb_cg s1_w (fun _ _ => rfl) q i, ← t6 q i]
    show h 194 (429 * (3 + n) + q) = h2 194 (0 + q)
    rw [Nat.zero_add, f3_w q (by omega), r0]
  · obtain ⟨w, w1_w, w2_w, w3_w, w4_w⟩ := s2_w
    refine ⟨w, w1_w, (gg 70 11 (by decide) (by decide) (by decide) (by decide) (by decide) (by omega) (by omega)).trans w2_w, (r1_w _ (by omega)).trans w3_w, fun i z => ?_⟩
    rw [gg (70 + 16) _ (by decide) (by decide) (by decide) (by decide) (by decide) (by omega) (by omega), gg (70 + 18) _ (by decide) (by decide) (by decide) (by decide) (by decide) (by omega) (by omega), gg (70 + 20) _ (by decide) (by decide) (by decide) (by decide) (by decide) (by omega) (by omega), r1_w _ (by omega), r1_w _ (by omega), r1_w _ (by omega)]
    exact w4_w i z
end SMR
