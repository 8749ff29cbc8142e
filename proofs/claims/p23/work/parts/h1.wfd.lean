/-! ===== what a told_w grid is_w (pure) ===== -/
theorem eB_ok2 {α β : Type} {x : XZ α} {f : α → XZ β} {b : β} (e : eB x f = .ok b) : ∃ a, x = .ok a ∧ f a = .ok b := eB_ok e
section WFS
variable {S P V W : Nat → Int} {D : DD} {i : Nat}
theorem sNum_b {lo_w hi_w : Int} {a : Int × Nat} (e : sNum S P V lo_w hi_w i = .ok a) : lo_w ≤ a.1 ∧ a.1 ≤ hi_w := by
  unfold sNum at e
  split at e
  · cases e
  · split at e
    · cases e
    · rename_i z
      cases e
      show lo_w ≤ V i ∧ V i ≤ hi_w
      omega
theorem sTold_b {l : List Int} {a : Int × Nat} (e : sTold S P V W l i = .ok a) : 0 ≤ a.1 ∧ a.1 < (l.length : Int) := by
  unfold sTold at e
  split at e
  · cases e
  · split at e
    · cases e
    · rename_i z
      cases e
      show 0 ≤ nmAt l (V i) ∧ nmAt l (V i) < (l.length : Int)
      have h1 : nmAt l (V i) < (l.length : Int) := lst_lt l.length
      omega
theorem sOne_b {a n : Nat} {x : Int × Nat} (e : sOne S P V W a n i = .ok x) : 0 ≤ x.1 ∧ x.1 < (n : Int) := by
  unfold sOne at e
  split at e
  · cases e
  · rename_i z
    cases e
    show 0 ≤ wHere S V W a n i ∧ wHere S V W a n i < (n : Int)
    have h1 : wHere S V W a n i < (n : Int) := lst_lt n
    omega
theorem wH_lt {a n : Nat} : wHere S V W a n i < (n : Int) := lst_lt n
theorem sRow_b {hi_w : Int} : ∀ (k : Nat) (l : List Int) (i : Nat) (r : List Int × Nat), sRow S P V hi_w k l i = .ok r → (∀ v ∈ l, 0 ≤ v ∧ v ≤ hi_w) → l.length ≤ 12 → (∀ v ∈ r.1, 0 ≤ v ∧ v ≤ hi_w) ∧ r.1.length ≤ 12 ∧ (l ≠ [] ∨ 0 < k → 1 ≤ r.1.length)
  | 0, l, i, r, e, h1, h2 => by
    unfold sRow at e
    cases e
    refine ⟨h1, h2, fun y => ?_⟩
    rcases y with y | y
    · exact List.length_pos_iff.mpr y
    · exact absurd y (Nat.lt_irrefl 0)
  | k + 1, l, i, r, e, h1, h2 => by
    unfold sRow at e
    split at e
    · split at e
      · cases e
      · rename_i y
        cases e
        exact ⟨h1, h2, fun _ => List.length_pos_iff.mpr y⟩
    · split at e
      · cases e
      · rename_i y
        split at e
        · cases e
        · rename_i z
          have hl : (l ++ [V i]).length = l.length + 1 := by rw [List.length_append]; rfl
          obtain ⟨a, b, c⟩ := sRow_b k (l ++ [V i]) (i + 1) r e (fun v hv => by
            rcases List.mem_append.mp hv with hv | hv
            · exact h1 v hv
            · rw [List.mem_singleton.mp hv]
              omega) (by omega)
          exact ⟨a, b, fun _ => c (Or.inl (fun w => by rw [w] at hl; exact absurd hl (by simp)))⟩
/-- a law's codes_w -/
def pG (x : XZ (List Int × Nat)) : Prop := ∀ r, x = .ok r → ∀ v ∈ r.1, gdX v
theorem pG_er {e : Int} : pG (.error e) := fun r h => by cases h
theorem app_g {l l' : List Int} (a : ∀ v ∈ l, gdX v) (b : ∀ v ∈ l', gdX v) : ∀ v ∈ l ++ l', gdX v := fun v h => (List.mem_append.mp h).elim (a v) (b v)
theorem one_g {o : Int} (a : gdX o) : ∀ v ∈ [o], gdX v := fun v h => by
  rw [List.mem_singleton.mp h]
  exact a
theorem sLoop_g {sub : Nat → XZ (List Int × Nat)} {op_w : Nat → Option Int} (hs : ∀ i, pG (sub i)) (ho : ∀ i o, op_w i = some o → gdX o) : ∀ (k : Nat) (c : List Int) (i : Nat), (∀ v ∈ c, gdX v) → pG (sLoop sub op_w k c i)
  | 0, c, i, hc_w => fun r e => by
    unfold sLoop at e
    cases e
    exact hc_w
  | k + 1, c, i, hc_w => fun r e => by
    unfold sLoop at e
    split at e
    · cases e
      exact hc_w
    · rename_i o eo
      obtain ⟨q, e1_w, e2_w⟩ := eB_ok2 e
      exact sLoop_g hs ho k _ _ (app_g hc_w (app_g (hs _ q e1_w) (one_g (ho _ _ eo)))) r e2_w
theorem opT_g : ∀ i o, opT S V i = some o → gdX o := fun i o e => by
  unfold opT at e
  split at e
  · cases e
    exact Or.inr (Or.inr (Or.inr (Or.inr (Or.inr ⟨by decide, by decide⟩))))
  · cases e
theorem opA_g : ∀ i o, opA S V i = some o → gdX o := fun i o e => by
  unfold opA at e
  split at e
  · cases e
    exact Or.inr (Or.inr (Or.inr (Or.inr (Or.inr ⟨by decide, by decide⟩))))
  · split at e
    · cases e
      exact Or.inr (Or.inr (Or.inr (Or.inr (Or.inr ⟨by decide, by decide⟩))))
    · cases e
theorem opC_g : ∀ i o, opC S V i = some o → gdX o := fun i o e => by
  unfold opC at e
  split at e
  · cases e
    exact Or.inr (Or.inr (Or.inr (Or.inr (Or.inr ⟨by decide, by decide⟩))))
  · split at e
    · cases e
      exact Or.inr (Or.inr (Or.inr (Or.inr (Or.inr ⟨by decide, by decide⟩))))
    · cases e
theorem opL_g : ∀ i o, opL S V W i = some o → gdX o := fun i o e => by
  unfold opL at e
  split at e
  · cases e
    exact Or.inr (Or.inr (Or.inr (Or.inr (Or.inr ⟨by decide, by decide⟩))))
  · split at e
    · cases e
      exact Or.inr (Or.inr (Or.inr (Or.inr (Or.inr ⟨by decide, by decide⟩))))
    · cases e
theorem sProd_g {part : Nat → XZ (List Int × Nat)} (hp : ∀ i, pG (part i)) : ∀ i, pG (sProd S V part i) := fun i r e => by
  obtain ⟨q, e1_w, e2_w⟩ := eB_ok2 e
  exact sLoop_g hp opT_g _ _ _ (hp _ q e1_w) r e2_w
theorem sSums_g {part : Nat → XZ (List Int × Nat)} (hp : ∀ i, pG (part i)) : ∀ i, pG (sSums S V part i) := fun i r e => by
  obtain ⟨q, e1_w, e2_w⟩ := eB_ok2 e
  exact sLoop_g (sProd_g hp) opA_g _ _ _ (sProd_g hp _ q e1_w) r e2_w
theorem sTest_g {part : Nat → XZ (List Int × Nat)} (hp : ∀ i, pG (part i)) : ∀ i, pG (sTest S V part i) := fun i r e => by
  obtain ⟨q, e1_w, e2_w⟩ := eB_ok2 e
  have h1 := sSums_g (S := S) (V := V) hp _ q e1_w
  split at e2_w
  · cases e2_w
    exact h1
  · rename_i o eo
    obtain ⟨q2_w, e3_w, e4_w⟩ := eB_ok2 e2_w
    cases e4_w
    exact app_g h1 (app_g (sSums_g (S := S) (V := V) hp _ q2_w e3_w) (one_g (opC_g _ _ eo)))
theorem sAll_g {part : Nat → XZ (List Int × Nat)} (hp : ∀ i, pG (part i)) : ∀ i, pG (sAll S V W part i) := fun i r e => by
  obtain ⟨q, e1_w, e2_w⟩ := eB_ok2 e
  exact sLoop_g (sTest_g hp) opL_g _ _ _ (sTest_g hp _ q e1_w) r e2_w
theorem sPart_g {allN partN : Nat → XZ (List Int × Nat)} (ha_w : ∀ i, pG (allN i)) (hp : ∀ i, pG (partN i)) : ∀ i, pG (sPart S P V W allN partN i) := fun i r e => by
  unfold sPart at e
  split at e
  · cases e
  · rename_i y
    split at e
    · obtain ⟨q, e1_w, e2_w⟩ := eB_ok2 e
      cases e2_w
      exact app_g (hp _ q e1_w) (one_g (Or.inr (Or.inr (Or.inr (Or.inr (Or.inr ⟨by decide, by decide⟩))))))
    · rename_i y1
      split at e
      · obtain ⟨q, e1_w, e2_w⟩ := eB_ok2 e
        obtain ⟨j, e3_w, e4_w⟩ := eB_ok2 e2_w
        cases e4_w
        exact ha_w _ q e1_w
      · rename_i y2
        cases e
        refine one_g ?_
        split
        · refine Or.inl ?_
          omega
        · rename_i y3
          have f4_w : fct S V W i < ((4 : Nat) : Int) := wH_lt (a := 20) (n := 4)
          have f0_w : 0 ≤ fct S V W i := by
            rcases Classical.not_not.mp y with z | z | z | z
            · exact absurd z y3
            · exact z
            · exact absurd z y2
            · exact absurd z y1
          unfold gdX
          omega
theorem sPart0_g : ∀ i, pG (sPart0 S P V W i) := fun i => by
  unfold sPart0
  split
  · exact pG_er
  · exact pG_er
theorem sD_g : ∀ k, (∀ i, pG ((sD S P V W k).1 i)) ∧ ∀ i, pG ((sD S P V W k).2 i)
  | 0 => ⟨sAll_g sPart0_g, sPart0_g⟩
  | k + 1 => by
    obtain ⟨a, b⟩ := sD_g k
    exact ⟨sAll_g (sPart_g a b), sPart_g a b⟩
theorem wfd_0 : WFD DD0 := ⟨⟨by decide, by decide, by decide, by decide, by decide⟩, fun x h => (by cases h), fun x h => (by cases h), fun l h => (by cases h)⟩
theorem sLine_w {r : DD × Nat} (w : WFD D) (e : sLine S P V W D i = .ok r) : WFD r.1 := by
  obtain ⟨⟨w1_w, w2_w, w3_w, w4_w, w5⟩, wc, wm, wl⟩ := w
  unfold sLine at e
  split at e
  · unfold sClass at e
    split at e
    · cases e
    · rename_i y
      obtain ⟨a, -, e⟩ := eB_ok2 e
      obtain ⟨j, -, e⟩ := eB_ok2 e
      obtain ⟨b, eb, e⟩ := eB_ok2 e
      obtain ⟨j2_w, -, e⟩ := eB_ok2 e
      obtain ⟨q, eq, e⟩ := eB_ok2 e
      cases e
      obtain ⟨b0, b1⟩ := sNum_b eb
      obtain ⟨q0, q1_w, q2_w⟩ := sRow_b _ _ _ _ eq (fun v h => (by cases h)) (Nat.zero_le _)
      have hl : (D.2.2.1 ++ [(a.1, b.1, q.1)]).length = D.2.2.1.length + 1 := by rw [List.length_append]; rfl
      refine ⟨⟨w1_w, w2_w, by show (D.2.2.1 ++ [(a.1, b.1, q.1)]).length ≤ 4; omega, w4_w, w5⟩, fun x h => ?_, fun x h => ?_, wl⟩
      · rcases List.mem_append.mp h with h | h
        · exact wc x h
        · rw [List.mem_singleton.mp h]
          exact ⟨b0, b1, q2_w (Or.inr (by decide)), q1_w, q0⟩
      · obtain ⟨z1, z2, z3⟩ := wm x h
        refine ⟨⟨z1.1, ?_⟩, z2, z3⟩
        show x.2.2.1 < ((D.2.2.1 ++ [(a.1, b.1, q.1)]).length : Int)
        have := z1.2
        omega
  · split at e
    · unfold sSup at e
      split at e
      · cases e
      · rename_i y
        obtain ⟨a, -, e⟩ := eB_ok2 e
        cases e
        have hl : (D.2.2.2.1 ++ [a.1]).length = D.2.2.2.1.length + 1 := by rw [List.length_append]; rfl
        refine ⟨⟨w1_w, w2_w, w3_w, by show (D.2.2.2.1 ++ [a.1]).length ≤ 4; omega, w5⟩, wc, fun x h => ?_, wl⟩
        obtain ⟨z1, z2, z3⟩ := wm x h
        refine ⟨z1, ⟨z2.1, ?_⟩, z3⟩
        show x.2.2.2 < ((D.2.2.2.1 ++ [a.1]).length : Int)
        have := z2.2
        omega
    · split at e
      · unfold sMeter at e
        split at e
        · cases e
        · rename_i y
          obtain ⟨a, -, e⟩ := eB_ok2 e
          obtain ⟨k, ek, e⟩ := eB_ok2 e
          obtain ⟨j, -, e⟩ := eB_ok2 e
          obtain ⟨c, ec, e⟩ := eB_ok2 e
          obtain ⟨j2_w, -, e⟩ := eB_ok2 e
          obtain ⟨s, es, e⟩ := eB_ok2 e
          cases e
          obtain ⟨k0_w, k1_w⟩ := sOne_b ek
          obtain ⟨c0, c1_w⟩ := sTold_b ec
          obtain ⟨s0, s1_w⟩ := sTold_b es
          rw [List.length_map] at c1_w
          have hl : (D.2.2.2.2.1 ++ [(a.1, k.1, c.1, s.1)]).length = D.2.2.2.2.1.length + 1 := by rw [List.length_append]; rfl
          refine ⟨⟨w1_w, w2_w, w3_w, w4_w, by show (D.2.2.2.2.1 ++ [(a.1, k.1, c.1, s.1)]).length ≤ 6; omega⟩, wc, fun x h => ?_, wl⟩
          rcases List.mem_append.mp h with h | h
          · exact wm x h
          · rw [List.mem_singleton.mp h]
            exact ⟨⟨c0, c1_w⟩, ⟨s0, s1_w⟩, k0_w, by show k.1 ≤ 3; omega⟩
      · split at e
        · unfold sSlots at e
          split at e
          · cases e
          · obtain ⟨a, ea, e⟩ := eB_ok2 e
            cases e
            obtain ⟨a0_w, a1_w⟩ := sNum_b ea
            exact ⟨⟨by show 0 ≤ a.1; omega, a1_w, w3_w, w4_w, w5⟩, wc, wm, wl⟩
        · split at e
          · unfold sFeed at e
            split at e
            · cases e
            · obtain ⟨q, -, e⟩ := eB_ok2 e
              cases e
              exact ⟨⟨w1_w, w2_w, w3_w, w4_w, w5⟩, wc, wm, wl⟩
          · split at e
            · unfold sLaw at e
              split at e
              · cases e
              · obtain ⟨q, eq, e⟩ := eB_ok2 e
                cases e
                exact ⟨⟨w1_w, w2_w, w3_w, w4_w, w5⟩, wc, wm, fun l h => by
                  cases h
                  exact (sD_g 5).1 _ q eq⟩
            · cases e
theorem sGrid_w : ∀ (n : Nat) (D : DD) (i : Nat) (D' : DD), WFD D → sGrid S P V W n D i = .ok D' → WFD D'
  | 0, D, i, D', w, e => by
    unfold sGrid at e
    cases e
    exact w
  | n + 1, D, i, D', w, e => by
    unfold sGrid at e
    split at e
    · cases e
      exact w
    · obtain ⟨q, e1_w, e2_w⟩ := eB_ok2 e
      obtain ⟨j, -, e3_w⟩ := eB_ok2 e2_w
      exact sGrid_w n q.1 j D' (sLine_w w e1_w) e3_w
end WFS
theorem RF.w {D : DD} {h : XH} (r : RF D h) : WFD D := by
  rcases r.1 with e | ⟨S, P, V, W, n, i, e⟩
  · rw [e]
    exact wfd_0
  · exact sGrid_w n DD0 i D wfd_0 e
