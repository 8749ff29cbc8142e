/-! ===== loops by an invariant; the class's leaves by hand ===== -/
/-- a loop: from each state of the invariant it ends, or goes on to one with a smaller measure -/
theorem lp_gen {g : XS × Nat × Nat} {C' : XE} {B' P' : XR} {Inv Done : List Int → XH → Prop} {Ret : List Int → XH → Prop} {mea : List Int → XH → Nat}
    (hs : ∀ en h, Inv en h → (∃ h', C' en (g, h) = some ([0], (g, h')) ∧ Done en h') ∨ ∃ v h1, v ≠ 0 ∧ C' en (g, h) = some ([v], (g, h1)) ∧ ∃ c vals en1 h2, B' en (g, h1) = some (c, vals, en1, (g, h2)) ∧
      (((c = 0 ∨ c = 3) ∧ ∃ en2 h3, P' en1 (g, h2) = some (0, [], en2, (g, h3)) ∧ Inv en2 h3 ∧ mea en2 h3 < mea en h) ∨ (c = 2 ∧ Done en1 h2) ∨ (c = 1 ∧ Ret vals h2))) :
    ∀ (k m : Nat) (en : List Int) (h : XH), Inv en h → mea en h ≤ m → m < k → (∃ en' h', s_loop C' B' P' k en (g, h) = some (0, [], en', (g, h')) ∧ Done en' h') ∨ ∃ vals en' h', s_loop C' B' P' k en (g, h) = some (1, vals, en', (g, h')) ∧ Ret vals h' := by
  intro k
  induction k with
  | zero => exact fun m en h _ _ hk => absurd hk (by omega)
  | succ k ih =>
    intro m en h hI hm hk
    rcases hs en h hI with ⟨h', e1, e2⟩ | ⟨v, h1, hv, e1, c, vals, en1, h2, f1, f2⟩
    · refine Or.inl ⟨en, h', ?_, e2⟩
      unfold s_loop
      rw [e1, Option.bind_some]
      exact if_pos rfl
    · have hl : s_loop C' B' P' (k + 1) en (g, h) = (if c = 0 ∨ c = 3 then (P' en1 (g, h2)).bind fun q => if q.1 = 0 then s_loop C' B' P' k q.2.2.1 q.2.2.2 else none else if c = 2 then some (0, [], en1, (g, h2)) else some (c, vals, en1, (g, h2))) := by
        conv => lhs; unfold s_loop
        rw [e1, Option.bind_some]
        refine (if_neg hv).trans ?_
        dsimp only
        rw [f1, Option.bind_some]
      rcases f2 with ⟨hc, en2, h3, p1, p2, p3⟩ | ⟨rfl, p⟩ | ⟨rfl, p⟩
      · have ih2 := ih (m - 1) en2 h3 p2 (by omega) (by omega)
        rw [hl, if_pos hc, p1, Option.bind_some]
        exact ih2
      · exact Or.inl ⟨en1, h2, by rw [hl]; rfl, p⟩
      · exact Or.inr ⟨vals, en1, h2, by rw [hl]; rfl, p⟩
section HAND
variable {xs : Nat → Int} {L K c d n : Nat} {h : XH}
/-- an object's row of numbers -/
theorem ref_at {ci k kd : Nat} {r : Int} {z : Nat → Int} (hr : TV z a_g3 (10 + ci) r) (hci : ci < 90) (hk : (g_fk ci)[k]? = some kd) (h6 : 6 ≤ kd) (h7 : kd < 100) : ∃ q : Int, j_rf a_g3 r.toNat k = some q ∧ 0 ≤ q ∧ ∃ c : XC, a_g3[q.toNat]? = some c ∧ c.1 = kd := by
  obtain ⟨r0, c, hc, e⟩ := hr.2.2.2.2.1 (by omega) (by omega)
  exact g_GG.2 _ c ci k kd hc e hk h6 h7
theorem len_at {q : Int} {c : XC} (hc : a_g3[q.toNat]? = some c) : j_len a_g3 q.toNat = (c.2.1 : Int) ∧ (c.2.1 : Int) < 2147483648 := by
  refine ⟨?_, ?_⟩
  · unfold j_len
    rw [hc]
  · have := (g_GG.1 _ c hc).2
    omega
/-- arrays of the class -/
theorem own_arr : (List.range a_g3.length).all (fun o => match a_g3[o]? with
  | some c => decide (c.1 < 10 ∨ 20 ≤ c.1) || (List.range c.2.2.length).all (fun k => match j_rf a_g3 o k with
    | some q => Nat.blt q.toNat 182
    | none => true)
  | none => true) = true := by decide +kernel
theorem own_at {o k : Nat} {c : XC} {q : Int} (hc : a_g3[o]? = some c) (h1 : 10 ≤ c.1) (h2 : c.1 < 20) (hq : j_rf a_g3 o k = some q) : q.toNat < 182 := by
  have h := List.all_eq_true.mp own_arr o (List.mem_range.mpr (List.getElem?_eq_some_iff.mp hc).1)
  rw [hc] at h
  simp only [Bool.or_eq_true, decide_eq_true_eq] at h
  have h3 := h.resolve_left (by omega)
  have hk : k < c.2.2.length := by
    obtain ⟨kd, l, sl⟩ := c
    unfold j_rf at hq
    rw [hc] at hq
    dsimp only at hq ⊢
    cases hs : sl[k]? with
    | none => rw [hs] at hq; cases hq
    | some z => exact (List.getElem?_eq_some_iff.mp hs).1
  have h4 := List.all_eq_true.mp h3 k (List.mem_range.mpr hk)
  rw [hq] at h4
  simpa [Nat.blt_eq] using h4
/-- an array of ints that an object of the class has may be written -/
theorem ro_arr {o k kd : Nat} {c c' : XC} {q : Int} (hc : a_g3[o]? = some c) (h1 : 10 ≤ c.1) (h2 : c.1 < 20) (hq : j_rf a_g3 o k = some q) (hc' : a_g3[q.toNat]? = some c') (he : c'.1 = kd) (hk : kd < 8) : ∀ j, g_ro q.toNat j = false := by
  intro j
  have h3 := own_at hc h1 h2 hq
  cases hr : g_ro q.toNat j with
  | false => rfl
  | true =>
    exfalso
    simp only [g_ro, Bool.or_eq_true, Bool.and_eq_true, Nat.beq_eq, Nat.ble_eq] at hr
    rcases hr with (⟨h4, -⟩ | h4) | h4
    · have h5 := g_wk2
      rw [← h4, hc'] at h5
      have h6 : c'.1 = 19 := Option.some.inj h5
      omega
    · omega
    · have h5 := g_wk3
      rw [← h4, hc'] at h5
      have h6 : c'.1 = 8 := Option.some.inj h5
      omega
theorem ty_arr {q : Nat} {c : XC} (hc : a_g3[q]? = some c) : ∀ k, (c.1 = 6 → c_ty g_fk a_g3 q k = 1) ∧ (c.1 = 7 → c_ty g_fk a_g3 q k = 2) ∧ (c.1 = 8 → c_ty g_fk a_g3 q k = 1) := by
  intro k
  obtain ⟨kd, l, sl⟩ := c
  unfold c_ty
  rw [hc]
  refine ⟨fun e => ?_, fun e => ?_, fun e => ?_⟩ <;> (dsimp only at e; subst e; rfl)
end HAND
