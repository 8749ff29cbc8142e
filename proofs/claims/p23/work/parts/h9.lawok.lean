/-! ===== a law_w that is_w told_w makes one number_w, in both_w ===== -/
def lawL (D : DD) : List Int := D.2.2.2.2.2.getD [2]
section LWO
variable {D : DD} {h : XH} {l : List Int} {t u : Nat}
theorem htO_nz : ∀ (l : List Int) (t u : Nat), htO t l = some u → ∀ (k : Nat) (v : Int), l[k]? = some v → v ≠ 0
  | [], _, _, _, k, v, e => by cases e
  | x :: l, t, u, e, k, v, ev_w => by
    have hx : x ≠ 0 := fun z => by
      subst z
      unfold htO at e
      rw [if_neg (by decide), if_neg (by decide), if_neg (by decide), if_neg (by decide)] at e
      cases e
    have ht : ∃ t', htO t' l = some u := by
      unfold htO at e
      split at e
      · split at e
        · exact ⟨_, e⟩
        · cases e
      · split at e
        · split at e
          · exact ⟨_, e⟩
          · cases e
        · split at e
          · split at e
            · exact ⟨_, e⟩
            · cases e
          · split at e
            · split at e
              · exact ⟨_, e⟩
              · cases e
            · cases e
    cases k with
    | zero =>
      cases ev_w
      exact hx
    | succ k =>
      obtain ⟨t', e'⟩ := ht
      exact htO_nz l t' u e' k v ev_w
theorem gd_nz {x : Int} (g : gdX x) : x ≠ 0 := fun z => by
  unfold gdX at g
  omega
theorem law_of (lq : LQ h) (rf : RF D h) (w : WFD D) (e : D.2.2.2.2.2 = some l) : LWK l ∧ h 188 4 = 0 ∧ ∀ k v, (l ++ [0])[k]? = some v → h 189 k = v := by
  obtain ⟨-, h0, rd, r8, r9, -⟩ := rf
  have lw := rd.2.2.2.2.2.2
  rw [e] at lw
  obtain ⟨l1, l2, l3, l4⟩ := lw
  have e4_w : h 188 4 = 0 := (r8 4 (by decide)).trans l1
  have ec : ∀ k v, (l ++ [0])[k]? = some v → h 189 k = v := fun k v z => by
    have hk := (List.getElem?_eq_some_iff.mp z).1
    rw [List.length_append] at hk
    have hk2 : k < l.length + 1 := hk
    rw [r9 k (by omega)]
    exact l4 k v z
  have en : h 189 l.length = 0 := ec l.length 0 (by rw [List.getElem?_append_right (Nat.le_refl _), Nat.sub_self]; rfl)
  have ei : ∀ k v, l[k]? = some v → h 189 k = v := fun k v z => ec k v (by
    rw [List.getElem?_append_left (List.getElem?_eq_some_iff.mp z).1]
    exact z)
  have gl := w.2.2.2 l e
  obtain ⟨P, hQ, -⟩ := lq
  have co := hQ.2.2.2.2.1 (by rw [e4_w]; decide)
  rw [e4_w] at co
  obtain ⟨l', sg, z0, zl, ht⟩ := co
  have sg : ∀ k : Nat, k < l'.length → h 189 k = l'.getD k 0 := fun k z => by
    have := sg k z
    rw [show (0 : Int).toNat + k = k from Nat.zero_add k] at this
    exact this
  have z0 : h 189 l'.length = 0 := by
    rw [show (0 : Int).toNat + l'.length = l'.length from Nat.zero_add _] at z0
    exact z0
  have eq : l' = l := by
    have hl : l'.length = l.length := by
      rcases Nat.lt_trichotomy l'.length l.length with z | z | z
      · have a := ei l'.length _ (List.getElem?_eq_getElem z)
        exact absurd (a.symm.trans z0) (gd_nz (gl _ (List.getElem_mem z)))
      · exact z
      · have a := sg l.length z
        have b := htO_nz l' 0 1 ht l.length _ (List.getElem?_eq_getElem z)
        rw [List.getD_eq_getElem?_getD, List.getElem?_eq_getElem z] at a
        exact absurd (a.symm.trans en) b
    refine List.ext_getElem hl (fun k z1 z2 => ?_)
    have a := sg k z1
    rw [List.getD_eq_getElem?_getD, List.getElem?_eq_getElem z1] at a
    exact a.symm.trans (ei k _ (List.getElem?_eq_getElem z2))
  rw [eq] at ht
  exact ⟨⟨gl, ht, by omega⟩, e4_w, ec⟩
theorem lwk_of (lq : LQ h) (rf : RF D h) (w : WFD D) : LWK (lawL D) := by
  unfold lawL
  cases e : D.2.2.2.2.2 with
  | none => exact ⟨fun x z => by rw [List.mem_singleton.mp z]; exact Or.inr (Or.inl rfl), rfl, by decide⟩
  | some l => exact (law_of lq rf w e).1
theorem nolaw_of (rf : RF D h) (e : D.2.2.2.2.2 = none) : h 188 4 = -1 := by
  obtain ⟨-, h0, rd, r8, -⟩ := rf
  have lw := rd.2.2.2.2.2.2
  rw [e] at lw
  exact (r8 4 (by decide)).trans lw.1
end LWO
