/-! ===== the reference's parser: what was fed is_w cut_w ===== -/
def VN (m : Nat) (h : XH) : Prop := ∀ i : Nat, i < m → h 184 i = 2 → 0 ≤ h 186 i ∧ h 186 i ≤ 9999
def B190 (P : Int × Int) (h : XH) (r : List Int) (h' : XH) : Prop := r = [] ∧ ∃ N, PK P N h' ∧ h' 182 7 = 0 ∧ ∀ o k : Nat, (o = 182 → k ≠ 2 ∧ k ≠ 3 ∧ k ≠ 7 ∧ k ≠ 8) → (o ≠ 184 ∧ o ≠ 185 ∧ o ≠ 186) → h' o k = h o k
section PARN
variable {P : Int × Int} {N : Nat} {g : Nat × Nat} {xs : Nat → Int} {L K n : Nat} {ck : Nat → List Nat} {cW : Nat → Nat → Int} {h : XH}
/-- a cell_w of what was cut_w -/
theorem tw_QK (hQ : QK P (r_T 0) (RJ P) h) {q i : Nat} {v : Int} (hH : HT g_fk a_g3 (j_up h q i v)) (h0 : q = 184 ∨ q = 185 ∨ q = 186) (hv : ∀ r ∈ (r_A q).2.2, r.1 ≤ i → i < r.2.1 → IV P r.2.2 v) : QK P (r_T 0) (RJ P) (j_up h q i v) := by
  have o : ∀ p : Nat, p ≠ 184 → p ≠ 185 → p ≠ 186 → j_up h q i v p = h p := fun p z1 z2 z3 => funext fun k => up_ne (fun z => by omega)
  refine ⟨hH, fun k => ?_, fun q' hq' => ?_, ?_⟩
  · rw [o 182 (by decide) (by decide) (by decide)]
    exact hQ.2.1 k
  · by_cases e : q' = q
    · subst e
      intro r hr a b k1_w k2_w k3_w
      have eb : (qA (r_T 0) q').2.1 = 0 := by
        rcases h0 with rfl | rfl | rfl <;> rfl
      have old_w := hQ.2.2.1 q' hq' r hr a b k1_w k2_w k3_w
      rw [eb, Nat.zero_mul, Nat.zero_add] at old_w ⊢
      by_cases e2_w : a = i
      · subst e2_w
        rw [up_eq]
        exact hv r hr k1_w k2_w
      · rw [up_ne (fun z => e2_w z.2)]
        exact old_w
    · have e2_w : j_up h q i v q' = h q' := funext fun i => up_ne (fun z => e z.1)
      rw [e2_w]
      exact hQ.2.2.1 q' hq'
  · unfold RJ
    rw [o 188 (by decide) (by decide) (by decide), o 189 (by decide) (by decide) (by decide), o 191 (by decide) (by decide) (by decide)]
    exact hQ.2.2.2
theorem tw_4 (hQ : QK P (r_T 0) (RJ P) h) {i : Nat} {v : Int} (h0 : 0 ≤ v) (h4 : v ≤ 4) : QK P (r_T 0) (RJ P) (j_up h 184 i v) := by
  have hin : InI v := ⟨by omega, by omega⟩
  exact tw_QK hQ (ht_up hQ.1 (by decide) hin) (Or.inl rfl) (fun r hr _ _ => by
    have hr2 : r ∈ [(0, 1002, ((1, 0, 4) : IT))] := hr
    rw [List.mem_singleton] at hr2
    subst hr2
    exact ⟨h0, h4, hin⟩)
theorem tw_5 (hQ : QK P (r_T 0) (RJ P) h) {i : Nat} {v : Int} (h0 : 0 ≤ v) (h4 : v ≤ 1000) : QK P (r_T 0) (RJ P) (j_up h 185 i v) := by
  have hin : InI v := ⟨by omega, by omega⟩
  exact tw_QK hQ (ht_up hQ.1 (by decide) hin) (Or.inr (Or.inl rfl)) (fun r hr _ _ => by
    have hr2 : r ∈ [(0, 1002, ((1, 0, 1000) : IT))] := hr
    rw [List.mem_singleton] at hr2
    subst hr2
    exact ⟨h0, h4, hin⟩)
theorem tw_6 (hQ : QK P (r_T 0) (RJ P) h) {i : Nat} {v : Int} (hin : InL v) : QK P (r_T 0) (RJ P) (j_up h 186 i v) :=
  tw_QK hQ (ht_upL hQ.1 (by decide) hin) (Or.inr (Or.inr rfl)) (fun r hr _ _ => by
    have hr2 : r ∈ [(0, 1002, ((2, (-9223372036854775808), 9223372036854775807) : IT))] := hr
    rw [List.mem_singleton] at hr2
    subst hr2
    exact IV.topL hin)
end PARN
