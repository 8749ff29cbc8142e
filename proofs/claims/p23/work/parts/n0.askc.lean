/-! ===== questions of a settlement, compared ===== -/
theorem RSET.fr {D : DD} {h h1 : XH} (r : RSET D h) (z : ∀ o k : Nat, 188 ≤ o → o ≤ 194 → h1 o k = h o k) : RSET D h1 := by
  have e : bl 0 h1 = bl 0 h := funext fun q => z 194 _ (by decide) (by decide)
  refine ⟨r.1, r.2.1.fr3 (fun o k a => z o k (by omega) (by omega)), r.2.2.1.fr (fun o k a => z o k (by omega) (by omega)), ?_⟩
  rw [e]
  exact r.2.2.2
