/-! ===== runs ===== -/
def a_en0 : List AV := [.inl 0, .inl 0, .inl 0, .inl 0, .inl 0, .inl 0, .inl 0]
def a_law (cx : AC) (L K n : Nat) : AX (Nat × List AV × List AV × AS) := abS cx (abF cx L g_ck K g_cW g_M n) L g_ck K g_cW bb_332 a_en0 (([], 0, 0), [])
def a_end (r : Nat × List AV × List AV × AS) : Bool := decide (r.1 = 1) && decide (r.2.1 = [.inl 1]) && decide (r.2.2.2.1.2.1 ≤ 600002) && decide (r.2.2.2.1.2.2 ≤ 7302232)
def a_drv (L K n : Nat) (sel : Int) : Nat → List (Int × Int) → Bool
  | 0, _ => false
  | k + 1, c => match a_law (c, sel) L K n with
    | .ok r => a_end r
    | .error none => false
    | .error (some (i, q)) => match c[i]? with
      | none => false
      | some (lo, hi) => a_drv L K n sel k (c.set i (lo, q - 1)) && a_drv L K n sel k (c.set i (q, hi))
theorem sat_low {xs : Nat → Int} {c : List (Int × Int)} {sel : Int} {i : Nat} {lo hi q : Int} (hs : SatA xs (c, sel)) (hc : c[i]? = some (lo, hi)) (h : xs i < q) : SatA xs (c.set i (lo, q - 1), sel) := by
  refine ⟨fun j l h' hj => ?_, hs.2⟩
  dsimp only at hj
  rw [List.getElem?_set] at hj
  by_cases e : i = j
  · subst e
    rw [if_pos rfl] at hj
    split at hj
    · cases hj
      have := hs.1 i lo hi hc
      omega
    · cases hj
  · rw [if_neg e] at hj
    exact hs.1 j l h' hj
theorem sat_high {xs : Nat → Int} {c : List (Int × Int)} {sel : Int} {i : Nat} {lo hi q : Int} (hs : SatA xs (c, sel)) (hc : c[i]? = some (lo, hi)) (h : q ≤ xs i) : SatA xs (c.set i (q, hi), sel) := by
  refine ⟨fun j l h' hj => ?_, hs.2⟩
  dsimp only at hj
  rw [List.getElem?_set] at hj
  by_cases e : i = j
  · subst e
    rw [if_pos rfl] at hj
    split at hj
    · cases hj
      have := hs.1 i lo hi hc
      omega
    · cases hj
  · rw [if_neg e] at hj
    exact hs.1 j l h' hj
/-- the law's tree ends with 1 within the claim's room -/
def EndsA (xs : Nat → Int) (L K n : Nat) : Prop := ∃ (en' : List Int) (st' : XT), ev_law xs L K n = some (1, [1], en', st') ∧ st'.1.2.1 ≤ 600002 ∧ st'.1.2.2 ≤ 7302232
theorem a_end_ok {xs : Nat → Int} {cx : AC} {L K n : Nat} (hs : SatA xs cx) {r : Nat × List AV × List AV × AS} (h1 : a_law cx L K n = .ok r) (h2 : a_end r = true) : EndsA xs L K n := by
  simp only [a_end, Bool.and_eq_true, decide_eq_true_eq] at h2
  obtain ⟨⟨⟨e1, e2⟩, e3⟩, e4⟩ := h2
  have e := ss_all (L := L) (ck := g_ck) (K := K) (cW := g_cW) hs (sf_all hs n) bb_332 _ _ _ h1
  rw [e1, e2] at e
  refine ⟨_, _, ?_, e3, e4⟩
  unfold ev_law
  exact e
theorem a_drv_ok {xs : Nat → Int} {L K n : Nat} {sel : Int} : ∀ (k : Nat) (c : List (Int × Int)), a_drv L K n sel k c = true → SatA xs (c, sel) → EndsA xs L K n
  | 0, _, h, _ => by cases h
  | k + 1, c, h, hs => by
    unfold a_drv at h
    split at h
    · rename_i r hr
      exact a_end_ok hs hr h
    · cases h
    · rename_i i q hr
      split at h
      · cases h
      · rename_i lo hi hc
        rw [Bool.and_eq_true] at h
        by_cases hx : xs i < q
        · exact a_drv_ok k _ h.1 (sat_low hs hc hx)
        · exact a_drv_ok k _ h.2 (sat_high hs hc (by omega))
theorem test_0 : a_drv 0 2000 40 0 1 [] = true := by decide +kernel
