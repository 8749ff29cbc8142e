/-! ===== runs of what is left of the law, cut where a branch asks for it ===== -/
def a_rest (cx : AC) (L : Nat) : AX (Nat × List AV × List AV × AS) := abS cx (abF cx L g_ck 2000 g_cW g_M 40) L g_ck 2000 g_cW lawR a_en3 a_s3
def a_end (r : Nat × List AV × List AV × AS) : Bool := decide (r.1 = 1) && decide (r.2.1 = [.inl 1]) && decide (r.2.2.2.1.2.1 ≤ 600002) && decide (r.2.2.2.1.2.2 ≤ 7302232)
def a_drv (L : Nat) (sel : Option Int) : Nat → List (Int × Int) → Bool
  | 0, _ => false
  | k + 1, c => match a_rest (c, sel) L with
    | .ok r => a_end r
    | .error none => false
    | .error (some (i, q)) => match c[i]? with
      | none => false
      | some (lo, hi) => a_drv L sel k (c.set i (lo, q - 1)) && a_drv L sel k (c.set i (q, hi))
theorem sat_low {xs : Nat → Int} {c : List (Int × Int)} {sel : Option Int} {i : Nat} {lo hi q : Int} (hs : SatA xs (c, sel)) (hc : c[i]? = some (lo, hi)) (h : xs i < q) : SatA xs (c.set i (lo, q - 1), sel) := by
  refine ⟨fun j l h' hj => ?_, hs.2⟩
  dsimp only at hj
  rw [List.getElem?_set] at hj
  by_cases e : i = j
  · subst e
    rw [if_pos rfl] at hj
    split at hj
    · cases hj
      have := hs.1 i lo hi hc
      omega
    · cases hj
  · rw [if_neg e] at hj
    exact hs.1 j l h' hj
theorem sat_high {xs : Nat → Int} {c : List (Int × Int)} {sel : Option Int} {i : Nat} {lo hi q : Int} (hs : SatA xs (c, sel)) (hc : c[i]? = some (lo, hi)) (h : q ≤ xs i) : SatA xs (c.set i (q, hi), sel) := by
  refine ⟨fun j l h' hj => ?_, hs.2⟩
  dsimp only at hj
  rw [List.getElem?_set] at hj
  by_cases e : i = j
  · subst e
    rw [if_pos rfl] at hj
    split at hj
    · cases hj
      have := hs.1 i lo hi hc
      omega
    · cases hj
  · rw [if_neg e] at hj
    exact hs.1 j l h' hj
theorem seq3 {A B C D : XR} {en en' : List Int} {st st' : XT} {v : List Int} (h : s_seq A (s_seq B C) en st = some (0, v, en', st')) : s_seq A (s_seq B (s_seq C D)) en st = D en' st' := by
  obtain ⟨x, h1, h⟩ := j_bd h
  unfold s_seq
  rw [h1, Option.bind_some]
  by_cases h0 : x.1 = 0
  · rw [if_pos h0] at h ⊢
    obtain ⟨y, h2, h⟩ := j_bd h
    rw [h2, Option.bind_some]
    by_cases h3 : y.1 = 0
    · rw [if_pos h3] at h ⊢
      rw [h, Option.bind_some]
      exact if_pos rfl
    · rw [if_neg h3] at h
      cases h
      exact absurd rfl h3
  · rw [if_neg h0] at h
    cases h
    exact absurd rfl h0
theorem a_pre_all : ∀ L, L < 8 → a_isPre (a_pre L) = true
  | 0, _ => a_pre_0
  | 1, _ => a_pre_1
  | 2, _ => a_pre_2
  | 3, _ => a_pre_3
  | 4, _ => a_pre_4
  | 5, _ => a_pre_5
  | 6, _ => a_pre_6
  | 7, _ => a_pre_7
  | _ + 8, h => absurd h (by omega)
theorem evS_2 {xs : Nat → Int} {L K : Nat} {ck : Nat → List Nat} {F : XP} {cW : Nat → Nat → Int} {a b c : SX} : evS xs L ck F K cW (sx 2 a b c) = s_seq (evS xs L ck F K cW a) (evS xs L ck F K cW b) := rfl
theorem en0_v {xs : Nat → Int} : a_en0.map (a_v xs) = [0, 0, 0, 0, 0, 0, 0] := rfl
theorem s0_v {xs : Nat → Int} : a_c xs (([], 0, 0), []) = (([], 0, 0), fun _ _ => 0) := rfl
theorem pre_v {xs : Nat → Int} {L : Nat} {F : XP} (hs : SatA xs ([], none)) (hF : SndP xs (abF ([], none) L g_ck 2000 g_cW g_M 40) F) (h : a_pre L = .ok (0, [], a_en3, a_s3)) :
    evS xs L g_ck F 2000 g_cW (sx 2 lawX (sx 2 lawM lawO z0) z0) [0, 0, 0, 0, 0, 0, 0] (([], 0, 0), fun _ _ => 0) = some (0, [], a_en3.map (a_v xs), a_c xs a_s3) := by
  unfold a_pre at h
  have e := ss_all (L := L) (ck := g_ck) (K := 2000) (cW := g_cW) hs hF _ _ _ _ h
  rw [en0_v, s0_v] at e
  exact e
theorem ev_rest {xs : Nat → Int} {L : Nat} (hL : L < 8) : ev_law xs L 2000 40 = evS xs L g_ck (evF xs L g_ck 2000 g_cW g_M 40) 2000 g_cW lawR (a_en3.map (a_v xs)) (a_c xs a_s3) := by
  have hs : SatA xs ([], none) := ⟨fun i lo hi h => (by cases h), fun v h => (by cases h)⟩
  have e := pre_v hs (sf_all (L := L) (ck := g_ck) (K := 2000) (cW := g_cW) (M := g_M) hs 40) (a_isPre_ok (a_pre_all L hL))
  unfold ev_law
  generalize evF xs L g_ck 2000 g_cW g_M 40 = F at e ⊢
  rw [law_eq, evS_2, evS_2, evS_2]
  rw [evS_2, evS_2] at e
  exact seq3 e
/-- the law's tree ends with 1 within the claim's room -/
def EndsA (xs : Nat → Int) (L : Nat) : Prop := ∃ (en' : List Int) (st' : XT), ev_law xs L 2000 40 = some (1, [1], en', st') ∧ st'.1.2.1 ≤ 600002 ∧ st'.1.2.2 ≤ 7302232
theorem a_end_ok {xs : Nat → Int} {cx : AC} {L : Nat} (hL : L < 8) (hs : SatA xs cx) {r : Nat × List AV × List AV × AS} (h1 : a_rest cx L = .ok r) (h2 : a_end r = true) : EndsA xs L := by
  simp only [a_end, Bool.and_eq_true, decide_eq_true_eq] at h2
  obtain ⟨⟨⟨e1, e2⟩, e3⟩, e4⟩ := h2
  have e := ss_all (L := L) (ck := g_ck) (K := 2000) (cW := g_cW) hs (sf_all hs 40) lawR _ _ _ h1
  rw [e1, e2] at e
  exact ⟨r.2.2.1.map (a_v xs), a_c xs r.2.2.2, (ev_rest hL).trans e, e3, e4⟩
theorem a_drv_ok {xs : Nat → Int} {L : Nat} (hL : L < 8) {sel : Option Int} : ∀ (k : Nat) (c : List (Int × Int)), a_drv L sel k c = true → SatA xs (c, sel) → EndsA xs L
  | 0, _, h, _ => by cases h
  | k + 1, c, h, hs => by
    unfold a_drv at h
    split at h
    · rename_i r hr
      exact a_end_ok hL hs hr h
    · cases h
    · rename_i i q hr
      split at h
      · cases h
      · rename_i lo hi hc
        rw [Bool.and_eq_true] at h
        by_cases hx : xs i < q
        · exact a_drv_ok hL k _ h.1 (sat_low hs hc hx)
        · exact a_drv_ok hL k _ h.2 (sat_high hs hc (by omega))
def a_c0 : List (Int × Int) := [(-2147483648, 2147483647), (-2147483648, 2147483647), (-2147483648, 2147483647), (-2147483648, 2147483647), (-2147483648, 2147483647), (-2147483648, 2147483647), (-2147483648, 2147483647)]
