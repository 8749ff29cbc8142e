/-! ===== mark_w on_w both_w sides ===== -/
section DEED10
variable {xs : Nat → Int} {L K n : Nat} {c d : Nat} {h h' h1 h2 : XH} {D : DD}
/-- laying a mark_w, going back to one: what the class leaves -/
def MKc (m b : Int) (r : List Int) (h h' : XH) : Prop := (m ≠ 0 ∧ m ≠ 1 ∧ r = [0] ∧ h' = h) ∨ (m = 0 ∧ b = 0 ∧ r = [1] ∧ ∃ x, LCP 112 70 h x ∧ h' = j_up x 0 13 1) ∨ (m = 1 ∧ b = 0 ∧ r = [1] ∧ ∃ x, LCP 133 70 h x ∧ h' = j_up x 0 14 1) ∨ (m = 0 ∧ b = 1 ∧ ((h 0 13 = 0 ∧ r = [0] ∧ h' = h) ∨ (h 0 13 ≠ 0 ∧ r = [1] ∧ ∃ x, LCP 70 112 h x ∧ h' = j_up x 154 1 0))) ∨ (m = 1 ∧ b = 1 ∧ ((h 0 14 = 0 ∧ r = [0] ∧ h' = h) ∨ (h 0 14 ≠ 0 ∧ r = [1] ∧ ∃ x, LCP 70 133 h x ∧ h' = j_up x 154 1 0)))
theorem mark_c {m b : Int} {r : List Int} (hb_w : b = 0 ∨ b = 1) (e1_w : evF xs L g_ck K g_cW g_M n 48 [0, m, b] ((a_g3, c, d), h) = some (1, r, ((a_g3, c, d), h1))) : MKc m b r h h1 := by
  have c48_w : CS43 48 [0, m, b] h (fun k r h' => k = 1 → MKc m b r h h') := by
    rw [cs43_48, kk_48]
    refine ⟨hb_w, fun y1 y2 _ => Or.inl ⟨y1, y2, rfl, rfl⟩, fun y1 y2 x lc _ => Or.inr (Or.inl ⟨y1, y2, rfl, x, lc, rfl⟩), fun y1 y2 x lc _ => Or.inr (Or.inr (Or.inl ⟨y1, y2, rfl, x, lc, rfl⟩)), fun y1 y2 => ⟨fun z _ => Or.inr (Or.inr (Or.inr (Or.inl ⟨y1, y2, Or.inl ⟨z, rfl, rfl⟩⟩))), fun z x lc _ => Or.inr (Or.inr (Or.inr (Or.inl ⟨y1, y2, Or.inr ⟨z, rfl, x, lc, rfl⟩⟩)))⟩, fun y1 y2 => ⟨fun z _ => Or.inr (Or.inr (Or.inr (Or.inr ⟨y1, y2, Or.inl ⟨z, rfl, rfl⟩⟩))), fun z x lc _ => Or.inr (Or.inr (Or.inr (Or.inr ⟨y1, y2, Or.inr ⟨z, rfl, x, lc, rfl⟩⟩)))⟩⟩
  exact (snd_43 n _ _ _ _ _ c48_w _ _ _ _ e1_w).2 rfl
/-- what the reference_w leaves -/
def MKr (m b : Int) (r : List Int) (h h' : XH) : Prop := (¬ (0 ≤ m ∧ m ≤ 1) ∧ r = [0] ∧ h' = thz h) ∨ ∃ mn_w : Nat, m = (mn_w : Int) ∧ mn_w ≤ 1 ∧ ((b = 0 ∧ r = [1] ∧ ∃ x, (∀ o k : Nat, ¬ (o = 194 ∧ 429 * (1 + mn_w) ≤ k ∧ k < 429 * (1 + mn_w) + 429) → x o k = j_up (thz h) 195 mn_w 1 o k) ∧ (∀ q : Nat, q < 429 → x 194 (429 * (1 + mn_w) + q) = h 194 q) ∧ h' = j_up x 182 18 (x 182 18)) ∨ (b = 1 ∧ h 195 mn_w = 0 ∧ r = [0] ∧ h' = thz h) ∨ (b = 1 ∧ h 195 mn_w ≠ 0 ∧ r = [1] ∧ ∃ x, (∀ o k : Nat, ¬ (o = 194 ∧ k < 429) → x o k = j_up (thz h) 195 mn_w 1 o k) ∧ (∀ q : Nat, q < 429 → x 194 q = h 194 (429 * (1 + mn_w) + q)) ∧ h' = j_up x 182 18 0))
theorem mark_r {m b : Int} {r : List Int} (hb_w : b = 0 ∨ b = 1) (w0_w : h 195 0 = 0 ∨ h 195 0 = 1) (w1_w : h 195 1 = 0 ∨ h 195 1 = 1) (e1_w : evF xs L g_ck K g_cW g_M n 311 [182, m, b] ((a_g3, c, d), h) = some (1, r, ((a_g3, c, d), h1))) : MKr m b r h h1 := by
  have c311 : CS43 311 [182, m, b] h (fun k r h' => k = 1 → MKr m b r h h') := by
    rw [cs43_311, kk_311]
    refine ⟨hb_w, w0_w, w1_w, fun y _ => Or.inl ⟨y, rfl, rfl⟩, fun mn_w y1 y2 => ⟨fun y x f1_w f2_w _ => Or.inr ⟨mn_w, y1, y2, Or.inl ⟨y, rfl, x, f1_w, f2_w, rfl⟩⟩, fun y => ⟨fun z _ => Or.inr ⟨mn_w, y1, y2, Or.inr (Or.inl ⟨y, z, rfl, rfl⟩)⟩, fun z x f1_w f2_w _ => Or.inr ⟨mn_w, y1, y2, Or.inr (Or.inr ⟨y, z, rfl, x, f1_w, f2_w, rfl⟩)⟩⟩⟩⟩
  exact (snd_43 n _ _ _ _ _ c311 _ _ _ _ e1_w).2 rfl
end DEED10
