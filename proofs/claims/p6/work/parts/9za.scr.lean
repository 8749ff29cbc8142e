/-! ===== a tree that asks_w nothing_w of the script_w answers_w the same, whatever the script_w is_w ===== -/
def n_s1 (t : Nat) : SX → Bool
  | .op _ (.op b c) => !((t == 7 && sx_n c == 1) || (t == 10 && sx_n c == 1) || (t == 32 && sx_n b == 332) || (t == 34 && sx_n c == 332) || (t == 24 && sx_n c == 332))
  | _ => true
def n_scr : SX → Bool
  | .var _ => true
  | .op (.var t) r => n_s1 t r && n_scr r
  | .op x y => n_scr x && n_scr y
section SCR
variable {xs ys : Nat → Int} {L L' K : Nat} {ck : Nat → List Nat} {F F' : XP} {cW : Nat → Nat → Int}
theorem ns_op : ∀ {x y : SX}, n_scr (.op x y) = true → n_scr x = true ∧ n_scr y = true
  | .var t, y, h => by
    unfold n_scr at h
    rw [Bool.and_eq_true] at h
    exact ⟨rfl, h.2⟩
  | .op u v, y, h => by
    unfold n_scr at h
    rwa [Bool.and_eq_true] at h
theorem ns_nd {t : Nat} {a b c : SX} (h : n_scr (.op (.var t) (.op a (.op b c))) = true) : (n_scr a = true ∧ n_scr b = true ∧ n_scr c = true) ∧ (t = 7 → sx_n c ≠ 1) ∧ (t = 10 → sx_n c ≠ 1) ∧ (t = 32 → sx_n b ≠ 332) ∧ (t = 34 → sx_n c ≠ 332) ∧ (t = 24 → sx_n c ≠ 332) := by
  have h1 := (ns_op h).2
  have h2 := ns_op h1
  have h3 := ns_op h2.2
  unfold n_scr at h
  rw [Bool.and_eq_true] at h
  have k := h.1
  unfold n_s1 at k
  simp only [Bool.not_eq_true', Bool.or_eq_false_iff, Bool.and_eq_false_iff, beq_eq_false_iff_ne, ne_eq] at k
  refine ⟨⟨h2.1, h3.1, h3.2⟩, ?_, ?_, ?_, ?_, ?_⟩ <;> intro e <;> intro e2_w <;> omega
theorem ns_al {k : Nat} (hk : k ≠ 1) {A B : XE} : n_aload xs L k A B = n_aload ys L' k A B := by
  unfold n_aload
  match k, hk with
  | 0, _ => rfl
  | 1, h => exact absurd rfl h
  | k + 2, _ => rfl
theorem ns_ln {k : Nat} (hk : k ≠ 1) {A : XE} : n_alen L k A = n_alen L' k A := by
  unfold n_alen
  match k, hk with
  | 0, _ => rfl
  | 1, h => exact absurd rfl h
  | k + 2, _ => rfl
theorem ns_E (hF : ∀ f, f ≠ 332 → F f = F' f) : ∀ t : SX, n_scr t = true → evE xs L ck F cW t = evE ys L' ck F' cW t
  | .op (.var t) (.op a (.op b c)), h => by
    obtain ⟨⟨ha_w, hb_w, hc_w⟩, h7, h10, h32, h34, -⟩ := ns_nd h
    show nodeE xs L ck F cW t a b c (evE xs L ck F cW a) (evE xs L ck F cW b) (evE xs L ck F cW c) = nodeE ys L' ck F' cW t a b c (evE ys L' ck F' cW a) (evE ys L' ck F' cW b) (evE ys L' ck F' cW c)
    rw [ns_E hF a ha_w, ns_E hF b hb_w, ns_E hF c hc_w]
    unfold nodeE
    split
    case h_5 => exact ns_al (h7 rfl)
    case h_6 => exact ns_ln (h10 rfl)
    case h_24 =>
      unfold n_call
      rw [hF _ (h32 rfl)]
    case h_25 =>
      unfold n_new
      rw [hF _ (h34 rfl)]
    all_goals rfl
  | .var _, _ => rfl
  | .op (.op _ _) _, _ => rfl
  | .op (.var _) (.var _), _ => rfl
  | .op (.var _) (.op _ (.var _)), _ => rfl
theorem ns_S (hF : ∀ f, f ≠ 332 → F f = F' f) : ∀ t : SX, n_scr t = true → evS xs L ck F K cW t = evS ys L' ck F' K cW t
  | .op (.var t) (.op a (.op b c)), h => by
    obtain ⟨⟨ha_w, hb_w, hc_w⟩, h7, h10, h32, h34, h24⟩ := ns_nd h
    show nodeS xs L ck F K cW t a b c (evS xs L ck F K cW a) (evS xs L ck F K cW b) (evS xs L ck F K cW c) = nodeS ys L' ck F' K cW t a b c (evS ys L' ck F' K cW a) (evS ys L' ck F' K cW b) (evS ys L' ck F' K cW c)
    rw [ns_S hF a ha_w, ns_S hF b hb_w, ns_S hF c hc_w]
    have ea := ns_E (xs := xs) (ys := ys) (L := L) (L' := L') (ck := ck) (cW := cW) hF a ha_w
    have eb := ns_E (xs := xs) (ys := ys) (L := L) (L' := L') (ck := ck) (cW := cW) hF b hb_w
    have ec : ∀ u v, c = .op u v → evE xs L ck F cW v = evE ys L' ck F' cW v := fun u v e => ns_E hF v (ns_op (e ▸ hc_w)).2
    unfold nodeS
    dsimp only
    rw [ea, eb]
    split
    case h_7 =>
      split
      · rw [ec _ _ rfl]
      · rfl
    case h_8 =>
      split
      · rw [ec _ _ rfl]
      · rfl
    case h_25 =>
      unfold s_try
      rw [hF _ (h24 rfl)]
    all_goals rfl
  | .var _, _ => rfl
  | .op (.op _ _) _, _ => rfl
  | .op (.var _) (.var _), _ => rfl
  | .op (.var _) (.op _ (.var _)), _ => rfl
theorem ns_F {M : Nat → XM} (hM_w : ∀ f, f ≠ 332 → n_scr (M f).2.2.2.2 = true) : ∀ n f, f ≠ 332 → evF xs L ck K cW M n f = evF ys L' ck K cW M n f
  | 0, _, _ => rfl
  | n + 1, f, hf => by
    unfold evF
    rw [ns_S (ns_F hM_w n) _ (hM_w f hf)]
def g_nsc (f : Nat) : Bool := Nat.beq f 332 || n_scr (g_M f).2.2.2.2
theorem g_nsc_ok : (List.range 352).all g_nsc = true := by decide +kernel
theorem g_nsM : ∀ f, f ≠ 332 → n_scr (g_M f).2.2.2.2 = true := fun f hf => by
  by_cases h : f < 352
  · have k := List.all_eq_true.mp g_nsc_ok f (List.mem_range.mpr h)
    rw [g_nsc, Bool.or_eq_true] at k
    rcases k with k | k
    · exact absurd (Nat.eq_of_beq_eq_true k) hf
    · exact k
  · have e : g_M f = (0, 0, [], [], .var 0) := by
      unfold g_M
      exact t_out (by show 352 ≤ f; omega)
    rw [e]
    rfl
end SCR
