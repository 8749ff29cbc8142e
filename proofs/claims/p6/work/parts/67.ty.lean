/-! ===== the third reading: methods ===== -/
def t_b1 (t : Nat) : Nat := if t = 100 then 1 else t
/-- what a method that may throw is known to do -/
def TotX (T : TT) (g : XS × Nat × Nat) (ro : Nat → Nat → Bool) (F : XP) (f : Nat) : Prop :=
  ∀ (av : List Int) (h : XH), HT T.1 g.1 h → VL (fun _ => 0) g.1 (T.2.1 f) av → ∃ c r g' h', F f av (g, h) = some (c, r, (g', h')) ∧ HT T.1 g.1 h' ∧ FR ro h h' ∧ ((c = 1 ∧ g' = g ∧ VL (fun _ => 0) g.1 (T.2.2.1 f) r) ∨ (c = 4 ∧ g' = (g.1, g.2.1 + 1, g.2.2 + 6)))
def tyMk (T : TT) (M : Nat → XM) (f : Nat) : Bool := decide ((M f).2.2.1 = (T.2.1 f).map t_b1) && (T.2.2.1 f).all (fun t => Nat.blt t 300)
section TYM
variable {xs : Nat → Int} {L K : Nat} {ck : Nat → List Nat} {cW : Nat → Nat → Int} {T : TT} {g : XS × Nat × Nat} {ro : Nat → Nat → Bool} {z : Nat → Int} {M : Nat → XM} {THR : Nat → Bool}
theorem VL_lay : ∀ {pk : List Nat} {av : List Int}, VL z g.1 pk av → VL z g.1 (j_layT pk) (j_lay (pk.map t_b1) av)
  | [], [], _ => trivial
  | k :: pk, v :: av, h => by
    by_cases h2 : k = 2
    · subst h2
      exact ⟨h.1, TV.zero, VL_lay h.2⟩
    · have h3 : t_b1 k ≠ 2 := by
        unfold t_b1
        split <;> omega
      show VL z g.1 (if k = 2 then 2 :: 0 :: j_layT pk else k :: j_layT pk) (if t_b1 k = 2 then v :: 0 :: j_lay (pk.map t_b1) av else v :: j_lay (pk.map t_b1) av)
      rw [if_neg h2, if_neg h3]
      exact ⟨h.1, VL_lay h.2⟩
  | [], _ :: _, h => h.elim
  | _ :: _, [], h => h.elim
theorem VL_rep : ∀ n, VL z g.1 (List.replicate n 0) (List.replicate n 0)
  | 0 => trivial
  | n + 1 => ⟨TV.zero, VL_rep n⟩
theorem VL_pad {n : Nat} {ts : List Nat} {vs : List Int} (h : VL z g.1 ts vs) : VL z g.1 (j_pad 0 n ts) (j_pad 0 n vs) := by
  unfold j_pad
  rw [VL.len h]
  exact VL.app h (VL_rep _)
theorem chk_1 {g : XS × Nat × Nat} {c : Nat} (hc : c = 1 ∨ c = 4) {g' : XS × Nat × Nat} (hg : g' = g ∨ g' = (g.1, g.2.1 + 1, g.2.2 + 6)) : (c = 1 ∨ c = 4) ∧ g.2.1 ≤ g'.2.1 ∧ g.2.2 ≤ g'.2.2 ∧ (g.1.map (·.1)).isPrefixOf (g'.1.map (·.1)) = true := by
  rcases hg with rfl | rfl
  · exact ⟨hc, Nat.le_refl _, Nat.le_refl _, List.isPrefixOf_iff_prefix.mpr (List.prefix_refl _)⟩
  · exact ⟨hc, Nat.le_succ _, Nat.le_add_right _ _, List.isPrefixOf_iff_prefix.mpr (List.prefix_refl _)⟩
theorem ty_X (hg : GG T.1 g.1) (hTG : TG T) (hcW : ∀ k, k < 24 → InL (cW 0 k) ∧ InI (cW 1 k)) (hW : WK T g.1 ro) (hK : 4294967300 ≤ K) {n f : Nat} (hF : ∀ f, T.2.2.2.1 f = true → TotF T g ro (evF xs L ck K cW M n) f) (h : tyM T M THR f = true) (hk : tyMk T M f = true) : TotX T g ro (evF xs L ck K cW M (n + 1)) f ∧ (THR f = false → TotF T g ro (evF xs L ck K cW M (n + 1)) f) := by
  simp only [tyMk, Bool.and_eq_true, decide_eq_true_eq] at hk
  have key : ∀ (av : List Int) (h : XH), HT T.1 g.1 h → VL (fun _ => 0) g.1 (T.2.1 f) av → ∃ c r g' h', evF xs L ck K cW M (n + 1) f av (g, h) = some (c, r, (g', h')) ∧ HT T.1 g.1 h' ∧ FR ro h h' ∧ ((c = 1 ∧ g' = g ∧ VL (fun _ => 0) g.1 (T.2.2.1 f) r) ∨ (c = 4 ∧ THR f = true ∧ g' = (g.1, g.2.1 + 1, g.2.2 + 6))) := by
    intro av hh hH hv
    unfold tyM at h
    split at h
    · rename_i ho
      have hS := (ty_S (xs := xs) (L := L) (ck := ck) hg hTG hcW hF hW hK hk.2 (M f).2.2.2.2).1 (fun _ => 0) _ _ ho
      obtain ⟨c, vals, en', g', h', e1, e2, e3, e4⟩ := hS _ hh (VL_pad (VL_lay hv)) hH
      rw [evF_s, hk.1, e1, Option.bind_some]
      rcases e4 with ⟨-, -, τ, k, -⟩ | ⟨rfl, rfl, k⟩ | ⟨-, -, τ, k, -⟩ | ⟨-, -, τ, k, -⟩ | ⟨rfl, k1, k2⟩
      · cases k
      · exact ⟨1, vals, g', h', if_pos (chk_1 (Or.inl rfl) (Or.inl rfl)), e2, e3, Or.inl ⟨rfl, rfl, k⟩⟩
      · cases k
      · cases k
      · exact ⟨4, vals, g', h', if_pos (chk_1 (Or.inr rfl) (Or.inr k2)), e2, e3, Or.inr ⟨rfl, k1, k2⟩⟩
    · cases h
  refine ⟨fun av hh hH hv => ?_, fun hn av hh hH hv => ?_⟩
  · obtain ⟨c, r, g', h', e1, e2, e3, e4⟩ := key av hh hH hv
    refine ⟨c, r, g', h', e1, e2, e3, e4.imp id (fun k => ⟨k.1, k.2.2⟩)⟩
  · obtain ⟨c, r, g', h', e1, e2, e3, e4⟩ := key av hh hH hv
    rcases e4 with ⟨rfl, rfl, k⟩ | ⟨-, k, -⟩
    · exact ⟨r, h', e1, e2, e3, k⟩
    · rw [hn] at k; cases k
end TYM
