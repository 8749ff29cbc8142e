/-! ===== the third reading: counters, statements, methods ===== -/
section TYT
variable {xs : Nat → Int} {L K : Nat} {ck : Nat → List Nat} {F : XP} {cW : Nat → Nat → Int} {T : TT} {g : XS × Nat × Nat} {ro : Nat → Nat → Bool} {rt : List Nat} {thr : Bool}
theorem j_b_ne {b : Bool} (h : j_b b ≠ 0) : b = true := by
  cases b
  · exact absurd rfl h
  · rfl
theorem some_one {α β : Type} {a b : α} {x y : β} (h : some ([a], x) = some ([b], y)) : a = b ∧ x = y := by
  cases h
  exact ⟨rfl, rfl⟩
/-- a conjunction that holds: both of its parts -/
theorem and_parts {z : Nat → Int} {τ : List Nat} {A B : XE} {ta tb : Nat} (hA : TotE T g ro z τ [ta] A) (hB : TotE T g ro z τ [tb] B) {en : List Int} {h h' : XH} {v : Int} (hv : VL z g.1 τ en) (hH : HT T.1 g.1 h) (e : n_ife A (n_nz B) (fun _ st => some ([0], st)) en (g, h) = some ([v], (g, h'))) (h0 : v ≠ 0) :
    ∃ va h1, A en (g, h) = some ([va], (g, h1)) ∧ va ≠ 0 ∧ HT T.1 g.1 h1 ∧ ∃ vb h2, B en (g, h1) = some ([vb], (g, h2)) ∧ vb ≠ 0 := by
  obtain ⟨va, h1, a1, a2, a3, a4⟩ := te_one hA hv hH
  obtain ⟨vb, h2, b1, b2, b3, b4⟩ := te_one hB hv a2
  unfold n_ife at e
  rw [a1, Option.bind_some] at e
  dsimp only at e
  by_cases hz : j_hd [va] = 0
  · rw [if_pos hz] at e
    exact absurd (some_one e).1.symm h0
  · rw [if_neg hz] at e
    unfold n_nz at e
    rw [b1, Option.bind_some] at e
    have e1 := (some_one e).1
    refine ⟨va, h1, a1, hz, a2, vb, h2, b1, ?_⟩
    rw [← e1] at h0
    exact of_decide_eq_true (j_b_ne h0)
theorem tyE_25 {τ us : List Nat} {a b c : SX} (h : tyF T τ (.op (.var 25) (.op a (.op b c))) = some us) : isI (t_one (tyF T τ a)) = true ∧ isI (t_one (tyF T τ b)) = true := (j_if h).1
theorem tyE_20 {τ us : List Nat} {a b c : SX} (h : tyF T τ (.op (.var 20) (.op a (.op b c))) = some us) : isI (t_one (tyF T τ a)) = true ∧ isI (t_one (tyF T τ b)) = true := (j_if h).1
theorem up_ok (hg : GG T.1 g.1) (hTG : TG T) (hcW : ∀ k, k < 24 → InL (cW 0 k) ∧ InI (cW 1 k)) (hF : ∀ f, T.2.2.2.1 f = true → TotF T g ro F f) {i : Nat} {z : Nat → Int} {τ : List Nat} {en : List Int} (hv : VL z g.1 τ en) : ∀ (t : SX) (h h' : XH) (v : Int) (us : List Nat), lp_up i t = true → tyF T τ t = some us → HT T.1 g.1 h → evE xs L ck F cW t en (g, h) = some ([v], (g, h')) → v ≠ 0 → en.getD i 0 < 2147483647
  | .op (.var t) (.op a (.op b c)), h, h', v, us, hu, hT, hH, e, h0 => by
    by_cases h25 : t = 25
    · subst h25
      obtain ⟨t1, t2⟩ := tyE_25 hT
      have hA := ty_all (xs := xs) (L := L) (ck := ck) hg hTG hcW hF a z τ _ (t_one_some rfl (isI_0 t1))
      have hB := ty_all (xs := xs) (L := L) (ck := ck) hg hTG hcW hF b z τ _ (t_one_some rfl (isI_0 t2))
      obtain ⟨va, h1, a1, a2, a3, vb, h2, b1, b2⟩ := and_parts hA hB hv hH e h0
      have hu2 : (lp_up i a || lp_up i b) = true := hu
      rcases (Bool.or_eq_true _ _).mp hu2 with q | q
      · exact up_ok hg hTG hcW hF hv a h h1 va _ q (t_one_some rfl (isI_0 t1)) hH a1 a2
      · exact up_ok hg hTG hcW hF hv b h1 h2 vb _ q (t_one_some rfl (isI_0 t2)) a3 b1 b2
    · unfold lp_up at hu
      split at hu
      · rename_i e9
        cases e9
        exact absurd rfl h25
      · rename_i j w w2 b9 k e9
        cases e9
        obtain ⟨t1, t2⟩ := tyE_20 hT
        have hB := ty_all (xs := xs) (L := L) (ck := ck) hg hTG hcW hF b z τ _ (t_one_some rfl (isI_0 t2))
        obtain ⟨vb, h2, b1, b2, b3, b4⟩ := te_one hB hv hH
        have hin := isI_in t2 b4
        have e2 : n_cmp (j_cmp k) (fun en st => some ([en.getD j 0], st)) (evE xs L ck F cW b) en (g, h) = some ([v], (g, h')) := e
        unfold n_cmp at e2
        rw [Option.bind_some] at e2
        dsimp only at e2
        rw [b1, Option.bind_some] at e2
        have e3 : j_b (j_cmp k (en.getD j 0) vb) = v := (some_one e2).1
        rw [← e3] at h0
        have e4 := j_b_ne h0
        simp only [Bool.and_eq_true, Bool.or_eq_true, beq_iff_eq] at hu
        obtain ⟨rfl, hk⟩ := hu
        unfold InI at hin
        rcases hk with rfl | ⟨rfl, hk⟩
        · have e5 : en.getD j 0 < vb := of_decide_eq_true e4
          omega
        · have e5 : en.getD j 0 ≤ vb := of_decide_eq_true e4
          split at hk
          · rename_i a' b' c'
            simp only [Bool.and_eq_true, beq_iff_eq, decide_eq_true_eq] at hk
            have e6 : evE xs L ck F cW (.op (.var 1) (.op a' (.op b' c'))) en (g, h) = some ([sx_c a' b' c'], (g, h)) := rfl
            have e7 := (some_one (b1.symm.trans e6)).1
            omega
          · cases hk
      · cases hu
  | .var _, _, _, _, _, _, hT, _, _, _ => by cases hT
  | .op (.op _ _) _, _, _, _, _, _, hT, _, _, _ => by cases hT
  | .op (.var _) (.var _), _, _, _, _, _, hT, _, _, _ => by cases hT
  | .op (.var _) (.op _ (.var _)), _, _, _, _, _, hT, _, _, _ => by cases hT
theorem dn_ok (hg : GG T.1 g.1) (hTG : TG T) (hcW : ∀ k, k < 24 → InL (cW 0 k) ∧ InI (cW 1 k)) (hF : ∀ f, T.2.2.2.1 f = true → TotF T g ro F f) {i : Nat} {z : Nat → Int} {τ : List Nat} {en : List Int} (hv : VL z g.1 τ en) : ∀ (t : SX) (h h' : XH) (v : Int) (us : List Nat), lp_dn i t = true → tyF T τ t = some us → HT T.1 g.1 h → evE xs L ck F cW t en (g, h) = some ([v], (g, h')) → v ≠ 0 → 0 ≤ en.getD i 0
  | .op (.var t) (.op a (.op b c)), h, h', v, us, hu, hT, hH, e, h0 => by
    by_cases h25 : t = 25
    · subst h25
      obtain ⟨t1, t2⟩ := tyE_25 hT
      have hA := ty_all (xs := xs) (L := L) (ck := ck) hg hTG hcW hF a z τ _ (t_one_some rfl (isI_0 t1))
      have hB := ty_all (xs := xs) (L := L) (ck := ck) hg hTG hcW hF b z τ _ (t_one_some rfl (isI_0 t2))
      obtain ⟨va, h1, a1, a2, a3, vb, h2, b1, b2⟩ := and_parts hA hB hv hH e h0
      have hu2 : (lp_dn i a || lp_dn i b) = true := hu
      rcases (Bool.or_eq_true _ _).mp hu2 with q | q
      · exact dn_ok hg hTG hcW hF hv a h h1 va _ q (t_one_some rfl (isI_0 t1)) hH a1 a2
      · exact dn_ok hg hTG hcW hF hv b h1 h2 vb _ q (t_one_some rfl (isI_0 t2)) a3 b1 b2
    · unfold lp_dn at hu
      split at hu
      · rename_i e9
        cases e9
        exact absurd rfl h25
      · rename_i j w w2 b9 k e9
        cases e9
        simp only [Bool.and_eq_true, beq_iff_eq] at hu
        obtain ⟨rfl, rfl⟩ := hu
        have e2 : some ([j_b (j_cmp 3 (en.getD j 0) 0)], (g, h)) = some ([v], (g, h')) := e
        have e3 := (some_one e2).1
        rw [← e3] at h0
        have e5 : en.getD j 0 ≥ 0 := of_decide_eq_true (j_b_ne h0)
        exact e5
      · cases hu
  | .var _, _, _, _, _, _, hT, _, _, _ => by cases hT
  | .op (.op _ _) _, _, _, _, _, _, hT, _, _, _ => by cases hT
  | .op (.var _) (.var _), _, _, _, _, _, hT, _, _, _ => by cases hT
  | .op (.var _) (.op _ (.var _)), _, _, _, _, _, hT, _, _, _ => by cases hT
end TYT
