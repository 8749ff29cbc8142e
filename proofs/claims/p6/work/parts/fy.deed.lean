/-! ===== undo on_w both_w sides ===== -/
section DEED8
variable {xs : Nat → Int} {L K n : Nat} {c d : Nat} {h h' h1 h2 : XH} {D : DD}
theorem undo_k {r1_w r2 : List Int} (cd : CDw 6 D h) (rf : RF D h) (sm_w : SM D h) (hr : 0 ≤ h 70 10 ∧ h 70 10 ≤ 100) (e1_w : evF xs L g_ck K g_cW g_M n 12 [0] ((a_g3, c, d), h) = some (1, r1_w, ((a_g3, c, d), h1))) (e2_w : evF xs L g_ck K g_cW g_M n 272 [182] ((a_g3, c, d), h1) = some (1, r2, ((a_g3, c, d), h2))) : r1_w = r2 ∧ CDw 6 D h2 ∧ RF D h2 ∧ SM D h2 := by
  have sm' := sm_w
  obtain ⟨-, -, -, -, ⟨w, w8, wc, wr_w, ws_w⟩, -⟩ := sm'
  by_cases y : w = 0
  · subst y
    have c12 : CS43 12 [0] h (fun k r h' => k = 1 → r = [0] ∧ h' = h) := by
      rw [cs43_12, kk_12s]
      exact Or.inl ⟨wc, fun _ => ⟨rfl, rfl⟩⟩
    obtain ⟨a1_w, a2⟩ := (snd_43 n _ _ _ _ _ c12 _ _ _ _ e1_w).2 rfl
    subst a2
    have c272 : CS43 272 [182] h1 (fun k r h' => k = 1 → r = [0] ∧ h' = thz h1) := by
      rw [cs43_272, kk_272]
      exact ⟨0, wr_w, by decide, fun _ _ => ⟨rfl, rfl⟩, fun m z => absurd z (by omega)⟩
    obtain ⟨b1, b2⟩ := (snd_43 n _ _ _ _ _ c272 _ _ _ _ e2_w).2 rfl
    subst b2
    exact ⟨a1_w.trans b1.symm, thz_k cd rf sm_w⟩
  · obtain ⟨m, rfl⟩ : ∃ m, w = m + 1 := ⟨w - 1, by omega⟩
    obtain ⟨mn_w, pn, t1_w, t2_w, t3_w, t4_w, t5_w, -⟩ := ws_w m (by omega)
    have c12 : CS43 12 [0] h (fun k r h' => k = 1 → r = [1] ∧ TKB m mn_w pn h h') := by
      rw [cs43_12, kk_12s]
      exact Or.inr ⟨m, mn_w, pn, wc, by omega, t1_w, t2_w, t3_w, t4_w, t5_w, fun x tk _ => ⟨rfl, tk⟩⟩
    obtain ⟨a1_w, tk⟩ := (snd_43 n _ _ _ _ _ c12 _ _ _ _ e1_w).2 rfl
    have hi_w : ∀ o k : Nat, (o ≤ 24 ∨ 157 ≤ o) → h1 o k = h o k := fun o k z => by
      rcases tk with ⟨-, e⟩ | ⟨-, e, -⟩ | ⟨-, e⟩ | ⟨-, e⟩
      · rw [e, up_ne (by omega), up_ne (by omega)]
      · exact e o k (by omega)
      · rw [e, up_ne (by omega), up_ne (by omega)]
      · rw [e, up_ne (by omega), up_ne (by omega)]
    have c272 : CS43 272 [182] h1 (fun k r h' => k = 1 → r = [1] ∧ (∀ x k : Nat, ¬ (x = 194 ∧ k < 404) → ¬ (x = 182 ∧ k = 18) → h' x k = thz h1 x k) ∧ h' 182 18 = (m : Int) ∧ ∀ q : Nat, q < 404 → h' 194 q = h1 194 (429 * (3 + m) + q)) := by
      rw [cs43_272, kk_272]
      refine ⟨m + 1, (hi_w 182 18 (by omega)).trans wr_w, w8, fun z => absurd z (by omega), fun m' e x f1_w f2_w f3_w _ => ?_⟩
      obtain rfl : m' = m := by omega
      exact ⟨rfl, f1_w, f2_w, f3_w⟩
    obtain ⟨b1, f1_w, f2_w, f3_w⟩ := (snd_43 n _ _ _ _ _ c272 _ _ _ _ e2_w).2 rfl
    have lo_w : ∀ o k : Nat, o ≠ 182 → o ≠ 194 → h2 o k = h1 o k := fun o k z1 z2 => (f1_w o k (by omega) (by omega)).trans (th_e z1)
    refine ⟨a1_w.trans b1.symm, cd.fr (fun o k a b => (lo_w o k (by omega) (by omega)).trans (hi_w o k (by omega))), rf.fr (funext fun k => (lo_w 188 k (by decide) (by decide)).trans (hi_w 188 k (by omega))) (funext fun k => (lo_w 189 k (by decide) (by decide)).trans (hi_w 189 k (by omega))) (funext fun k => (lo_w 190 k (by decide) (by decide)).trans (hi_w 190 k (by omega))), SM.undo sm_w wc hr t1_w t2_w t3_w t4_w (fun z => ?_) tk f1_w f2_w f3_w⟩
    rcases t5_w with e | e | ⟨-, e⟩ | e
    · exact absurd (z.symm.trans e) (by decide)
    · exact absurd (z.symm.trans e) (by decide)
    · exact e
    · exact absurd (z.symm.trans e) (by decide)
end DEED8
