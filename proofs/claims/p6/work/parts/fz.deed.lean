/-! ===== see, mark_w on_w both_w sides ===== -/
section DEED9
variable {xs : Nat → Int} {L K n : Nat} {c d : Nat} {h h' h1 h2 : XH} {D : DD}
theorem see_k {t u v : Int} {r1_w r2 : List Int} (cd : CDw 6 D h) (rf : RF D h) (sm_w : SM D h) (hv : v = 0 ∨ v = 1) (e1_w : evF xs L g_ck K g_cW g_M n 40 [0, t, u, v] ((a_g3, c, d), h) = some (1, r1_w, ((a_g3, c, d), h1))) (e2_w : evF xs L g_ck K g_cW g_M n 304 [182, t, u, v] ((a_g3, c, d), h1) = some (1, r2, ((a_g3, c, d), h2))) : r1_w = r2 ∧ CDw 6 D h2 ∧ RF D h2 ∧ SM D h2 := by
  have sm' := sm_w
  obtain ⟨-, -, -, ⟨w, w8, w1_w, w2_w, -⟩, -⟩ := sm'
  rw [Nat.zero_add] at w2_w
  obtain ⟨z9, -, -⟩ := sz_cd cd
  obtain ⟨y0, -, -, D0, D12, -⟩ := sz_rf rf
  have c40_w : CS43 40 [0, t, u, v] h (fun k r h' => k = 1 → (¬ (okS h t u ∧ w < 8) ∧ r = [0] ∧ h' = h) ∨ (okS h t u ∧ w < 8 ∧ r = [1] ∧ h' = j_up (j_up (j_up (j_up h 86 w t) 88 w u) 90 w v) 70 11 ((w + 1 : Nat) : Int))) := by
    rw [cs43_40, kk_40s]
    exact ⟨w, w1_w, w8, hv, fun y _ => Or.inl ⟨y, rfl, rfl⟩, fun y x _ => Or.inr ⟨y, x, rfl, rfl⟩⟩
  have q1_w := (snd_43 n _ _ _ _ _ c40_w _ _ _ _ e1_w).2 rfl
  have hi_w : ∀ o k : Nat, (o ≤ 24 ∨ 91 ≤ o) → h1 o k = h o k := fun o k z => by
    rcases q1_w with ⟨-, -, e⟩ | ⟨-, -, -, e⟩
    · rw [e]
    · rw [e, up_ne (by omega), up_ne (by omega), up_ne (by omega), up_ne (by omega)]
  have c304 : CS43 304 [182, t, u, v] h1 (fun k r h' => k = 1 → (¬ (okSr h1 t u ∧ w < 8) ∧ r = [0] ∧ h' = thz h1) ∨ (okSr h1 t u ∧ w < 8 ∧ r = [1] ∧ h' = j_up (j_up (j_up (j_up (thz h1) 194 (405 + 3 * w) t) 194 (405 + 3 * w + 1) u) 194 (405 + 3 * w + 2) v) 194 404 ((w + 1 : Nat) : Int))) := by
    rw [cs43_304, kk_304]
    exact ⟨w, (hi_w 194 404 (by omega)).trans w2_w, w8, hv, fun y _ => Or.inl ⟨y, rfl, rfl⟩, fun y x _ => Or.inr ⟨y, x, rfl, rfl⟩⟩
  have q2_w := (snd_43 n _ _ _ _ _ c304 _ _ _ _ e2_w).2 rfl
  have ok : okSr h1 t u ↔ okS h t u := by
    unfold okSr okS
    rw [hi_w 188 0 (by omega), y0, z9]
  rcases q1_w with ⟨y, a1_w, a2⟩ | ⟨y, y8, a1_w, a2⟩
  · rcases q2_w with ⟨-, b1, b2⟩ | ⟨y2, y3, -⟩
    · subst a2
      subst b2
      exact ⟨a1_w.trans b1.symm, thz_k cd rf sm_w⟩
    · exact absurd ⟨ok.mp y2, y3⟩ y
  · rcases q2_w with ⟨y2, -⟩ | ⟨-, -, b1, b2⟩
    · exact absurd ⟨ok.mpr y, y8⟩ y2
    · have lo_w : ∀ o k : Nat, o ≠ 182 → o ≠ 194 → h2 o k = h1 o k := fun o k z1 z2 => by
        rw [b2, up_ne (by omega), up_ne (by omega), up_ne (by omega), up_ne (by omega)]
        exact th_e z1
      exact ⟨a1_w.trans b1.symm, cd.fr (fun o k a b => (lo_w o k (by omega) (by omega)).trans (hi_w o k (by omega))), rf.fr (funext fun k => (lo_w 188 k (by decide) (by decide)).trans (hi_w 188 k (by omega))) (funext fun k => (lo_w 189 k (by decide) (by decide)).trans (hi_w 189 k (by omega))) (funext fun k => (lo_w 190 k (by decide) (by decide)).trans (hi_w 190 k (by omega))), SM.see sm_w w1_w y8 a2 b2⟩
end DEED9
