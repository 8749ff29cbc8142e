/-! ===== total, move on_w both_w sides ===== -/
section DEED6
variable {xs : Nat → Int} {L K n : Nat} {c d : Nat} {h h' h1 h2 : XH} {D : DD}
/-- the sizes_w told_w on_w both_w sides -/
theorem sz_cd (cd : CDw 6 D h) : h 6 9 = D.1 ∧ h 6 11 = (D.2.2.2.1.length : Int) ∧ h 6 12 = (nM D : Int) := ⟨cd.2.1.1, cd.1.1.2.1, cd.1.1.2.2.1⟩
theorem sz_rf (rf : RF D h) : h 188 0 = D.1 ∧ h 188 2 = (D.2.2.2.1.length : Int) ∧ h 188 3 = (nM D : Int) ∧ 0 ≤ D.1 ∧ D.1 ≤ 12 ∧ nM D ≤ 6 := ⟨rf.ix.2.1.1, rf.ix.1.2.1, rf.ix.1.2.2.1, rf.ix.2.1.2.1, rf.ix.2.1.2.2, rf.ix.1.2.2.2.2.2⟩
theorem thz_k (cd : CDw 6 D h) (rf : RF D h) (sm_w : SM D h) : CDw 6 D (thz h) ∧ RF D (thz h) ∧ SM D (thz h) := by
  have z : ∀ o k : Nat, o ≠ 182 → thz h o k = h o k := fun o k a => th_e a
  exact ⟨cd.fr (fun o k a b => z o k (by omega)), rf.th, sm_w.fr ⟨z 0 13 (by decide), z 0 14 (by decide)⟩ (fun o k a b e => z o k (by omega)) (fun k _ => z 194 k (by decide)) (up_ne (by omega)) ⟨z 195 0 (by decide), z 195 1 (by decide)⟩⟩
theorem total_k {t u : Int} {r1_w r2 : List Int} (cd : CDw 6 D h) (rf : RF D h) (sm_w : SM D h) (e1_w : evF xs L g_ck K g_cW g_M n 10 [0, t, u] ((a_g3, c, d), h) = some (1, r1_w, ((a_g3, c, d), h1))) (e2_w : evF xs L g_ck K g_cW g_M n 268 [182, t, u] ((a_g3, c, d), h1) = some (1, r2, ((a_g3, c, d), h2))) : r1_w = r2 ∧ CDw 6 D h2 ∧ RF D h2 ∧ SM D h2 := by
  obtain ⟨w, w8, wc, wr_w⟩ := sm_w.pn
  obtain ⟨z9, -, -⟩ := sz_cd cd
  obtain ⟨y0, -, -, D0, D12, -⟩ := sz_rf rf
  have c10 : CS43 10 [0, t, u] h (fun k r h' => k = 1 → (¬ okTu h t u ∧ r = [-1] ∧ h' = h) ∨ (okTu h t u ∧ ∃ x, KEP w 0 t.toNat 2 h x ∧ r = [h 76 t.toNat] ∧ h' = j_up x 76 t.toNat u)) := by
    rw [cs43_10, kk_10s]
    exact ⟨w, by omega, wc, w8, fun y _ => Or.inl ⟨y, rfl, rfl⟩, fun y x kx _ => Or.inr ⟨y, x, kx, rfl, rfl⟩⟩
  have q1_w := (snd_43 n _ _ _ _ _ c10 _ _ _ _ e1_w).2 rfl
  have hi_w : ∀ o k : Nat, 157 ≤ o → h1 o k = h o k := fun o k z => by
    rcases q1_w with ⟨-, -, e⟩ | ⟨-, x, kx, -, e⟩
    · rw [e]
    · rw [e, up_ne (by omega)]
      exact kx.1 o k (by omega)
  have rf1 : RF D h1 := rf.fr (funext fun k => hi_w 188 k (by decide)) (funext fun k => hi_w 189 k (by decide)) (funext fun k => hi_w 190 k (by decide))
  have c268 : CS43 268 [182, t, u] h1 (fun k r h' => k = 1 → (¬ okTr h1 t u ∧ r = [-1] ∧ h' = thz h1) ∨ (okTr h1 t u ∧ ∃ x, RKP w (thz h1) x ∧ r = [h1 194 (150 + t.toNat)] ∧ h' = j_up x 194 (150 + t.toNat) u)) := by
    rw [cs43_268, kk_268]
    exact ⟨w, by rw [hi_w 188 0 (by decide)]; omega, (hi_w 182 18 (by decide)).trans wr_w, w8, fun y _ => Or.inl ⟨y, rfl, rfl⟩, fun y x kx _ => Or.inr ⟨y, x, kx, rfl, rfl⟩⟩
  have q2_w := (snd_43 n _ _ _ _ _ c268 _ _ _ _ e2_w).2 rfl
  have ok : okTr h1 t u ↔ okTu h t u := by
    unfold okTr okTu
    rw [hi_w 188 0 (by decide), y0, z9]
  rcases q1_w with ⟨y, a1_w, a2⟩ | ⟨y, x, kx, a1_w, a2⟩
  · rcases q2_w with ⟨-, b1, b2⟩ | ⟨y2, -⟩
    · subst a2
      subst b2
      exact ⟨a1_w.trans b1.symm, thz_k cd rf sm_w⟩
    · exact absurd (ok.mp y2) y
  · rcases q2_w with ⟨y2, -⟩ | ⟨-, x2_w, rk, b1, b2⟩
    · exact absurd (ok.mpr y) y2
    · have y' := id y
      unfold okTu at y'
      have hS_w : t.toNat < nS D := by
        unfold nS
        omega
      have s12 := sm_w.2.1
      refine ⟨?_, cd.fr (fun o k a b => ?_), rf1.fr ?_ ?_ ?_, SM.total sm_w wc hS_w kx a2 rk b2⟩
      · rw [a1_w, b1]
        have e := sm_w.2.2.1 (150 + t.toNat) (Or.inr (Or.inr (Or.inl (by omega))))
        rw [cl_fe (by omega) (by omega)] at e
        have e' : h 76 (150 + t.toNat - 150) = h 194 (0 + (150 + t.toNat)) := e
        rw [Nat.add_sub_cancel_left, Nat.zero_add] at e'
        rw [e', hi_w 194 _ (by decide)]
      · rw [b2, up_ne (by omega), rk.1 o k (by omega) (by omega), th_e (by omega), a2, up_ne (by omega)]
        exact kx.1 o k (by omega)
      · exact funext fun k => by rw [b2, up_ne (by omega), rk.1 188 k (by omega) (by omega), th_e (by decide)]
      · exact funext fun k => by rw [b2, up_ne (by omega), rk.1 189 k (by omega) (by omega), th_e (by decide)]
      · exact funext fun k => by rw [b2, up_ne (by omega), rk.1 190 k (by omega) (by omega), th_e (by decide)]
end DEED6
