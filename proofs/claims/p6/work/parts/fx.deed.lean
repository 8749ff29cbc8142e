/-! ===== move, undo on_w both_w sides ===== -/
section DEED7
variable {xs : Nat → Int} {L K n : Nat} {c d : Nat} {h h' h1 h2 : XH} {D : DD}
theorem move_k {m s t : Int} {r1_w r2 : List Int} (cd : CDw 6 D h) (rf : RF D h) (sm_w : SM D h) (e1_w : evF xs L g_ck K g_cW g_M n 9 [0, m, s, t] ((a_g3, c, d), h) = some (1, r1_w, ((a_g3, c, d), h1))) (e2_w : evF xs L g_ck K g_cW g_M n 267 [182, m, s, t] ((a_g3, c, d), h1) = some (1, r2, ((a_g3, c, d), h2))) : r1_w = r2 ∧ CDw 6 D h2 ∧ RF D h2 ∧ SM D h2 := by
  obtain ⟨w, w8, wc, wr_w⟩ := sm_w.pn
  obtain ⟨z9, z11, z12⟩ := sz_cd cd
  obtain ⟨y0, y2, y3, D0, D12, m6_w⟩ := sz_rf rf
  have c9 : CS43 9 [0, m, s, t] h (fun k r h' => k = 1 → (¬ okMv h m s t ∧ r = [-1] ∧ h' = h) ∨ (okMv h m s t ∧ ∃ x, KEP w m.toNat t.toNat 1 h x ∧ r = [h 74 (12 * m.toNat + t.toNat)] ∧ (∀ o k : Nat, o ≠ 74 → h' o k = x o k) ∧ ∀ k : Nat, h' 74 k = if 12 * m.toNat + t.toNat ≤ k ∧ k < 12 * m.toNat + 12 then s else x 74 k)) := by
    rw [cs43_9, kk_9]
    exact ⟨w, by omega, by omega, wc, w8, fun y _ => Or.inl ⟨y, rfl, rfl⟩, fun y x x2_w kx f1_w f2_w _ => Or.inr ⟨y, x, kx, rfl, f1_w, f2_w⟩⟩
  have q1_w := (snd_43 n _ _ _ _ _ c9 _ _ _ _ e1_w).2 rfl
  have hi_w : ∀ o k : Nat, 157 ≤ o → h1 o k = h o k := fun o k z => by
    rcases q1_w with ⟨-, -, e⟩ | ⟨-, x, kx, -, f1_w, -⟩
    · rw [e]
    · rw [f1_w o k (by omega)]
      exact kx.1 o k (by omega)
  have rf1 : RF D h1 := rf.fr (funext fun k => hi_w 188 k (by decide)) (funext fun k => hi_w 189 k (by decide)) (funext fun k => hi_w 190 k (by decide))
  have c267 : CS43 267 [182, m, s, t] h1 (fun k r h' => k = 1 → (¬ okMr h1 m s t ∧ r = [-1] ∧ h' = thz h1) ∨ (okMr h1 m s t ∧ ∃ x, RKP w (thz h1) x ∧ r = [h1 194 (78 + (12 * m.toNat + t.toNat))] ∧ (∀ o k : Nat, o ≠ 194 → h' o k = x o k) ∧ ∀ k : Nat, h' 194 k = if 78 + (12 * m.toNat + t.toNat) ≤ k ∧ k < 78 + (12 * m.toNat + 12) then s else x 194 k)) := by
    rw [cs43_267, kk_267]
    exact ⟨w, by rw [hi_w 188 3 (by decide)]; omega, by rw [hi_w 188 0 (by decide)]; omega, (hi_w 182 18 (by decide)).trans wr_w, w8, fun y _ => Or.inl ⟨y, rfl, rfl⟩, fun y x x2_w kx f1_w f2_w _ => Or.inr ⟨y, x, kx, rfl, f1_w, f2_w⟩⟩
  have q2_w := (snd_43 n _ _ _ _ _ c267 _ _ _ _ e2_w).2 rfl
  have ok : okMr h1 m s t ↔ okMv h m s t := by
    unfold okMr okMv
    rw [hi_w 188 0 (by decide), hi_w 188 2 (by decide), hi_w 188 3 (by decide), y0, y2, y3, z9, z11, z12]
  rcases q1_w with ⟨y, a1_w, a2⟩ | ⟨y, x, kx, a1_w, a2, a3⟩
  · rcases q2_w with ⟨-, b1, b2⟩ | ⟨y2, -⟩
    · subst a2
      subst b2
      exact ⟨a1_w.trans b1.symm, thz_k cd rf sm_w⟩
    · exact absurd (ok.mp y2) y
  · rcases q2_w with ⟨y2, -⟩ | ⟨-, x2_w, rk, b1, b2, b3⟩
    · exact absurd (ok.mpr y) y2
    · have y' := id y
      unfold okMv at y'
      refine ⟨?_, cd.fr (fun o k a b => ?_), rf1.fr ?_ ?_ ?_, SM.move sm_w wc (mn_w := m.toNat) (pn := t.toNat) (by omega) (by omega) kx a2 a3 rk b2 b3⟩
      · rw [a1_w, b1]
        have e := sm_w.2.2.1 (78 + (12 * m.toNat + t.toNat)) (Or.inr (Or.inl (by omega)))
        rw [cl_su (by omega) (by omega)] at e
        have e' : h 74 (78 + (12 * m.toNat + t.toNat) - 78) = h 194 (0 + (78 + (12 * m.toNat + t.toNat))) := e
        rw [Nat.add_sub_cancel_left, Nat.zero_add] at e'
        rw [e', hi_w 194 _ (by decide)]
      · rw [b2 o k (by omega), rk.1 o k (by omega) (by omega), th_e (by omega), a2 o k (by omega)]
        exact kx.1 o k (by omega)
      · exact funext fun k => by rw [b2 188 k (by decide), rk.1 188 k (by omega) (by omega), th_e (by decide)]
      · exact funext fun k => by rw [b2 189 k (by decide), rk.1 189 k (by omega) (by omega), th_e (by decide)]
      · exact funext fun k => by rw [b2 190 k (by decide), rk.1 190 k (by omega) (by omega), th_e (by decide)]
end DEED7
