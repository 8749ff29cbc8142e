/-! ===== deeds over Inv5: the answers_w are the same ===== -/
section DEED5
variable {xs : Nat → Int} {L K n : Nat} {c d : Nat} {h h' h1 h2 : XH} {D : DD}
theorem SM.pn (s : SM D h) : ∃ m : Nat, m ≤ 8 ∧ h 154 1 = (m : Int) ∧ h 182 18 = (m : Int) := by
  obtain ⟨-, -, -, -, ⟨m, s3_w⟩, -⟩ := s
  exact ⟨m, s3_w.1, s3_w.2.1, s3_w.2.2.1⟩
/-- how a reading_w by hand_w goes_w on_w both_w sides -/
theorem read_k {m p v : Int} {r1_w r2 : List Int} (cd : CDw 6 D h) (rf : RF D h) (sm_w : SM D h) (e1_w : evF xs L g_ck K g_cW g_M n 8 [0, m, p, v] ((a_g3, c, d), h) = some (1, r1_w, ((a_g3, c, d), h1))) (e2_w : evF xs L g_ck K g_cW g_M n 265 [182, m, p, v] ((a_g3, c, d), h1) = some (1, r2, ((a_g3, c, d), h2))) : r1_w = r2 ∧ CDw 6 D h2 ∧ RF D h2 ∧ SM D h2 := by
  obtain ⟨w, w8, wc, wr_w⟩ := sm_w.pn
  have c8 : CS43 8 [0, m, p, v] h (fun k r h' => k = 1 → (¬ okR D m p v ∧ r = [-2] ∧ h' = h) ∨ (okR D m p v ∧ ∃ x, KEP w m.toNat p.toNat 0 h x ∧ r = [h 72 (13 * m.toNat + p.toNat)] ∧ h' = j_up x 72 (13 * m.toNat + p.toNat) v)) := by
    rw [cs43_8, kk_8]
    exact ⟨D, w, cd, wc, w8, fun y _ => Or.inl ⟨y, rfl, rfl⟩, fun y x kx _ => Or.inr ⟨y, x, kx, rfl, rfl⟩⟩
  have q1_w := (snd_43 n _ _ _ _ _ c8 _ _ _ _ e1_w).2 rfl
  have hi_w : ∀ o k : Nat, 157 ≤ o → h1 o k = h o k := fun o k z => by
    rcases q1_w with ⟨-, -, e⟩ | ⟨-, x, kx, -, e⟩
    · rw [e]
    · rw [e, up_ne (by omega)]
      exact kx.1 o k (by omega)
  have rf1 : RF D h1 := rf.fr (funext fun k => hi_w 188 k (by decide)) (funext fun k => hi_w 189 k (by decide)) (funext fun k => hi_w 190 k (by decide))
  have c265 : CS43 265 [182, m, p, v] h1 (fun k r h' => k = 1 → (¬ okR D m p v ∧ r = [-2] ∧ h' = thz h1) ∨ (okR D m p v ∧ ∃ x, RKP w (thz h1) x ∧ r = [h1 194 (13 * m.toNat + p.toNat)] ∧ h' = j_up x 194 (13 * m.toNat + p.toNat) v)) := by
    rw [cs43_265, kk_265]
    exact ⟨D, w, rf1, (hi_w 182 18 (by decide)).trans wr_w, w8, fun y _ => Or.inl ⟨y, rfl, rfl⟩, fun y x kx _ => Or.inr ⟨y, x, kx, rfl, rfl⟩⟩
  have q2_w := (snd_43 n _ _ _ _ _ c265 _ _ _ _ e2_w).2 rfl
  rcases q1_w with ⟨y, a1_w, a2⟩ | ⟨y, x, kx, a1_w, a2⟩
  · rcases q2_w with ⟨-, b1, b2⟩ | ⟨y2, -⟩
    · subst a2
      subst b2
      have z : ∀ o k : Nat, o ≠ 182 → thz h1 o k = h1 o k := fun o k a => th_e a
      exact ⟨a1_w.trans b1.symm, cd.fr (fun o k a b => z o k (by omega)), rf.th, sm_w.fr ⟨z 0 13 (by decide), z 0 14 (by decide)⟩ (fun o k a b e => z o k (by omega)) (fun k _ => z 194 k (by decide)) (up_ne (by omega)) ⟨z 195 0 (by decide), z 195 1 (by decide)⟩⟩
    · exact absurd y2 y
  · rcases q2_w with ⟨y2, -⟩ | ⟨-, x2_w, rk, b1, b2⟩
    · exact absurd y y2
    · have l12 := lp_le cd (m := m)
      have y' := id y
      unfold okR at y'
      have hm_w : m.toNat < nM D := by
        show m.toNat < D.2.2.2.2.1.length
        omega
      have hp : p.toNat < 13 := by omega
      have m6_w := sm_w.1
      refine ⟨?_, cd.fr (fun o k a b => ?_), rf1.fr ?_ ?_ ?_, SM.read sm_w wc hm_w hp kx a2 rk b2⟩
      · rw [a1_w, b1]
        have e := sm_w.2.2.1 (13 * m.toNat + p.toNat) (Or.inl (by omega))
        rw [cl_lo (by omega)] at e
        have e' : h 72 (13 * m.toNat + p.toNat) = h 194 (0 + (13 * m.toNat + p.toNat)) := e
        rw [e', Nat.zero_add, hi_w 194 _ (by decide)]
      · rw [b2, up_ne (by omega), rk.1 o k (by omega) (by omega), th_e (by omega), a2, up_ne (by omega)]
        exact kx.1 o k (by omega)
      · exact funext fun k => by rw [b2, up_ne (by omega), rk.1 188 k (by omega) (by omega), th_e (by decide)]
      · exact funext fun k => by rw [b2, up_ne (by omega), rk.1 189 k (by omega) (by omega), th_e (by decide)]
      · exact funext fun k => by rw [b2, up_ne (by omega), rk.1 190 k (by omega) (by omega), th_e (by decide)]
end DEED5
