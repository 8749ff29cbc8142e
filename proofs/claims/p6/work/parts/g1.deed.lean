/-! ===== mark_w on_w both_w sides, the state_w alike_w ===== -/
section DEED11
variable {xs : Nat → Int} {L K n : Nat} {c d : Nat} {h h' h1 h2 x x2_w : XH} {D : DD} {b : Nat}
theorem fr_k (cd : CDw 6 D h) (rf : RF D h) (a : ∀ o k : Nat, 6 ≤ o → o ≤ 24 → h2 o k = h o k) (e : ∀ o k : Nat, 188 ≤ o → o ≤ 190 → h2 o k = h o k) : CDw 6 D h2 ∧ RF D h2 := ⟨cd.fr a, rf.fr (funext fun k => e 188 k (by decide) (by decide)) (funext fun k => e 189 k (by decide) (by decide)) (funext fun k => e 190 k (by decide) (by decide))⟩
theorem mark_k {m b : Int} {r1_w r2 : List Int} (cd : CDw 6 D h) (rf : RF D h) (sm_w : SM D h) (hb_w : b = 0 ∨ b = 1) (e1_w : evF xs L g_ck K g_cW g_M n 48 [0, m, b] ((a_g3, c, d), h) = some (1, r1_w, ((a_g3, c, d), h1))) (e2_w : evF xs L g_ck K g_cW g_M n 311 [182, m, b] ((a_g3, c, d), h1) = some (1, r2, ((a_g3, c, d), h2))) : r1_w = r2 ∧ CDw 6 D h2 ∧ RF D h2 ∧ SM D h2 := by
  have q1_w := mark_c hb_w e1_w
  have hi_w : ∀ k : Nat, h1 195 k = h 195 k := fun k => by
    rcases q1_w with ⟨-, -, -, e⟩ | ⟨-, -, -, x, lc, e⟩ | ⟨-, -, -, x, lc, e⟩ | ⟨-, -, ⟨-, -, e⟩ | ⟨-, -, x, lc, e⟩⟩ | ⟨-, -, ⟨-, -, e⟩ | ⟨-, -, x, lc, e⟩⟩
    · rw [e]
    · rw [e, up_ne (by omega), lc.1 _ _ (by omega)]
    · rw [e, up_ne (by omega), lc.1 _ _ (by omega)]
    · rw [e]
    · rw [e, up_ne (by omega), lc.1 _ _ (by omega)]
    · rw [e]
    · rw [e, up_ne (by omega), lc.1 _ _ (by omega)]
  have mk0 := sm_w.2.2.2.2.2.1
  have mk1 := sm_w.2.2.2.2.2.2
  have q2_w := mark_r hb_w (by rw [hi_w]; exact mk0.1) (by rw [hi_w]; exact mk1.1) e2_w
  rcases q1_w with ⟨y1, y2, a1_w, e⟩ | ⟨rfl, rfl, a1_w, x, lc, e⟩ | ⟨rfl, rfl, a1_w, x, lc, e⟩ | ⟨rfl, rfl, ⟨z, a1_w, e⟩ | ⟨z, a1_w, x, lc, e⟩⟩ | ⟨rfl, rfl, ⟨z, a1_w, e⟩ | ⟨z, a1_w, x, lc, e⟩⟩
  · rcases q2_w with ⟨-, b1, b2⟩ | ⟨mn_w, u1, u2_w, -⟩
    · subst e
      subst b2
      exact ⟨a1_w.trans b1.symm, thz_k cd rf sm_w⟩
    · omega
  · rcases q2_w with ⟨u, -⟩ | ⟨mn_w, u1, u2_w, ⟨-, b1, x2_w, f1_w, f2_w, f3_w⟩ | ⟨u, -⟩ | ⟨u, -⟩⟩
    · omega
    · obtain rfl : mn_w = 0 := by omega
      obtain ⟨k1_w, k2⟩ := fr_k (h2 := h2) cd rf (fun o k a b => by rw [f3_w, up_ne (by omega), f1_w o k (by omega), up_ne (by omega), th_e (by omega), e, up_ne (by omega), lc.1 o k (by omega)]) (fun o k a b => by rw [f3_w, up_ne (by omega), f1_w o k (by omega), up_ne (by omega), th_e (by omega), e, up_ne (by omega), lc.1 o k (by omega)])
      exact ⟨a1_w.trans b1.symm, k1_w, k2, SM.lay0 sm_w lc e f1_w f2_w f3_w⟩
    · exact absurd u (by decide)
    · exact absurd u (by decide)
  · rcases q2_w with ⟨u, -⟩ | ⟨mn_w, u1, u2_w, ⟨-, b1, x2_w, f1_w, f2_w, f3_w⟩ | ⟨u, -⟩ | ⟨u, -⟩⟩
    · omega
    · obtain rfl : mn_w = 1 := by omega
      obtain ⟨k1_w, k2⟩ := fr_k (h2 := h2) cd rf (fun o k a b => by rw [f3_w, up_ne (by omega), f1_w o k (by omega), up_ne (by omega), th_e (by omega), e, up_ne (by omega), lc.1 o k (by omega)]) (fun o k a b => by rw [f3_w, up_ne (by omega), f1_w o k (by omega), up_ne (by omega), th_e (by omega), e, up_ne (by omega), lc.1 o k (by omega)])
      exact ⟨a1_w.trans b1.symm, k1_w, k2, SM.lay1 sm_w lc e f1_w f2_w f3_w⟩
    · exact absurd u (by decide)
    · exact absurd u (by decide)
  · rcases q2_w with ⟨u, -⟩ | ⟨mn_w, u1, u2_w, ⟨u, -⟩ | ⟨-, v, b1, b2⟩ | ⟨-, v, -⟩⟩
    · omega
    · exact absurd u (by decide)
    · subst e
      subst b2
      exact ⟨a1_w.trans b1.symm, thz_k cd rf sm_w⟩
    · obtain rfl : mn_w = 0 := by omega
      rw [hi_w] at v
      exact absurd (mk0.2.1.mp z) v
  · rcases q2_w with ⟨u, -⟩ | ⟨mn_w, u1, u2_w, ⟨u, -⟩ | ⟨-, v, -⟩ | ⟨-, v, b1, x2_w, f1_w, f2_w, f3_w⟩⟩
    · omega
    · exact absurd u (by decide)
    · obtain rfl : mn_w = 0 := by omega
      rw [hi_w] at v
      exact absurd (mk0.2.1.mpr v) z
    · obtain rfl : mn_w = 0 := by omega
      rw [hi_w] at v
      obtain ⟨k1_w, k2⟩ := fr_k (h2 := h2) cd rf (fun o k a b => by rw [f3_w, up_ne (by omega), f1_w o k (by omega), up_ne (by omega), th_e (by omega), e, up_ne (by omega), lc.1 o k (by omega)]) (fun o k a b => by rw [f3_w, up_ne (by omega), f1_w o k (by omega), up_ne (by omega), th_e (by omega), e, up_ne (by omega), lc.1 o k (by omega)])
      exact ⟨a1_w.trans b1.symm, k1_w, k2, SM.back sm_w (Or.inl ⟨rfl, rfl, rfl, rfl⟩) v lc e f1_w f2_w f3_w⟩
  · rcases q2_w with ⟨u, -⟩ | ⟨mn_w, u1, u2_w, ⟨u, -⟩ | ⟨-, v, b1, b2⟩ | ⟨-, v, -⟩⟩
    · omega
    · exact absurd u (by decide)
    · subst e
      subst b2
      exact ⟨a1_w.trans b1.symm, thz_k cd rf sm_w⟩
    · obtain rfl : mn_w = 1 := by omega
      rw [hi_w] at v
      exact absurd (mk1.2.1.mp z) v
  · rcases q2_w with ⟨u, -⟩ | ⟨mn_w, u1, u2_w, ⟨u, -⟩ | ⟨-, v, -⟩ | ⟨-, v, b1, x2_w, f1_w, f2_w, f3_w⟩⟩
    · omega
    · exact absurd u (by decide)
    · obtain rfl : mn_w = 1 := by omega
      rw [hi_w] at v
      exact absurd (mk1.2.1.mpr v) z
    · obtain rfl : mn_w = 1 := by omega
      rw [hi_w] at v
      obtain ⟨k1_w, k2⟩ := fr_k (h2 := h2) cd rf (fun o k a b => by rw [f3_w, up_ne (by omega), f1_w o k (by omega), up_ne (by omega), th_e (by omega), e, up_ne (by omega), lc.1 o k (by omega)]) (fun o k a b => by rw [f3_w, up_ne (by omega), f1_w o k (by omega), up_ne (by omega), th_e (by omega), e, up_ne (by omega), lc.1 o k (by omega)])
      exact ⟨a1_w.trans b1.symm, k1_w, k2, SM.back sm_w (Or.inr ⟨rfl, rfl, rfl, rfl⟩) v lc e f1_w f2_w f3_w⟩
end DEED11
