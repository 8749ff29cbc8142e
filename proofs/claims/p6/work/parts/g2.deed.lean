/-! ===== run on_w both_w sides ===== -/
theorem rm_19 {m : Nat} (hm_w : m < 6) : (r_A 188).2.2[19 + m]? = some (73 + 3 * m, 76 + 3 * m, ((1 : Nat), (0 : Int), (3 : Int))) := by
  match m, hm_w with
  | 0, _ => rfl
  | 1, _ => rfl
  | 2, _ => rfl
  | 3, _ => rfl
  | 4, _ => rfl
  | 5, _ => rfl
section DEED8
variable {xs : Nat → Int} {L K n : Nat} {c d : Nat} {h h' h1 h2 : XH} {D : DD}
theorem iv03 {P : Int × Int} {u v : Int} (k : IV P (1, 0, u) v) : ∃ s : Nat, (s : Int) ≤ u ∧ v = (s : Int) := ⟨v.toNat, by have := k.1; have := k.2.1; omega, by have := k.1; omega⟩
theorem ruh_of (lq : LQ h) (rf : RF D h) : ∃ S U M r : Nat, RUH S U M r h ∧ D.1 = (S : Int) ∧ U = D.2.2.2.1.length ∧ M = nM D := by
  obtain ⟨P, hQ, -⟩ := lq
  obtain ⟨⟨-, a2, a3, -, a5, a6⟩, ⟨b1, b2, b3⟩, -⟩ := rf.ix
  obtain ⟨r, r4, er⟩ := iv03 (s_cell hQ (r := 3) (x := (162, 163, (1, 0, 4))) rfl (i := 162) (j := 0) (by decide) (by decide) (by decide))
  have e0 : (429 * 0 + 162 : Nat) = 162 := rfl
  rw [e0] at er
  refine ⟨D.1.toNat, _, nM D, r, ⟨by rw [b1]; omega, by omega, a2, a5, a3, a6, fun m z => ?_, fun q z1 z2 => ?_, er, by omega⟩, by omega, rfl, rfl⟩
  · have m6_w : m < 6 := by
      have : nM D ≤ 6 := a6
      omega
    obtain ⟨s, s3_w, es⟩ := iv03 (q_cell hQ (by decide) (rm_19 m6_w) rfl (i := 74 + 3 * m) (by dsimp only; omega) (by dsimp only; omega))
    exact ⟨s, by omega, es⟩
  · obtain ⟨s, s3_w, es⟩ := iv03 (s_cell hQ (r := 1) (x := (78, 150, (1, 0, 3))) rfl (i := q) (j := 0) z1 z2 (by decide))
    rw [Nat.mul_zero, Nat.zero_add] at es
    exact ⟨s, by omega, es⟩
theorem run_k {r1_w r2 : List Int} (cd : CDw 6 D h) (rf : RF D h) (sm_w : SM D h) (lq : LQ h) (e1_w : evF xs L g_ck K g_cW g_M n 11 [0] ((a_g3, c, d), h) = some (1, r1_w, ((a_g3, c, d), h1))) (e2_w : evF xs L g_ck K g_cW g_M n 271 [182] ((a_g3, c, d), h1) = some (1, r2, ((a_g3, c, d), h2))) : r1_w = r2 ∧ CDw 6 D h2 ∧ RF D h2 ∧ SM D h2 := by
  obtain ⟨w, w8, wc, wr_w⟩ := sm_w.pn
  obtain ⟨S, U, M, r, ru, -⟩ := ruh_of lq rf
  have er : h 194 162 = (r : Int) := ru.2.2.2.2.2.2.2.2.1
  have r4 : r ≤ 4 := ru.2.2.2.2.2.2.2.2.2
  have hr : h 70 10 = (r : Int) := by
    have e := sm_w.2.2.1 162 (Or.inr (Or.inr (Or.inr rfl)))
    rw [cl_ru (by omega)] at e
    have e' : h 70 10 = h 194 (0 + 162) := e
    rw [e', Nat.zero_add, er]
  have c11 : CS43 11 [0] h (fun k v h' => k = 1 → (r = 4 ∧ v = [-1] ∧ h' = h) ∨ (r < 4 ∧ ∃ x y, KEP w 0 0 3 h x ∧ FrW u3_W x y ∧ v = [(r : Int)] ∧ h' = j_up y 70 10 ((r + 1 : Nat) : Int))) := by
    rw [cs43_11, kk_11]
    exact ⟨w, r, wc, w8, hr, r4, fun y _ => Or.inl ⟨y, rfl, rfl⟩, fun y x z kx fz _ => Or.inr ⟨y, x, z, kx, fz, rfl, rfl⟩⟩
  have q1_w := (snd_43 n _ _ _ _ _ c11 _ _ _ _ e1_w).2 rfl
  have hi_w : ∀ o k : Nat, 178 ≤ o → h1 o k = h o k := fun o k z => by
    rcases q1_w with ⟨-, -, e⟩ | ⟨-, x, y, kx, fy, -, e⟩
    · rw [e]
    · rw [e, up_ne (by omega), u3_f fy (by omega)]
      exact kx.1 o k (by omega)
  have rf1 : RF D h1 := rf.fr (funext fun k => hi_w 188 k (by decide)) (funext fun k => hi_w 189 k (by decide)) (funext fun k => hi_w 190 k (by decide))
  have ru1 : RUH S U M r h1 := by
    obtain ⟨a1_w, a2, a3, a4, a5, a6, a7, a8, a9, a10⟩ := ru
    refine ⟨(hi_w 188 0 (by decide)).trans a1_w, a2, (hi_w 188 2 (by decide)).trans a3, a4, (hi_w 188 3 (by decide)).trans a5, a6, fun m z => ?_, fun q z1 z2 => ?_, (hi_w 194 162 (by decide)).trans a9, a10⟩
    · rw [hi_w 188 _ (by decide)]
      exact a7 m z
    · rw [hi_w 194 _ (by decide)]
      exact a8 q z1 z2
  have c271 : CS43 271 [182] h1 (fun k v h' => k = 1 → (r = 4 ∧ v = [-1] ∧ h' = thz h1) ∨ (r < 4 ∧ ∃ x, RKP w (thz h1) x ∧ Fr (m_W 270) x h' ∧ (∀ q : Nat, q < 162 ∨ 404 ≤ q → h' 194 q = x 194 q) ∧ h' 194 162 = ((r + 1 : Nat) : Int) ∧ v = [(r : Int)])) := by
    rw [cs43_271, kk_271]
    exact ⟨S, U, M, r, w, ru1, (hi_w 182 18 (by decide)).trans wr_w, w8, fun y _ => Or.inl ⟨y, rfl, rfl⟩, fun y x z kx f1_w f2_w f3_w _ => Or.inr ⟨y, x, kx, f1_w, f2_w, f3_w, rfl⟩⟩
  have q2_w := (snd_43 n _ _ _ _ _ c271 _ _ _ _ e2_w).2 rfl
  rcases q1_w with ⟨y, a1_w, a2⟩ | ⟨y, x, z, kx, fz, a1_w, a2⟩
  · rcases q2_w with ⟨-, b1, b2⟩ | ⟨y2, -⟩
    · subst a2
      subst b2
      exact ⟨a1_w.trans b1.symm, thz_k cd rf sm_w⟩
    · omega
  · rcases q2_w with ⟨y2, -⟩ | ⟨-, x2_w, rk, d1_w, d2_w, d3_w, b1⟩
    · omega
    · refine ⟨a1_w.trans b1.symm, cd.fr (fun o k a b => ?_), rf1.fr ?_ ?_ ?_, SM.run sm_w wc hr kx fz a2 rk d1_w d2_w d3_w⟩
      · rw [m270_f d1_w (by omega), rk.1 o k (by omega) (by omega), th_e (by omega), a2, up_ne (by omega), u3_f fz (by omega)]
        exact kx.1 o k (by omega)
      · exact (d1_w.row rfl (by decide)).trans (funext fun k => by rw [rk.1 188 k (by omega) (by omega), th_e (by decide)])
      · exact (d1_w.row rfl (by decide)).trans (funext fun k => by rw [rk.1 189 k (by omega) (by omega), th_e (by decide)])
      · exact (d1_w.row rfl (by decide)).trans (funext fun k => by rw [rk.1 190 k (by omega) (by omega), th_e (by decide)])
end DEED8
