/-! ===== deeds, grid, work, feed: what is_w laid_w down_w stays_w the same on_w both_w sides ===== -/
section ACZ
variable {xs : Nat → Int} {L K n : Nat} {c d : Nat} {h h' h1 h2 x x2_w : XH} {D : DD} {v : List Int}
theorem RWS.to {o o' : Nat} {b : Int} (r : RWS o o' b h x) (e : ∀ p q : Nat, o' ≤ p → p ≤ o' + 20 → h' p q = x p q) : RWS o o' b h h' := fun t ht => by
  obtain ⟨r1_w, r2, r3, r4⟩ := r t ht
  exact ⟨fun q hq => (e _ _ (by omega) (by omega)).trans (r1_w q hq), fun q hq => (e _ _ (by omega) (by omega)).trans (r2 q hq), fun q hq => (e _ _ (by omega) (by omega)).trans (r3 q hq), (e _ _ (by omega) (by omega)).trans r4⟩
theorem acc_lay {o cc g f : Nat} (a : ACC h) (hoc : (o = 112 ∧ cc = 429 ∧ g = 0) ∨ (o = 133 ∧ cc = 858 ∧ g = 1)) (lc : LCP o 70 h x) (e : h1 = j_up x 0 f 1) (f1_w : ∀ p k : Nat, ¬ (p = 194 ∧ cc ≤ k ∧ k < cc + 429) → x2_w p k = j_up (thz h1) 195 g 1 p k) (f2_w : ∀ q : Nat, q < 429 → x2_w 194 (cc + q) = h1 194 q) (f3_w : h2 = j_up x2_w 182 18 (x2_w 182 18)) : ACC h2 := by
  have lo2 : ∀ p q : Nat, p < 182 → p ≠ 0 → h2 p q = x p q := fun p q z y => by
    rw [f3_w, up_ne (by omega), f1_w p q (by omega), up_ne (by omega), th_e (by omega), e, up_ne (by omega)]
  have hi2 : ∀ p q : Nat, 188 ≤ p → p ≠ 195 → ¬ (p = 194 ∧ cc ≤ q ∧ q < cc + 429) → h2 p q = h p q := fun p q z y w => by
    rw [f3_w, up_ne (by omega), f1_w p q w, up_ne (by omega), th_e (by omega), e, up_ne (by omega), lc.1 p q (by omega)]
  have e18_w : h2 182 18 = h 182 18 := by
    rw [f3_w, up_eq, f1_w 182 18 (by omega), up_ne (by omega)]
    show j_up h1 182 0 0 182 18 = _
    rw [up_ne (by omega), e, up_ne (by omega), lc.1 182 18 (by omega)]
  have g5_w : ∀ k : Nat, k ≠ g → h2 195 k = h 195 k := fun k z => by
    rw [f3_w, up_ne (by omega), f1_w 195 k (by omega), up_ne (by omega), th_e (by omega), e, up_ne (by omega), lc.1 195 k (by omega)]
  have l4 := a.2.1.1
  rw [Nat.zero_add] at l4
  exact a.lay hoc ((lcp_rw lc l4).to (fun p q z1 z2 => lo2 p q (by omega) (by omega))) (fun p q z => (lo2 p q (by omega) (by omega)).trans (lc.1 p q (by omega))) (fun k _ => hi2 188 k (by decide) (by decide) (by omega)) (fun q _ z => hi2 194 q (by decide) (by decide) (by omega)) (fun q hq => by
    rw [f3_w, up_ne (by omega), f2_w q hq, e, up_ne (by omega), lc.1 194 q (by omega)]) e18_w (fun z => g5_w 0 (Ne.symm z)) (fun z => g5_w 1 (Ne.symm z))
theorem acc_bk {o cc g : Nat} (a : ACC h) (hoc : (o = 112 ∧ cc = 429 ∧ g = 0) ∨ (o = 133 ∧ cc = 858 ∧ g = 1)) (v : h 195 g ≠ 0) (lc : LCP 70 o h x) (e : h1 = j_up x 154 1 0) (f1_w : ∀ p k : Nat, ¬ (p = 194 ∧ k < 429) → x2_w p k = j_up (thz h1) 195 g 1 p k) (f2_w : ∀ q : Nat, q < 429 → x2_w 194 q = h1 194 (cc + q)) (f3_w : h2 = j_up x2_w 182 18 0) : ACC h2 := by
  have lo2 : ∀ p q : Nat, p < 182 → p ≠ 154 → h2 p q = x p q := fun p q z y => by
    rw [f3_w, up_ne (by omega), f1_w p q (by omega), up_ne (by omega), th_e (by omega), e, up_ne (by omega)]
  have hi2 : ∀ p q : Nat, 188 ≤ p → p ≠ 195 → ¬ (p = 194 ∧ q < 429) → h2 p q = h p q := fun p q z y w => by
    rw [f3_w, up_ne (by omega), f1_w p q w, up_ne (by omega), th_e (by omega), e, up_ne (by omega), lc.1 p q (by omega)]
  have g5_w : ∀ k : Nat, k ≠ g → h2 195 k = h 195 k := fun k z => by
    rw [f3_w, up_ne (by omega), f1_w 195 k (by omega), up_ne (by omega), th_e (by omega), e, up_ne (by omega), lc.1 195 k (by omega)]
  have l : LKQ o cc h := by
    rcases hoc with ⟨rfl, rfl, rfl⟩ | ⟨rfl, rfl, rfl⟩
    · exact a.2.2.2.2.1 v
    · exact a.2.2.2.2.2 v
  refine a.bk l ((lcp_rw lc l.1).to (fun p q z1 z2 => lo2 p q (by omega) (by omega))) (fun p q z1 z2 => (lo2 p q (by omega) (by omega)).trans (lc.1 p q (by omega))) (fun k _ => hi2 188 k (by decide) (by decide) (by omega)) (fun q z _ => hi2 194 q (by decide) (by decide) (by omega)) (fun q hq => by
    rw [f3_w, up_ne (by omega), f2_w q hq, e, up_ne (by omega), lc.1 194 (cc + q) (by omega)]) (by rw [f3_w]; exact up_eq) (fun z w => ?_) (fun z w => ?_)
  · by_cases t : g = 0
    · rw [t] at v
      exact absurd z v
    · exact absurd ((g5_w 0 (Ne.symm t)).trans z) w
  · by_cases t : g = 1
    · rw [t] at v
      exact absurd z v
    · exact absurd ((g5_w 1 (Ne.symm t)).trans z) w
theorem acc_mark {m b : Int} {r1_w r2 : List Int} (a : ACC h) (sm_w : SM D h) (hb_w : b = 0 ∨ b = 1) (e1_w : evF xs L g_ck K g_cW g_M n 48 [0, m, b] ((a_g3, c, d), h) = some (1, r1_w, ((a_g3, c, d), h1))) (e2_w : evF xs L g_ck K g_cW g_M n 311 [182, m, b] ((a_g3, c, d), h1) = some (1, r2, ((a_g3, c, d), h2))) : ACC h2 := by
  have q1_w := mark_c hb_w e1_w
  have hi_w : ∀ k : Nat, h1 195 k = h 195 k := fun k => by
    rcases q1_w with ⟨-, -, -, e⟩ | ⟨-, -, -, x, lc, e⟩ | ⟨-, -, -, x, lc, e⟩ | ⟨-, -, ⟨-, -, e⟩ | ⟨-, -, x, lc, e⟩⟩ | ⟨-, -, ⟨-, -, e⟩ | ⟨-, -, x, lc, e⟩⟩
    · rw [e]
    · rw [e, up_ne (by omega), lc.1 _ _ (by omega)]
    · rw [e, up_ne (by omega), lc.1 _ _ (by omega)]
    · rw [e]
    · rw [e, up_ne (by omega), lc.1 _ _ (by omega)]
    · rw [e]
    · rw [e, up_ne (by omega), lc.1 _ _ (by omega)]
  have mk0 := sm_w.2.2.2.2.2.1
  have mk1 := sm_w.2.2.2.2.2.2
  have q2_w := mark_r hb_w (by rw [hi_w]; exact mk0.1) (by rw [hi_w]; exact mk1.1) e2_w
  rcases q1_w with ⟨y1, y2, a1_w, e⟩ | ⟨rfl, rfl, a1_w, x, lc, e⟩ | ⟨rfl, rfl, a1_w, x, lc, e⟩ | ⟨rfl, rfl, ⟨z, a1_w, e⟩ | ⟨z, a1_w, x, lc, e⟩⟩ | ⟨rfl, rfl, ⟨z, a1_w, e⟩ | ⟨z, a1_w, x, lc, e⟩⟩
  · rcases q2_w with ⟨-, b1, b2⟩ | ⟨mn_w, u1, u2_w, -⟩
    · rw [b2, e]
      exact a.th
    · omega
  · rcases q2_w with ⟨u, -⟩ | ⟨mn_w, u1, u2_w, ⟨-, b1, x2_w, f1_w, f2_w, f3_w⟩ | ⟨u, -⟩ | ⟨u, -⟩⟩
    · omega
    · obtain rfl : mn_w = 0 := by omega
      exact acc_lay (o := 112) (cc := 429) (g := 0) a (Or.inl ⟨rfl, rfl, rfl⟩) lc e (fun p k z => f1_w p k (by omega)) (fun q z => f2_w q z) f3_w
    · exact absurd u (by decide)
    · exact absurd u (by decide)
  · rcases q2_w with ⟨u, -⟩ | ⟨mn_w, u1, u2_w, ⟨-, b1, x2_w, f1_w, f2_w, f3_w⟩ | ⟨u, -⟩ | ⟨u, -⟩⟩
    · omega
    · obtain rfl : mn_w = 1 := by omega
      exact acc_lay (o := 133) (cc := 858) (g := 1) a (Or.inr ⟨rfl, rfl, rfl⟩) lc e (fun p k z => f1_w p k (by omega)) (fun q z => f2_w q z) f3_w
    · exact absurd u (by decide)
    · exact absurd u (by decide)
  · rcases q2_w with ⟨u, -⟩ | ⟨mn_w, u1, u2_w, ⟨u, -⟩ | ⟨-, v, b1, b2⟩ | ⟨-, v, -⟩⟩
    · omega
    · exact absurd u (by decide)
    · rw [b2, e]
      exact a.th
    · obtain rfl : mn_w = 0 := by omega
      rw [hi_w] at v
      exact absurd (mk0.2.1.mp z) v
  · rcases q2_w with ⟨u, -⟩ | ⟨mn_w, u1, u2_w, ⟨u, -⟩ | ⟨-, v, -⟩ | ⟨-, v, b1, x2_w, f1_w, f2_w, f3_w⟩⟩
    · omega
    · exact absurd u (by decide)
    · obtain rfl : mn_w = 0 := by omega
      rw [hi_w] at v
      exact absurd (mk0.2.1.mpr v) z
    · obtain rfl : mn_w = 0 := by omega
      rw [hi_w] at v
      exact acc_bk (o := 112) (cc := 429) (g := 0) a (Or.inl ⟨rfl, rfl, rfl⟩) v lc e f1_w (fun q z => f2_w q z) f3_w
  · rcases q2_w with ⟨u, -⟩ | ⟨mn_w, u1, u2_w, ⟨u, -⟩ | ⟨-, v, b1, b2⟩ | ⟨-, v, -⟩⟩
    · omega
    · exact absurd u (by decide)
    · rw [b2, e]
      exact a.th
    · obtain rfl : mn_w = 1 := by omega
      rw [hi_w] at v
      exact absurd (mk1.2.1.mp z) v
  · rcases q2_w with ⟨u, -⟩ | ⟨mn_w, u1, u2_w, ⟨u, -⟩ | ⟨-, v, -⟩ | ⟨-, v, b1, x2_w, f1_w, f2_w, f3_w⟩⟩
    · omega
    · exact absurd u (by decide)
    · obtain rfl : mn_w = 1 := by omega
      rw [hi_w] at v
      exact absurd (mk1.2.1.mpr v) z
    · obtain rfl : mn_w = 1 := by omega
      rw [hi_w] at v
      exact acc_bk (o := 133) (cc := 858) (g := 1) a (Or.inr ⟨rfl, rfl, rfl⟩) v lc e f1_w (fun q z => f2_w q z) f3_w
theorem za_265 {m p q : Int} (hI : Inv5 h) (y : ACC h) (cw : CRW h h1) (u : RefU h h1) (e : evF xs L g_ck K g_cW g_M n 265 [182, m, p, q] ((a_g3, c, d), h1) = some (1, v, ((a_g3, c, d), h2))) : ACC h2 := by
  obtain ⟨D, cd, rf, sm_w⟩ := hI.2
  exact acc_265 (rf_u rf u) (y.u cw u) (sm_w.z18 u) e
theorem za_267 {m p q : Int} (hI : Inv5 h) (y : ACC h) (cw : CRW h h1) (u : RefU h h1) (e : evF xs L g_ck K g_cW g_M n 267 [182, m, p, q] ((a_g3, c, d), h1) = some (1, v, ((a_g3, c, d), h2))) : ACC h2 := by
  obtain ⟨D, cd, rf, sm_w⟩ := hI.2
  exact acc_267 (s12_u rf u) (by have z := sz_rf (rf_u rf u); omega) (y.u cw u) (sm_w.z18 u) e
theorem za_268 {m p : Int} (hI : Inv5 h) (y : ACC h) (cw : CRW h h1) (u : RefU h h1) (e : evF xs L g_ck K g_cW g_M n 268 [182, m, p] ((a_g3, c, d), h1) = some (1, v, ((a_g3, c, d), h2))) : ACC h2 := by
  obtain ⟨D, cd, rf, sm_w⟩ := hI.2
  exact acc_268 (s12_u rf u) (y.u cw u) (sm_w.z18 u) e
theorem za_272 (hI : Inv5 h) (y : ACC h) (cw : CRW h h1) (u : RefU h h1) (e : evF xs L g_ck K g_cW g_M n 272 [182] ((a_g3, c, d), h1) = some (1, v, ((a_g3, c, d), h2))) : ACC h2 := by
  obtain ⟨D, cd, rf, sm_w⟩ := hI.2
  exact acc_272 (y.u cw u) (sm_w.z18 u) e
theorem za_304 {t q : Int} {b : Bool} (hI : Inv5 h) (y : ACC h) (cw : CRW h h1) (u : RefU h h1) (e : evF xs L g_ck K g_cW g_M n 304 [182, t, q, j_b b] ((a_g3, c, d), h1) = some (1, v, ((a_g3, c, d), h2))) : ACC h2 := by
  obtain ⟨D, cd, rf, sm_w⟩ := hI.2
  obtain ⟨w, w8, -, w4_w, -⟩ := sm_w.2.2.2.1
  rw [Nat.zero_add] at w4_w
  exact acc_304 jb_01 (y.u cw u) (by rw [u 194 404 (by decide) (by decide), w4_w]; omega) (by rw [u 194 404 (by decide) (by decide), w4_w]; omega) e
theorem za_311 {m : Int} {b : Bool} {v1_w : List Int} (hI : Inv5 h) (y : ACC h) (e1_w : evF xs L g_ck K g_cW g_M n 48 [0, m, j_b b] ((a_g3, c, d), h) = some (1, v1_w, ((a_g3, c, d), h1))) (e : evF xs L g_ck K g_cW g_M n 311 [182, m, j_b b] ((a_g3, c, d), h1) = some (1, v, ((a_g3, c, d), h2))) : ACC h2 := by
  obtain ⟨D, cd, rf, sm_w⟩ := hI.2
  exact acc_mark y sm_w jb_01 e1_w e
/-- a run -/
theorem za_271 {v1_w : List Int} (hI : Inv5 h) (a : ACC h) (e1_w : evF xs L g_ck K g_cW g_M n 11 [0] ((a_g3, c, d), h) = some (1, v1_w, ((a_g3, c, d), h1))) (e2_w : evF xs L g_ck K g_cW g_M n 271 [182] ((a_g3, c, d), h1) = some (1, v, ((a_g3, c, d), h2))) : ACC h2 := by
  have lq := hI.1.1.2
  obtain ⟨D, cd, rf, sm_w⟩ := hI.2
  obtain ⟨w, w8, wc, wr_w⟩ := sm_w.pn
  obtain ⟨S, U, M, r, ru, -⟩ := ruh_of lq rf
  have er : h 194 162 = (r : Int) := ru.2.2.2.2.2.2.2.2.1
  have r4 : r ≤ 4 := ru.2.2.2.2.2.2.2.2.2
  have hr : h 70 10 = (r : Int) := by
    have e := sm_w.2.2.1 162 (Or.inr (Or.inr (Or.inr rfl)))
    rw [cl_ru (by omega)] at e
    have e' : h 70 10 = h 194 (0 + 162) := e
    rw [e', Nat.zero_add, er]
  have c11 : CS91 11 [0] h (fun k _ h' => k = 1 → (r = 4 ∧ h' = h) ∨ (r < 4 ∧ ∃ x y, KEP w 0 0 3 h x ∧ FRC r x y ∧ RUNC D r (cl 70 h) y ∧ h' = j_up y 70 10 ((r + 1 : Nat) : Int))) := by
    rw [cs91_11, kk_11c]
    exact ⟨D, w, r, setp_of cd rf sm_w lq, wc, w8, hr, r4, fun y _ => Or.inl ⟨y, rfl⟩, fun y x z kx fz rc _ => Or.inr ⟨y, x, z, kx, fz, rc, rfl⟩⟩
  have rs := rset_of rf sm_w lq
  rcases (snd_91 n _ _ _ _ _ c11 _ _ _ _ e1_w).2 rfl with ⟨y4, e⟩ | ⟨y4, x, y, kx, fc_w, rc, e⟩
  · rw [e] at e2_w
    have c271 : CS91 271 [182] h (fun k _ h' => k = 1 → h' = thz h) := by
      rw [cs91_271, kk_271c]
      exact ⟨D, w, r, rs, wr_w, w8, er, r4, fun _ _ => rfl, fun z => absurd z (by omega)⟩
    rw [(snd_91 n _ _ _ _ _ c271 _ _ _ _ e2_w).2 rfl]
    exact a.th
  · have hi_w : ∀ o k : Nat, 182 ≤ o → h1 o k = h o k := fun o k z => by
      rw [e, up_ne (by omega), fc_w.lof o k (by omega)]
      exact kx.1 o k (by omega)
    obtain ⟨rs1, -⟩ := rs.fr2 (h' := h1) (fun k => hi_w 188 k (by decide)) (fun k => hi_w 189 k (by decide)) (fun k => hi_w 190 k (by decide)) (fun q _ => hi_w 194 q (by decide))
    have c271 : CS91 271 [182] h1 (fun k _ h' => k = 1 → ∃ x y, RKP w (thz h1) x ∧ FRR r x y ∧ RUNR D r (bl 0 x) y ∧ h' = j_up y 194 162 ((r + 1 : Nat) : Int)) := by
      rw [cs91_271, kk_271c]
      exact ⟨D, w, r, rs1, (hi_w 182 18 (by decide)).trans wr_w, w8, (hi_w 194 162 (by decide)).trans er, r4, fun z => absurd z (by omega), fun _ x y k f g _ => ⟨x, y, k, f, g, rfl⟩⟩
    obtain ⟨x2_w, y2, k2, f2_w, g2, e3_w⟩ := (snd_91 n _ _ _ _ _ c271 _ _ _ _ e2_w).2 rfl
    exact acc_run a rf.w rf sm_w.2.2.1 (RGA_of lq sm_w.1 sm_w.2.1) wr_w er y4 (fun o q z1 z2 => kx.1 o q (by omega)) fc_w rc e k2 f2_w g2 e3_w
/-- grid, work, feed -/
theorem za_206 {v1_w : List Int} (hK2 : 20000000000 ≤ K) (hn : n + 41 < 99999) (hI : Inv5 h) (y : ACC h) (e1_w : evF xs L g_ck K g_cW g_M (n + 41) 2 [0] ((a_g3, c, d), h) = some (1, v1_w, ((a_g3, c, d), h1))) (e2_w : evF xs L g_ck K g_cW g_M (n + 41) 206 [182] ((a_g3, c, d), h1) = some (1, v, ((a_g3, c, d), h2))) : ACC h2 := by
  obtain ⟨hH, m0_w, m1_w, hm_w⟩ := hI.1.1.1
  obtain ⟨v', h1', q1_w, -, -, q4_w⟩ := grid_ok (xs := xs) (L := L) (K := K) (c := c) (d := d) (n := n + 40) (by omega) (by omega) hH
  have u : h1' = h1 := by
    have t := q1_w.symm.trans e1_w
    cases t
    rfl
  subst u
  have y1 : ACC h1' := y.u (crw_u8 (f := 2) (vs := [0]) (p := ([some [0]], some none)) rfl ⟨⟨0, by decide, rfl⟩, trivial⟩ e1_w) (fun o k a _ => q4_w o k a)
  have c206 : CS24 206 [182] h1' (fun k _ h' => k = 1 → CRW h1' h' → ACC h') := by
    rw [cs24_206, kk_206s]
    refine ⟨(h 2 1).toNat, by rw [q4_w 182 2 (Nat.le_refl _), hm_w]; omega, by omega, fun r h' ⟨N, S, P, V, _, b⟩ _ cr => ?_⟩
    rcases b with ⟨f, _, _, _, kf, k4, _, k5, k18, _⟩ | ⟨D, _, _, rf, bg⟩
    · exact y1.fr cr (fun k z => kf.1 k (by omega)) (fun q _ => congrFun k4 q) k18 (congrFun k5 0) (congrFun k5 1)
    · exact acc_begin rf bg
  obtain ⟨-, fr⟩ := fr_all (n + 41) 206 [182] _ _ _ _ _ _ (by decide) rfl (Or.inr rfl) e2_w
  exact (snd_24 (n + 41) _ _ _ _ _ c206 _ _ _ _ e2_w).2 rfl (fun x q z => fr x q (fun y => by omega) (fr_lo (by decide) (by omega)))
theorem za_214 {v1_w : List Int} (hK2 : 20000000000 ≤ K) (hn : n + 41 < 99999) (hI : Inv5 h) (y : ACC h) (e1_w : evF xs L g_ck K g_cW g_M (n + 41) 4 [0] ((a_g3, c, d), h) = some (1, v1_w, ((a_g3, c, d), h1))) (e2_w : evF xs L g_ck K g_cW g_M (n + 41) 214 [182] ((a_g3, c, d), h1) = some (1, v, ((a_g3, c, d), h2))) : ACC h2 := by
  obtain ⟨hH, m0_w, m1_w, hm_w⟩ := hI.1.1.1
  obtain ⟨v', h1', q1_w, -, -, q4_w⟩ := work_ok (xs := xs) (L := L) (K := K) (c := c) (d := d) (n := n + 40) (by omega) (by omega) hH
  have u : h1' = h1 := by
    have t := q1_w.symm.trans e1_w
    cases t
    rfl
  subst u
  have y1 : ACC h1' := y.u (crw_u8 (f := 4) (vs := [0]) (p := ([some [0]], some none)) rfl ⟨⟨0, by decide, rfl⟩, trivial⟩ e1_w) (fun o k a _ => q4_w o k a)
  obtain ⟨-, fr⟩ := fr_all (n + 41) 214 [182] _ _ _ _ _ _ (by decide) rfl (Or.inr rfl) e2_w
  exact y1.fr (fun x q z => fr x q (fun y => by omega) (fr_lo (by decide) (by omega))) (fun k _ => fr 188 k (fun z => absurd z (by decide)) (by decide)) (fun q _ => fr 194 q (fun z => absurd z (by decide)) (by decide)) (fr 182 18 (fun _ => by decide) (by decide)) (fr 195 0 (fun z => absurd z (by decide)) (by decide)) (fr 195 1 (fun z => absurd z (by decide)) (by decide))
theorem feed_18 {a b e : Int} {v1_w : List Int} (hK2 : 20000000000 ≤ K) (hI : Inv5 h) (e1_w : evF xs L g_ck K g_cW g_M (n + 41) 1 [0, a, b, e] ((a_g3, c, d), h) = some (1, v1_w, ((a_g3, c, d), h1))) (e2_w : evF xs L g_ck K g_cW g_M (n + 41) 183 [182, a, b, e] ((a_g3, c, d), h1) = some (1, v, ((a_g3, c, d), h2))) : h2 182 18 = h 182 18 := by
  obtain ⟨-, fr⟩ := fr_all (n + 41) 183 [182, a, b, e] _ _ _ _ _ _ (by decide) rfl (Or.inr rfl) e2_w
  rw [fr 182 18 (fun _ => rfl) rfl]
  obtain ⟨hH, m0_w, m1_w, hm_w⟩ := hI.1.1.1
  obtain ⟨x, w1_w, z1, w5⟩ := fqA (xs := xs) (L := L) (ck := g_ck) (cW := g_cW) (K := K) (n := n + 39) (a := a) (b := b) (c := e) (g := (a_g3, c, d)) (h := h) (by omega) fg_1 fg_2 fg_3 fg_4 (by decide) rfl ⟨m0_w, m1_w⟩
  have u1 : x = h1 := by
    have t := w1_w.symm.trans e1_w
    cases t
    rfl
  subst u1
  exact w5 (fun x => x 182 18 = h 182 18) (fun x m s p => by
    unfold upA
    split
    · have t2_w : (2 : Int).toNat = 2 := rfl
      have t3_w : (3 : Int).toNat = 3 := rfl
      rw [up_ne (fun z => by have := z.1; omega), up_ne (fun z => by have := z.1; omega)]
      exact p
    · exact p) rfl
theorem za_183 {a b e : Int} {v1_w : List Int} (hK2 : 20000000000 ≤ K) (hI : Inv5 h) (y : ACC h) (e1_w : evF xs L g_ck K g_cW g_M (n + 41) 1 [0, a, b, e] ((a_g3, c, d), h) = some (1, v1_w, ((a_g3, c, d), h1))) (e2_w : evF xs L g_ck K g_cW g_M (n + 41) 183 [182, a, b, e] ((a_g3, c, d), h1) = some (1, v, ((a_g3, c, d), h2))) : ACC h2 := by
  obtain ⟨v', h1', h2', q1_w, q2_w, -, q4_w⟩ := feed_i4 (xs := xs) (L := L) (K := K) (n := n + 39) (c := c) (d := d) (a := a) (b := b) (e := e) (by omega) hI.four
  have u : h1' = h1 := by
    have t := q1_w.symm.trans e1_w
    cases t
    rfl
  subst u
  have u : h2' = h2 := by
    have t := q2_w.symm.trans e2_w
    cases t
    rfl
  subst u
  have n8 := (feed_18 hK2 hI e1_w e2_w : h2' 182 18 = h 182 18)
  exact y.fr (fun x q z => q4_w x q (by omega) (by omega) (by omega) (by omega)) (fun k _ => q4_w 188 k (by decide) (by decide) (by decide) (by decide)) (fun q _ => q4_w 194 q (by decide) (by decide) (by decide) (by decide)) n8 (q4_w 195 0 (by decide) (by decide) (by decide) (by decide)) (q4_w 195 1 (by decide) (by decide) (by decide) (by decide))
end ACZ
def Inv7 (h : XH) : Prop := Inv5 h ∧ (RSU h ∧ ACC h)
theorem inv7_i0 : Inv7 i0 := by
  have a1_w : i0 188 2 = 0 := by decide +kernel
  have a2 : i0 188 0 = 0 := by decide +kernel
  have a3 : i0 182 18 = 0 := by decide +kernel
  have a4 : i0 194 (0 + 162) = 0 := by decide +kernel
  have a5 : i0 194 (0 + 355) = 0 := by decide +kernel
  have a9 : i0 195 0 = 0 := by decide +kernel
  have a10 : i0 195 1 = 0 := by decide +kernel
  exact ⟨inv6_i0.1, inv6_i0.2, ⟨by omega, by omega, by omega⟩, ⟨by omega, fun r u s hr => absurd hr (by omega), fun _ => a5, fun r hr => absurd hr (by omega)⟩, fun i hi_w => absurd hi_w (by omega), fun i j _ hj => absurd hj (by omega), fun y => absurd a9 y, fun y => absurd a10 y⟩
