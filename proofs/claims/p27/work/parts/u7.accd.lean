/-! ===== deeds keep_w what is_w laid_w down_w the same on_w both_w sides ===== -/
theorem u4_a : ∀ o k : Nat, 78 ≤ o → o ≤ 84 → aW u4_W o k = false := aW_out (by decide) (by decide)
theorem u4_b : ∀ o k : Nat, 112 ≤ o → o ≤ 153 → aW u4_W o k = false := aW_out (by decide) (by decide)
theorem u4_c : ∀ o k : Nat, 52 ≤ o → o ≤ 60 → aW u4_W o k = false := aW_out (by decide) (by decide)
theorem u8_a : ∀ o k : Nat, 78 ≤ o → o ≤ 153 → aW u8_W o k = false ∨ o = 154 := fun o k a b => Or.inl (aW_out (by decide) (by decide) o k a b)
section ACD
variable {xs : Nat → Int} {L K n : Nat} {c d : Nat} {h h' h1 h2 x y : XH} {D : DD} {v : List Int} {w : Nat}
theorem clw_u4 {f : Nat} {p : List AVs × Option AVs} (ep : u4_T f = some p) {vs r : List Int} (la : LsA p.1 vs) {k : Nat} {g' : XS × Nat × Nat} (e : evF xs L g_ck K g_cW g_M n f vs ((a_g3, c, d), h) = some (k, r, (g', h1))) : CLW h h1 := by
  have t : FrW u4_W h h1 := (snd_u4 n (c, d) f vs h (fun _ _ x => FrW u4_W h x) ⟨p, ep, la, fun _ _ a _ => a, fun _ _ a => a⟩ k r g' h1 e).2
  exact fun x q a => t x q (by
    rcases a with a | a | a
    · exact u4_a x q a.1 a.2
    · exact u4_b x q a.1 a.2
    · exact u4_c x q a.1 a.2)
theorem crw_u8 {f : Nat} {p : List AVs × Option AVs} (ep : u8_T f = some p) {vs r : List Int} (la : LsA p.1 vs) {k : Nat} {g' : XS × Nat × Nat} (e : evF xs L g_ck K g_cW g_M n f vs ((a_g3, c, d), h) = some (k, r, (g', h1))) : CRW h h1 := by
  have t : FrW u8_W h h1 := (snd_u8 n (c, d) f vs h (fun _ _ x => FrW u8_W h x) ⟨p, ep, la, fun _ _ a _ => a, fun _ _ a => a⟩ k r g' h1 e).2
  exact fun x q a => t x q ((u8_a x q (by omega) (by omega)).resolve_right (by omega))
theorem ACC.u (a : ACC h) (cw : CRW h h1) (u : RefU h h1) : ACC h1 := a.fr cw (fun k _ => u 188 k (by decide) (by decide)) (fun q _ => u 194 q (by decide) (by decide)) (u 182 18 (by decide) (by decide)) (u 195 0 (by decide) (by decide)) (u 195 1 (by decide) (by decide))
theorem CLW.crw (cw : CLW h h1) : CRW h h1 := fun x q a => cw x q (by omega)
theorem ACC.push2 (a : ACC h) (hw : h 182 18 = (w : Int)) (kx : RKP w (thz h) x) (lo_w : ∀ o q : Nat, o < 182 → h' o q = h o q) (e8 : ∀ k : Nat, k < 4 → h' 188 k = x 188 k) (e4_w : ∀ k : Nat, 404 ≤ k → k < 4719 → h' 194 k = x 194 k) (e2_w : h' 182 18 = x 182 18) (e5_w : ∀ k : Nat, h' 195 k = x 195 k) (c0 : ∀ q : Nat, 162 ≤ q → q < 404 → h' 194 q = h 194 q) : ACC h' := by
  have r70 : ∀ b, RWS 70 70 b h h' := fun b => RWS.all (fun x q a => lo_w x q (by omega))
  have f8_w : ∀ k : Nat, k < 4 → h' 188 k = h 188 k := fun k z => (e8 k z).trans ((kx.1 188 k (by omega) (by omega)).trans (th_e (by decide)))
  refine a.push hw kx e8 e4_w e2_w e5_w (fun x q _ _ => lo_w x q (by omega)) (r70 _) (by rw [c0 162 (by decide) (by decide)]; exact Int.le_refl _) (a.2.1.fr a.1.1 a.1.2.1 f8_w (fun q p1_w p2_w => ?_) (r70 _))
  rw [Nat.zero_add]
  exact c0 q p1_w p2_w
theorem kx_lo (kx : RKP w (thz h) x) (o q : Nat) (z : o < 182) : x o q = h o q := (kx.1 o q (by omega) (by omega)).trans (th_e (by omega))
theorem kx_194 (kx : RKP w (thz h) x) (q : Nat) (z : q < 1287) : x 194 q = h 194 q := (kx.1 194 q (by omega) (by omega)).trans (th_e (by decide))
theorem acc_265 {m p u : Int} (rf : RF D h) (r : ACC h) (h0 : 0 ≤ h 182 18) (e : evF xs L g_ck K g_cW g_M n 265 [182, m, p, u] ((a_g3, c, d), h) = some (1, v, ((a_g3, c, d), h2))) : ACC h2 := by
  obtain ⟨w, hw⟩ : ∃ w : Nat, h 182 18 = (w : Int) := ⟨(h 182 18).toNat, by omega⟩
  have w8 : w ≤ 8 := by
    have := r.1.2.2
    omega
  have l6 : D.2.2.2.2.1.length ≤ 6 := rf.ix.1.2.2.2.2.2
  have l12 := lp_lr rf (m := m)
  have cc : CS43 265 [182, m, p, u] h (fun k _ h' => k = 1 → ACC h') := by
    rw [cs43_265, kk_265]
    refine ⟨D, w, rf, hw, w8, fun _ _ => r.th, fun y x kx _ => ?_⟩
    unfold okR at y
    exact r.push2 hw kx (fun o q z => (up_ne (by omega)).trans (kx_lo kx o q z)) (fun k _ => up_ne (by omega)) (fun k a b => up_ne (by omega)) (up_ne (by omega)) (fun k => up_ne (by omega)) (fun q a b => (up_ne (by omega)).trans (kx_194 kx q (by omega)))
  exact (snd_43 n _ _ _ _ _ cc _ _ _ _ e).2 rfl
theorem acc_267 {m s t : Int} (s12 : h 188 0 ≤ 12) (m6_w : h 188 3 ≤ 6) (r : ACC h) (h0 : 0 ≤ h 182 18) (e : evF xs L g_ck K g_cW g_M n 267 [182, m, s, t] ((a_g3, c, d), h) = some (1, v, ((a_g3, c, d), h2))) : ACC h2 := by
  obtain ⟨w, hw⟩ : ∃ w : Nat, h 182 18 = (w : Int) := ⟨(h 182 18).toNat, by omega⟩
  have w8 : w ≤ 8 := by
    have := r.1.2.2
    omega
  have cc : CS43 267 [182, m, s, t] h (fun k _ h' => k = 1 → ACC h') := by
    rw [cs43_267, kk_267]
    refine ⟨w, m6_w, s12, hw, w8, fun _ _ => r.th, fun y x h' kx f1_w f2_w _ => ?_⟩
    unfold okMr at y
    refine r.push2 hw kx (fun o q z => (f1_w o q (by omega)).trans (kx_lo kx o q z)) (fun k _ => f1_w 188 k (by decide)) (fun k a b => ?_) (f1_w 182 18 (by decide)) (fun k => f1_w 195 k (by decide)) (fun q a b => ?_)
    · rw [f2_w k, if_neg (by omega)]
    · rw [f2_w q, if_neg (by omega)]
      exact kx_194 kx q (by omega)
  exact (snd_43 n _ _ _ _ _ cc _ _ _ _ e).2 rfl
theorem acc_268 {t u : Int} (s12 : h 188 0 ≤ 12) (r : ACC h) (h0 : 0 ≤ h 182 18) (e : evF xs L g_ck K g_cW g_M n 268 [182, t, u] ((a_g3, c, d), h) = some (1, v, ((a_g3, c, d), h2))) : ACC h2 := by
  obtain ⟨w, hw⟩ : ∃ w : Nat, h 182 18 = (w : Int) := ⟨(h 182 18).toNat, by omega⟩
  have w8 : w ≤ 8 := by
    have := r.1.2.2
    omega
  have cc : CS43 268 [182, t, u] h (fun k _ h' => k = 1 → ACC h') := by
    rw [cs43_268, kk_268]
    refine ⟨w, s12, hw, w8, fun _ _ => r.th, fun y x kx _ => ?_⟩
    unfold okTr at y
    exact r.push2 hw kx (fun o q z => (up_ne (by omega)).trans (kx_lo kx o q z)) (fun k _ => up_ne (by omega)) (fun k a b => up_ne (by omega)) (up_ne (by omega)) (fun k => up_ne (by omega)) (fun q a b => (up_ne (by omega)).trans (kx_194 kx q (by omega)))
  exact (snd_43 n _ _ _ _ _ cc _ _ _ _ e).2 rfl
theorem acc_272 (r : ACC h) (h0 : 0 ≤ h 182 18) (e : evF xs L g_ck K g_cW g_M n 272 [182] ((a_g3, c, d), h) = some (1, v, ((a_g3, c, d), h2))) : ACC h2 := by
  obtain ⟨w, hw⟩ : ∃ w : Nat, h 182 18 = (w : Int) := ⟨(h 182 18).toNat, by omega⟩
  have w8 : w ≤ 8 := by
    have := r.1.2.2
    omega
  have cc : CS43 272 [182] h (fun k _ h' => k = 1 → ACC h') := by
    rw [cs43_272, kk_272]
    refine ⟨w, hw, w8, fun _ _ => r.th, fun m em h' f1_w f2_w f3_w _ => ?_⟩
    obtain ⟨⟨u4_w, s12, n8⟩, l0, li, lm, k0_w, k1_w⟩ := r
    have f0_w : ∀ o k : Nat, o ≠ 182 → ¬ (o = 194 ∧ k < 404) → h' o k = h o k := fun o k a b => (f1_w o k b (by omega)).trans (th_e a)
    have f8_w : ∀ k : Nat, k < 4 → h' 188 k = h 188 k := fun k _ => f0_w 188 k (by decide) (by omega)
    have f4_w : ∀ k : Nat, 404 ≤ k → h' 194 k = h 194 k := fun k a => f0_w 194 k (by decide) (by omega)
    have r70 : ∀ b, RWS 70 70 b h h' := fun b => RWS.all (fun x q a => f0_w x q (by omega) (by omega))
    obtain ⟨lm1, -⟩ := li m (by omega)
    refine ⟨⟨by rw [f8_w 2 (by decide)]; exact u4_w, by rw [f8_w 0 (by decide)]; exact s12, by omega⟩, lm1.fr u4_w s12 f8_w (fun q _ b => ?_) (r70 _), fun i hi_w => ?_, fun i j ij hj => ?_, fun y => ?_, fun y => ?_⟩
    · rw [Nat.zero_add]
      exact f3_w q b
    · rw [f4_w _ (by omega), f3_w 162 (by decide)]
      exact ⟨(li i (by omega)).1.fr u4_w s12 f8_w (fun q _ _ => f4_w _ (by omega)) (r70 _), lm i m (by omega) (by omega)⟩
    · rw [f4_w _ (by omega), f4_w _ (by omega)]
      exact lm i j ij (by omega)
    · rw [f0_w 195 0 (by decide) (by omega)] at y
      exact (k0_w y).fr u4_w s12 f8_w (fun q _ _ => f4_w _ (by omega)) (RWS.all (fun x q a => f0_w x q (by omega) (by omega)))
    · rw [f0_w 195 1 (by decide) (by omega)] at y
      exact (k1_w y).fr u4_w s12 f8_w (fun q _ _ => f4_w _ (by omega)) (RWS.all (fun x q a => f0_w x q (by omega) (by omega)))
  exact (snd_43 n _ _ _ _ _ cc _ _ _ _ e).2 rfl
/-- cells_w that aren't of what was laid_w down_w -/
theorem ACC.see (a : ACC h) (lo_w : ∀ o q : Nat, o < 182 → h' o q = h o q) (e8 : ∀ k : Nat, k < 4 → h' 188 k = h 188 k) (z : ∀ q : Nat, q < 404 ∨ 429 ≤ q → h' 194 q = h 194 q) (u : h' 182 18 = h 182 18) (m0_w : h' 195 0 = h 195 0) (m1_w : h' 195 1 = h 195 1) : ACC h' := by
  obtain ⟨⟨u4_w, s12, n8⟩, l0, li, lm, k0_w, k1_w⟩ := a
  have r70 : ∀ b, RWS 70 70 b h h' := fun b => RWS.all (fun x q a => lo_w x q (by omega))
  refine ⟨⟨by rw [e8 2 (by decide)]; exact u4_w, by rw [e8 0 (by decide)]; exact s12, by rw [u]; exact n8⟩, l0.fr u4_w s12 e8 (fun q _ _ => z _ (by omega)) (r70 _), fun i hi_w => ?_, fun i j ij hj => ?_, fun y => ?_, fun y => ?_⟩
  · rw [u] at hi_w
    rw [z _ (by omega), z 162 (by decide)]
    exact ⟨(li i hi_w).1.fr u4_w s12 e8 (fun q _ _ => z _ (by omega)) (r70 _), (li i hi_w).2⟩
  · rw [u] at hj
    rw [z _ (by omega), z _ (by omega)]
    exact lm i j ij hj
  · rw [m0_w] at y
    exact (k0_w y).fr u4_w s12 e8 (fun q _ _ => z _ (by omega)) (RWS.all (fun x q a => lo_w x q (by omega)))
  · rw [m1_w] at y
    exact (k1_w y).fr u4_w s12 e8 (fun q _ _ => z _ (by omega)) (RWS.all (fun x q a => lo_w x q (by omega)))
theorem acc_304 {t u b : Int} (hb_w : b = 0 ∨ b = 1) (r : ACC h) (h0 : 0 ≤ h 194 404) (h8 : h 194 404 ≤ 8) (e : evF xs L g_ck K g_cW g_M n 304 [182, t, u, b] ((a_g3, c, d), h) = some (1, v, ((a_g3, c, d), h2))) : ACC h2 := by
  obtain ⟨w, hw⟩ : ∃ w : Nat, h 194 404 = (w : Int) := ⟨(h 194 404).toNat, by omega⟩
  have cc : CS43 304 [182, t, u, b] h (fun k _ h' => k = 1 → ACC h') := by
    rw [cs43_304, kk_304]
    refine ⟨w, hw, by omega, hb_w, fun _ _ => r.th, fun y z _ => ?_⟩
    have f0_w : ∀ o k : Nat, ¬ (o = 194 ∧ 404 ≤ k ∧ k < 429) → j_up (j_up (j_up (j_up (thz h) 194 (405 + 3 * w) t) 194 (405 + 3 * w + 1) u) 194 (405 + 3 * w + 2) b) 194 404 ((w + 1 : Nat) : Int) o k = thz h o k := fun o k a => by
      rw [up_ne (by omega), up_ne (by omega), up_ne (by omega), up_ne (by omega)]
    exact r.see (fun o q z => (f0_w o q (by omega)).trans (th_e (by omega))) (fun k _ => (f0_w 188 k (by omega)).trans (th_e (by decide))) (fun q a => (f0_w 194 q (by omega)).trans (th_e (by decide))) ((f0_w 182 18 (by omega)).trans (up_ne (by omega))) ((f0_w 195 0 (by omega)).trans (th_e (by decide))) ((f0_w 195 1 (by omega)).trans (th_e (by decide)))
  exact (snd_43 n _ _ _ _ _ cc _ _ _ _ e).2 rfl
theorem acc_begin (rf : RF D h) (bg : BGR D.2.2.2.2.1.length D.1.toNat h) : ACC h := by
  obtain ⟨sb_w, b4, -, b18, -, b50, b51⟩ := bg
  have w := rf.w
  obtain ⟨c4, u4_w, m6_w, s12, eD⟩ := w.cn
  have e2_w : h 188 2 = (nU D : Int) := rf.ix.1.2.1
  have e0 : h 188 0 = (nS D : Int) := rf.ix.2.1.1.trans eD
  have m6' : D.2.2.2.2.1.length ≤ 6 := m6_w
  have s12' : D.1.toNat ≤ 12 := s12
  have a1_w : h 194 (0 + 162) = 0 := by rw [sb_w 162 (by decide), if_neg (by decide), if_neg (by omega), if_neg (by omega)]
  have a2 : h 194 (0 + 355) = 0 := by rw [sb_w 355 (by decide), if_neg (by decide), if_neg (by omega), if_neg (by omega)]
  exact ⟨⟨by omega, by omega, by omega⟩, ⟨by omega, fun r u s hr => absurd hr (by omega), fun _ => a2, fun r hr => absurd hr (by omega)⟩, fun i hi_w => absurd hi_w (by omega), fun i j _ hj => absurd hj (by omega), fun y => absurd b50 y, fun y => absurd b51 y⟩
/-- a run on_w both_w sides -/
theorem acc_run {r w' : Nat} {x2_w y2 : XH} (a : ACC h) (wf : WFD D) (rf : RF D h) (eq : EqD D (cl 70 h) (bl 0 h)) (ra : RGA D (bl 0 h)) (hw : h 182 18 = (w' : Int)) (er : h 194 162 = (r : Int)) (r4 : r < 4) (c1_w : ∀ o q : Nat, o ≠ 156 → ¬ (o = 154 ∧ q = 1) → x o q = h o q) (fc_w : FRC r x y) (rc : RUNC D r (cl 70 h) y) (e1_w : h1 = j_up y 70 10 ((r + 1 : Nat) : Int)) (kx : RKP w' (thz h1) x2_w) (fr : FRR r x2_w y2) (rr : RUNR D r (bl 0 x2_w) y2) (e2_w : h2 = j_up y2 194 162 ((r + 1 : Nat) : Int)) : ACC h2 := by
  obtain ⟨c4, u4_w, m6_w, s12, eD⟩ := wf.cn
  have g1 : ∀ o q : Nat, o ≠ 70 → h1 o q = y o q := fun o q z => by
    rw [e1_w]
    exact up_ne (by omega)
  have hi_w : ∀ o q : Nat, 182 ≤ o → h1 o q = h o q := fun o q z => by
    rw [g1 o q (by omega), fc_w.lof o q (by omega)]
    exact c1_w o q (by omega) (by omega)
  have mk_w : ∀ o q : Nat, 112 ≤ o → o ≤ 153 → h1 o q = h o q := fun o q p1_w p2_w => by
    rw [g1 o q (by omega), fc_w.lof o q (by omega)]
    exact c1_w o q (by omega) (by omega)
  have nst : ∀ p, p = 78 ∨ p = 80 ∨ p = 82 ∨ p = 84 → ¬ stO p := fun p a z => by
    unfold stO smW at z
    omega
  have row : ∀ o q : Nat, (o = 78 ∧ q < 48 * r) ∨ (o = 80 ∧ q < 16 * r) ∨ (o = 82 ∧ q < 16 * r) ∨ (o = 84 ∧ q < r) → h1 o q = h o q := fun o q p => by
    rw [g1 o q (by omega), fc_w o q (nst o (by omega)) (by omega) (by omega) (by omega) (by omega) (by omega)]
    exact c1_w o q (by omega) (by omega)
  have a1_w : ACC h1 := a.fr2 (fun t ht => by
    rw [er] at ht
    exact ⟨fun q hq => row _ _ (by omega), fun q hq => row _ _ (by omega), fun q hq => row _ _ (by omega), row _ _ (by omega)⟩) mk_w (fun k _ => hi_w 188 k (by decide)) (fun q _ => hi_w 194 q (by decide)) (hi_w 182 18 (by decide)) (hi_w 195 0 (by decide)) (hi_w 195 1 (by decide))
  have k2 : ∀ o q : Nat, ¬ (o = 194 ∧ q = 162) → h2 o q = y2 o q := fun o q z => by
    rw [e2_w]
    exact up_ne z
  have lo2 : ∀ o q : Nat, o < 182 → h2 o q = h1 o q := fun o q z => by
    rw [k2 o q (by omega), fr.lof o q (by omega)]
    exact kx_lo kx o q z
  have er1 : h1 194 162 = (r : Int) := (hi_w 194 162 (by decide)).trans er
  have er2 : h2 194 162 = ((r + 1 : Nat) : Int) := by
    rw [e2_w]
    exact up_eq
  have x188 : ∀ k : Nat, x2_w 188 k = h 188 k := fun k => ((kx.1 188 k (by omega) (by omega)).trans (th_e (by decide))).trans (hi_w 188 k (by decide))
  have y188 : ∀ k : Nat, h2 188 k = h 188 k := fun k => (k2 188 k (by omega)).trans ((fr.lof 188 k (by omega)).trans (x188 k))
  have x194 : ∀ q : Nat, q < 1287 → x2_w 194 q = h 194 q := fun q z => (kx_194 kx q z).trans (hi_w 194 q (by decide))
  have eX : EqD D (cl 70 h) (bl 0 x2_w) := eq.tr (EqD.of m6_w s12 (fun q z => (x194 (0 + q) (by omega)).symm))
  have raC : RGA D (cl 70 h) := RGA.cg eq ra
  have eU : h 188 2 = (nU D : Int) := rf.ix.1.2.1
  have eS : h 188 0 = (nS D : Int) := rf.ix.2.1.1.trans eD
  have eL : acO D (bl 0 x2_w) (nM D) = acO D (cl 70 h) (nM D) := (acO_cg eX s12 _ (Nat.le_refl _)).symm
  refine a1_w.push ((hi_w 182 18 (by decide)).trans hw) kx (fun k _ => (k2 188 k (by omega)).trans (fr.lof 188 k (by omega))) (fun k p q => (k2 194 k (by omega)).trans (fr.lof 194 k (by omega))) ((k2 182 18 (by omega)).trans (fr 182 18 (fun z => by unfold wkW at z; omega) (by omega) (by omega) (by omega))) (fun k => (k2 195 k (by omega)).trans (fr.lof 195 k (by omega))) (fun o q p1_w p2_w => lo2 o q (by omega)) (RWS.all (fun o q p => lo2 o q (by omega))) (by rw [er1, er2]; omega) ⟨?_, fun t u s ht hu hs => ?_, fun z => ?_, fun t ht => ?_⟩
  · rw [Nat.zero_add, er2]
    omega
  · rw [Nat.zero_add, er2] at ht
    rw [y188 2, eU] at hu
    rw [y188 0, eS] at hs
    rw [lo2 (70 + 8) _ (by decide), Nat.zero_add, k2 194 _ (by omega)]
    by_cases yt : t = r
    · subst yt
      rw [rr.1 u s (by omega) (by omega), ← shrA_cg wf eX (show s < nS D by omega), ← rc.1 u s (by omega) (by omega)]
      exact g1 78 _ (by decide)
    · have l1 := a1_w.2.1.2.1 t u s (by rw [Nat.zero_add, er1]; omega) (by rw [hi_w 188 2 (by decide), eU]; exact hu) (by rw [hi_w 188 0 (by decide), eS]; exact hs)
      rw [l1, Nat.zero_add, hi_w 194 _ (by decide), ← x194 _ (by omega)]
      exact (fr 194 _ (fun z => by unfold wkW at z; omega) (by omega) (by omega) (by omega)).symm
  · rw [Nat.zero_add, er2] at z
    omega
  · rw [Nat.zero_add, er2] at ht
    have tr : t = r := by omega
    subst tr
    obtain ⟨p1_w, p2_w⟩ := rc.2.1
    obtain ⟨q1_w, q2_w⟩ := rr.2
    rw [eL] at q1_w q2_w
    refine ⟨acO D (cl 70 h) (nM D), acO_k (fun m s hm_w hs => key_lt wf raC hm_w (by omega)) _ (Nat.le_refl _), ?_, ?_, fun i k z => ?_⟩
    · rw [lo2 (70 + 14) _ (by decide), ← p1_w]
      exact g1 84 _ (by decide)
    · rw [Nat.zero_add, k2 194 _ (by omega)]
      exact q1_w
    · have li : i < 16 := Nat.lt_of_lt_of_le (List.getElem?_eq_some_iff.mp z).1 (KL.le (acO_k (fun m s hm_w hs => key_lt wf raC hm_w (by omega)) _ (Nat.le_refl _)))
      obtain ⟨t1_w, t2_w, t3_w⟩ := q2_w i k z
      rw [lo2 (70 + 10) _ (by decide), lo2 (70 + 12) _ (by decide), Nat.zero_add, Nat.zero_add, Nat.zero_add, k2 194 _ (by omega), k2 194 _ (by omega), k2 194 _ (by omega), t1_w, t2_w, t3_w, ← amtA_cg wf eX, ← rc.2.2 i k z, ← p2_w i k z]
      exact ⟨g1 80 _ (by decide), rfl, rfl, g1 82 _ (by decide)⟩
end ACD
