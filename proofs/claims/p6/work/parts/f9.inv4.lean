/-! ===== what lasts from call to call, the plan told_w in both_w ===== -/
def J4 (h : XH) : Prop := ∃ D : DD, CDw 6 D h ∧ RF D h
def Inv4 (h : XH) : Prop := Inv3 h ∧ J4 h
def r_n4 (r : Nat) : Bool := r_n3 r && !(m_W r).2.contains 188 && !(m_W r).2.contains 189 && !(m_W r).2.contains 190
theorem fr_los : (List.range 131).all (fun i => (m_W (183 + i)).2.all fun o => decide (183 ≤ o)) = true := by decide +kernel
theorem fr_lo {r : Nat} (hr : m_in r = true) {o : Nat} (ho : o < 183) : (m_W r).2.contains o = false := by
  simp only [m_in, Bool.and_eq_true, Nat.ble_eq, Nat.blt_eq] at hr
  have t := List.all_eq_true.mp fr_los (r - 183) (List.mem_range.mpr (by omega))
  rw [show 183 + (r - 183) = r by omega] at t
  cases y : (m_W r).2.contains o with
  | false => rfl
  | true =>
    have t2_w := of_decide_eq_true (List.all_eq_true.mp t o (List.contains_iff_mem.mp y))
    omega
section INV4
variable {xs : Nat → Int} {L K n : Nat} {c d : Nat} {h h' h1 h2 : XH} {D : DD}
theorem J4.fr (j : J4 h) (a : ∀ o k : Nat, 6 ≤ o → o ≤ 24 → h' o k = h o k) (e8 : h' 188 = h 188) (e9_w : h' 189 = h 189) (e0 : h' 190 = h 190) : J4 h' := by
  obtain ⟨D, cd, rf⟩ := j
  exact ⟨D, cd.fr a, rf.fr e8 e9_w e0⟩
theorem RF.kf (r : RF D h) (k : KF h h') : RF D h' := by
  obtain ⟨h0, r0, r1_w, r2, r3⟩ := r
  have c0 := r0.cd
  exact ⟨h0, r0, fun q z => (k.1 q z).trans (r1_w q z), fun q z => (k.2.1 q (by omega)).trans (r2 q z), fun q z => (k.2.2 q z).trans (r3 q z)⟩
theorem aW_out {W : AW} {lo_w hi_w : Nat} (e1_w : (W.1.all fun s => decide (s < lo_w) || decide (hi_w < s)) = true) (e2_w : (W.2.all fun s => decide (s.1 < lo_w) || decide (hi_w < s.1)) = true) : ∀ o k : Nat, lo_w ≤ o → o ≤ hi_w → aW W o k = false := fun o k z1 z2 => by
  unfold aW
  rw [Bool.or_eq_false_iff]
  refine ⟨?_, ?_⟩
  · cases y : W.1.contains o with
    | false => rfl
    | true =>
      have t := List.all_eq_true.mp e1_w o (List.contains_iff_mem.mp y)
      rw [Bool.or_eq_true, decide_eq_true_eq, decide_eq_true_eq] at t
      omega
  · cases y : W.2.contains (o, k) with
    | false => rfl
    | true =>
      have t := List.all_eq_true.mp e2_w (o, k) (List.contains_iff_mem.mp y)
      rw [Bool.or_eq_true, decide_eq_true_eq, decide_eq_true_eq] at t
      omega
theorem u1_plan : ∀ o k : Nat, 6 ≤ o → o ≤ 24 → aW u1_W o k = false := aW_out (by decide) (by decide)
theorem u1_ref : ∀ o k : Nat, 182 ≤ o → o ≤ 100000 → aW u1_W o k = false := aW_out (by decide) (by decide)
/-- what a call of the class leaves as_w it is_w, by its places_w -/
theorem cls_u1 {f : Nat} {p : List AVs × Option AVs} (ep : u1_T f = some p) {vs r : List Int} (la : LsA p.1 vs) {cd : Nat × Nat} {k : Nat} {g' : XS × Nat × Nat} (e : evF xs L g_ck K g_cW g_M n f vs ((a_g3, cd), h) = some (k, r, (g', h'))) : FrW u1_W h h' :=
  (snd_u1 n cd f vs h (fun _ _ x => FrW u1_W h x) ⟨p, ep, la, fun _ _ a _ => a, fun _ _ a => a⟩ k r g' h' e).2
theorem FrW.plan (f : FrW u1_W h h') : ∀ o k : Nat, 6 ≤ o → o ≤ 24 → h' o k = h o k := fun o k a b => f o k (u1_plan o k a b)
theorem ref_4 {r : Nat} (hf : r_n4 r = true) {ws_w v : List Int} {g g' : XS × Nat × Nat} {cc : Nat} (hg : g.1 = a_g3) (e : evF xs L g_ck K g_cW g_M n r (182 :: ws_w) (g, h) = some (cc, v, (g', h'))) : r_n3 r = true ∧ (∀ o k : Nat, 6 ≤ o → o ≤ 24 → h' o k = h o k) ∧ h' 188 = h 188 ∧ h' 189 = h 189 ∧ h' 190 = h 190 := by
  simp only [r_n4, Bool.and_eq_true, Bool.not_eq_true'] at hf
  obtain ⟨⟨⟨f1_w, f2_w⟩, f3_w⟩, f4_w⟩ := hf
  have f5_w := f1_w
  simp only [r_n3, r_nf, Bool.and_eq_true, Bool.not_eq_true'] at f5_w
  obtain ⟨-, fr⟩ := fr_all n r (182 :: ws_w) _ _ _ _ _ _ f5_w.1.1.1.1.1.1.1 hg (Or.inr rfl) e
  refine ⟨f1_w, fun o k a b => ?_, funext fun k => fr 188 k (fun z => absurd z (by decide)) f2_w, funext fun k => fr 189 k (fun z => absurd z (by decide)) f3_w, funext fun k => fr 190 k (fun z => absurd z (by decide)) f4_w⟩
  have := fr_lo f5_w.1.1.1.1.1.1.1 (o := o) (by omega)
  exact fr o k (fun z => by omega) this
theorem pair_i4 (hK2 : 20000000000 ≤ K) (hn : n < 99999) {f r : Nat} {p : List AVs × Option AVs} (ep : u1_T f = some p) (hd_w : g_dp f < n) (ht : g_THR f = false) (hr : r_dp r < n) (hf : r_n4 r = true) {vs ws_w : List Int} (la : LsA p.1 vs) (ha_w : VL (fun _ => 0) a_g3 ((g_T 0).2.1 f) vs) (hv : ∀ P, IL P (qP (r_T 0) r) (182 :: ws_w)) (hI : Inv4 h) : ∃ (v1_w v2 : List Int) (h1 h2 : XH), evF xs L g_ck K g_cW g_M n f vs ((a_g3, c, d), h) = some (1, v1_w, ((a_g3, c, d), h1)) ∧ evF xs L g_ck K g_cW g_M n r (182 :: ws_w) ((a_g3, c, d), h1) = some (1, v2, ((a_g3, c, d), h2)) ∧ Inv4 h2 := by
  have f3_w : r_n3 r = true := by
    simp only [r_n4, Bool.and_eq_true] at hf
    exact hf.1.1.1
  obtain ⟨v1_w, v2, h1, h2, e1_w, e2_w, e3_w⟩ := pair_i3 (xs := xs) (L := L) (c := c) (d := d) hK2 hn hd_w ht hr f3_w ha_w hv hI.1
  have w := cls_u1 ep la e1_w
  obtain ⟨-, b0, b1, b2, b3⟩ := ref_4 (g := (a_g3, c, d)) hf rfl e2_w
  have u : ∀ o, 182 ≤ o → o ≤ 1000 → h1 o = h o := fun o a b => funext fun k => w o k (u1_ref o k a (by omega))
  exact ⟨v1_w, v2, h1, h2, e1_w, e2_w, e3_w, hI.2.fr (fun o k a b => (b0 o k a b).trans (w.plan o k a b)) (b1.trans (u 188 (by decide) (by decide))) (b2.trans (u 189 (by decide) (by decide))) (b3.trans (u 190 (by decide) (by decide)))⟩
/-- one that catches: how its heap is_w the class's -/
theorem catch_g (hK_w : 4294967300 ≤ K) {q f o ml_w : Nat} {pk_w rk : List Nat} {A : SX} {vs en : List Int} (hm_w : g_M q = (0, ml_w, pk_w, rk, sx 2 (sx 24 (sx 3 (sv o) z0 z0) A (sv f)) (sx 16 (sx 1 z0 (sv 1) z0) z0 z0) z0)) (hen : j_pad 0 ml_w (j_lay pk_w (vs ++ [203])) = en) (ho : en.getD o 0 = 203) (hA : ∀ st, evE xs L g_ck (evF xs L g_ck K g_cW g_M n) g_cW A en st = some (vs, st)) (hd_w : g_dp f < n) (hn : n < 99999) (hR : (g_T 0).2.2.1 f = [1]) (ha_w : VL (fun _ => 0) a_g3 ((g_T 0).2.1 f) vs) (hI : Inv3 h) :
    ∃ (v : Int) (c' d' : Nat) (h' : XH), evF xs L g_ck K g_cW g_M (n + 1) q (vs ++ [203]) ((a_g3, c, d), h) = some (1, [v], ((a_g3, c', d'), h')) ∧ Inv3 h' ∧ c' ≤ c + 1 ∧ d' ≤ d + 6 ∧ ((v = 0 ∧ c' = c ∧ d' = d ∧ ∃ (w : Int) (h1 : XH), InI w ∧ evF xs L g_ck K g_cW g_M n f vs ((a_g3, c, d), h) = some (1, [w], ((a_g3, c, d), h1)) ∧ h' = j_up h1 203 0 w) ∨ (v = 1 ∧ ∃ (r : List Int) (g1 : XS × Nat × Nat) (h1 : XH), evF xs L g_ck K g_cW g_M n f vs ((a_g3, c, d), h) = some (4, r, (g1, h1)) ∧ h' = h1)) := by
  obtain ⟨cc, v1_w, g', h1, e1_w, e2_w, e3_w, e4_w⟩ := cls_lnk (xs := xs) (L := L) (K := K) (c := c) (d := d) (n := n) (f := f) hK_w hd_w (by omega) hI.1.1 ha_w
  obtain ⟨cc', r1', g1', h1', q1_w, q2_w⟩ := cls_fr (xs := xs) (L := L) (K := K) (c := c) (d := d) (n := n) (f := f) hK_w hd_w (by omega) hI.1.1 ha_w
  have u : h1' = h1 := by
    have t := q1_w.symm.trans e1_w
    cases t
    rfl
  subst u
  obtain ⟨a1_w, a2, a3, a4⟩ := q2_w.rows
  have hI1 : Inv0 h1' := ⟨e2_w, hI.1.2.kp e2_w.1 (fun o k a _ => e3_w o k a)⟩
  have key_w : ∀ r, evS xs L g_ck (evF xs L g_ck K g_cW g_M n) K g_cW (sx 2 (sx 24 (sx 3 (sv o) z0 z0) A (sv f)) (sx 16 (sx 1 z0 (sv 1) z0) z0 z0) z0) en ((a_g3, c, d), h) = some r → (r.1 = 1 ∨ r.1 = 4) ∧ c ≤ r.2.2.2.1.2.1 ∧ d ≤ r.2.2.2.1.2.2 ∧ (a_g3.map (·.1)).isPrefixOf (r.2.2.2.1.1.map (·.1)) = true → evF xs L g_ck K g_cW g_M (n + 1) q (vs ++ [203]) ((a_g3, c, d), h) = some (r.1, r.2.1, r.2.2.2) := fun r k1_w k2 => by
    unfold evF
    rw [hm_w]
    show (evS xs L g_ck (evF xs L g_ck K g_cW g_M n) K g_cW _ (j_pad 0 ml_w (j_lay pk_w (vs ++ [203]))) ((a_g3, c, d), h)).bind _ = _
    rw [hen, k1_w, Option.bind_some]
    exact if_pos k2
  rcases e4_w with ⟨rfl, rfl, hr⟩ | ⟨rfl, -, rfl⟩
  · rw [hR] at hr
    obtain ⟨v, rfl, hv⟩ := VL.one hr
    have u : ∀ o k : Nat, o ≠ 203 → j_up h1' 203 0 v o k = h1' o k := fun o k e => up_ne (fun z => e z.1)
    have hi_w := hv.1 rfl
    refine ⟨0, c, d, j_up h1' 203 0 v, key_w (1, [0], en, ((a_g3, c, d), j_up h1' 203 0 v)) ?_ (chk_self (g := (a_g3, c, d))), hI.kp (out_inv hI1 hi_w) ((u 2 1 (by decide)).trans a1_w) ((funext fun k => u 3 k (by decide)).trans a2) ((funext fun k => u 183 k (by decide)).trans a3) ((funext fun k => u 187 k (by decide)).trans a4), by omega, by omega, Or.inl ⟨rfl, rfl, rfl, v, h1', hi_w, e1_w, rfl⟩⟩
    rw [es_2, es_24, es_16]
    unfold s_seq s_try
    rw [ee_3]
    show (((evE xs L g_ck (evF xs L g_ck K g_cW g_M n) g_cW A en ((a_g3, c, d), h)).bind _)).bind _ = _
    rw [hA, Option.bind_some]
    show ((evF xs L g_ck K g_cW g_M n f vs ((a_g3, c, d), h)).bind _).bind _ = _
    rw [e1_w, Option.bind_some]
    have z : j_hd [en.getD (sx_n (sv o)) 0] = 203 := ho
    simp only [z]
    rfl
  · refine ⟨1, c + 1, d + 6, h1', key_w (1, [1], en, ((a_g3, c + 1, d + 6), h1')) ?_ (chk_one (c := c) (d := d)), hI.kp hI1 a1_w a2 a3 a4, by omega, by omega, Or.inr ⟨rfl, v1_w, (a_g3, c + 1, d + 6), h1', e1_w, rfl⟩⟩
    rw [es_2, es_24, es_16]
    unfold s_seq s_try
    rw [ee_3]
    show (((evE xs L g_ck (evF xs L g_ck K g_cW g_M n) g_cW A en ((a_g3, c, d), h)).bind _)).bind _ = _
    rw [hA, Option.bind_some]
    show ((evF xs L g_ck K g_cW g_M n f vs ((a_g3, c, d), h)).bind _).bind _ = _
    rw [e1_w]
    rfl
theorem try_i4 {q f r o ml_w : Nat} {pk_w rk : List Nat} {A : SX} {vs ws_w en : List Int} {p : List AVs × Option AVs} (ep : u1_T f = some p) (la : LsA p.1 vs) (hK2 : 20000000000 ≤ K) (hn : n + 41 < 99999) (hm_w : g_M q = (0, ml_w, pk_w, rk, sx 2 (sx 24 (sx 3 (sv o) z0 z0) A (sv f)) (sx 16 (sx 1 z0 (sv 1) z0) z0 z0) z0)) (hen : j_pad 0 ml_w (j_lay pk_w (vs ++ [203])) = en) (ho : en.getD o 0 = 203) (hA : ∀ st, evE xs L g_ck (evF xs L g_ck K g_cW g_M (n + 40)) g_cW A en st = some (vs, st)) (hd_w : g_dp f ≤ 30) (hR : (g_T 0).2.2.1 f = [1]) (ha_w : VL (fun _ => 0) a_g3 ((g_T 0).2.1 f) vs) (hr : r_dp r ≤ 30) (hf : r_n4 r = true) (hv : ∀ P, IL P (qP (r_T 0) r) (182 :: ws_w)) :
    ∀ (c d : Nat) (h : XH), Inv4 h → ∃ (v1_w v2 : List Int) (c' d' : Nat) (h1 h2 : XH), evF xs L g_ck K g_cW g_M (n + 41) q (vs ++ [203]) ((a_g3, c, d), h) = some (1, v1_w, ((a_g3, c', d'), h1)) ∧ evF xs L g_ck K g_cW g_M (n + 41) r (182 :: ws_w) ((a_g3, c', d'), h1) = some (1, v2, ((a_g3, c', d'), h2)) ∧ Inv4 h2 ∧ c' ≤ c + 1 ∧ d' ≤ d + 6 := fun c d h hI => by
  have f3_w : r_n3 r = true := by
    simp only [r_n4, Bool.and_eq_true] at hf
    exact hf.1.1.1
  have f1_w : r_nf r = true := by
    simp only [r_n3, Bool.and_eq_true] at f3_w
    exact f3_w.1.1.1
  obtain ⟨v1_w, c', d', h1, e1_w, e2_w, e3_w, e4_w, e5_w⟩ := catch_g (xs := xs) (L := L) (K := K) (n := n + 40) (c := c) (d := d) (by omega) hm_w hen ho hA (by omega) (by omega) hR ha_w hI.1
  obtain ⟨v2, h2, g1, g2, -⟩ := ref_inv (xs := xs) (L := L) (c := c') (d := d') hK2 hn (by omega) f1_w hv e2_w.1
  obtain ⟨-, b1, b2, b3, b4⟩ := ref_3 (g := (a_g3, c', d')) f3_w rfl g1
  obtain ⟨-, b0, b5, b6, b7⟩ := ref_4 (g := (a_g3, c', d')) hf rfl g1
  have w : ∃ hX, FrW u1_W h hX ∧ ∀ o k : Nat, o ≠ 203 → h1 o k = hX o k := by
    rcases e5_w with ⟨-, -, -, w, hX, -, q1_w, q2_w⟩ | ⟨-, r1_w, g3_w, hX, q1_w, q2_w⟩
    · exact ⟨hX, cls_u1 ep la q1_w, fun o k z => by rw [q2_w]; exact up_ne (fun y => z y.1)⟩
    · exact ⟨hX, cls_u1 ep la q1_w, fun o k z => by rw [q2_w]⟩
  obtain ⟨hX, w1_w, w2_w⟩ := w
  have u : ∀ o, 182 ≤ o → o ≤ 202 → h1 o = h o := fun o a b => funext fun k => (w2_w o k (by omega)).trans (w1_w o k (u1_ref o k a (by omega)))
  exact ⟨[v1_w], v2, c', d', h1, h2, e1_w, g1, ⟨e2_w.kp g2 b1 b2 b3 b4, hI.2.fr (fun o k a b => (b0 o k a b).trans ((w2_w o k (by omega)).trans (w1_w.plan o k a b))) (b5.trans (u 188 (by decide) (by decide))) (b6.trans (u 189 (by decide) (by decide))) (b7.trans (u 190 (by decide) (by decide)))⟩, e3_w, e4_w⟩
end INV4
section INV4B
variable {xs : Nat → Int} {L K n : Nat} {c d : Nat} {h h' h1 h2 : XH} {D : DD}
theorem feed_i4 (hK_w : 4294967300 ≤ K) {a b e : Int} (hI : Inv4 h) : ∃ (v : Int) (h1 h2 : XH), evF xs L g_ck K g_cW g_M (n + 2) 1 [0, a, b, e] ((a_g3, c, d), h) = some (1, [v], ((a_g3, c, d), h1)) ∧ evF xs L g_ck K g_cW g_M (n + 2) 183 [182, a, b, e] ((a_g3, c, d), h1) = some (1, [v], ((a_g3, c, d), h2)) ∧ Inv4 h2 ∧ ∀ o k : Nat, o ≠ 2 → o ≠ 3 → o ≠ 182 → o ≠ 183 → h2 o k = h o k := by
  obtain ⟨v, h1, h2, e1_w, f1_w, hI2⟩ := feed_i3 (xs := xs) (L := L) (K := K) (n := n) (c := c) (d := d) (a := a) (b := b) (e := e) hK_w hI.1
  obtain ⟨hH, m0_w, m1_w, hm_w⟩ := hI.1.1.1
  obtain ⟨h1', e1', z1, e3_w⟩ := fqA (xs := xs) (L := L) (ck := g_ck) (cW := g_cW) (K := K) (n := n) (a := a) (b := b) (c := e) (g := (a_g3, c, d)) (h := h) (by omega) fg_1 fg_2 fg_3 fg_4 (by decide) rfl ⟨m0_w, m1_w⟩
  have u1 : h1' = h1 := by
    have t := e1'.symm.trans e1_w
    cases t
    rfl
  subst u1
  have k1_w : ∀ o k : Nat, o ≠ 2 → o ≠ 3 → h1' o k = h o k := e3_w (fun x => ∀ o k : Nat, o ≠ 2 → o ≠ 3 → x o k = h o k) (fun x m s p => by
    unfold upA
    split
    · intro o k ha_w hb_w
      have t2_w : (2 : Int).toNat = 2 := rfl
      have t3_w : (3 : Int).toNat = 3 := rfl
      rw [up_ne (fun z => by have := z.1; omega), up_ne (fun z => by have := z.1; omega)]
      exact p o k ha_w hb_w
    · exact p) (fun _ _ _ _ => rfl)
  have hm1 : h1' 182 2 = h 2 1 := (k1_w 182 2 (by decide) (by decide)).trans hm_w
  obtain ⟨h2', f1', z2, f3_w⟩ := fqM (xs := xs) (L := L) (ck := g_ck) (cW := g_cW) (K := K) (n := n) (a := a) (b := b) (c := e) (g := (a_g3, c, d)) (h := h1') (by omega) fg_5 fg_6 (by decide) hm1 ⟨m0_w, m1_w⟩
  have u2_w : h2' = h2 := by
    have t := f1'.symm.trans f1_w
    cases t
    rfl
  subst u2_w
  have key_w := f3_w (fun x => ∀ o k : Nat, o ≠ 182 → o ≠ 183 → x o k = h1' o k) (fun x m s _ p => by
    unfold upM
    split
    · intro o k a b
      have t2_w : (182 : Int).toNat = 182 := rfl
      have t3_w : (183 : Int).toNat = 183 := rfl
      rw [up_ne (fun z => by have := z.1; omega), up_ne (fun z => by have := z.1; omega)]
      exact p o k a b
    · exact p) (fun o k a _ => up_ne (fun z => a z.1))
  have al_w : ∀ o k : Nat, o ≠ 2 → o ≠ 3 → o ≠ 182 → o ≠ 183 → h2' o k = h o k := fun o k a b c d => (key_w o k c d).trans (k1_w o k a b)
  exact ⟨v, h1', h2', e1_w, f1_w, ⟨hI2, hI.2.fr (fun o k a b => al_w o k (by omega) (by omega) (by omega) (by omega)) (funext fun k => al_w 188 k (by decide) (by decide) (by decide) (by decide)) (funext fun k => al_w 189 k (by decide) (by decide) (by decide) (by decide)) (funext fun k => al_w 190 k (by decide) (by decide) (by decide) (by decide))⟩, al_w⟩
/-- behind_w a grid: the answers_w are the same, and so is_w what is_w told_w; or_w nothing_w but what a grid reads_w with is_w changed -/
theorem grid_i4 (hK2 : 20000000000 ≤ K) (hn : n + 41 < 99999) (hI : Inv4 h) : ∃ (v : Int) (h1 h2 : XH), evF xs L g_ck K g_cW g_M (n + 41) 2 [0] ((a_g3, c, d), h) = some (1, [v], ((a_g3, c, d), h1)) ∧ evF xs L g_ck K g_cW g_M (n + 41) 206 [182] ((a_g3, c, d), h1) = some (1, [v], ((a_g3, c, d), h2)) ∧ Inv4 h2 := by
  obtain ⟨v, h1, h2, e1_w, e2_w, e3_w⟩ := grid_i3 (xs := xs) (L := L) (K := K) (c := c) (d := d) (n := n) hK2 hn hI.1
  refine ⟨v, h1, h2, e1_w, e2_w, e3_w, ?_⟩
  obtain ⟨⟨hI0, hS_w, hW⟩, D, cd, rf⟩ := hI
  obtain ⟨hH, m0_w, m1_w, hm_w⟩ := hI0.1
  obtain ⟨v', h1', q1_w, q2_w, q3_w, q4_w⟩ := grid_ok (xs := xs) (L := L) (K := K) (c := c) (d := d) (n := n + 40) (by omega) (by omega) hH
  have u : h1' = h1 := by
    have t := q1_w.symm.trans e1_w
    cases t
    rfl
  subst u
  have hm2 : h1' 182 2 = (((h 2 1).toNat : Nat) : Int) := by rw [q4_w 182 2 (Nat.le_refl _), hm_w]; omega
  have hb1 : h 2 1 = (((h 2 1).toNat : Nat) : Int) := by omega
  have hb2 : (h 2 1).toNat ≤ 1000 := by omega
  have hb3 : ∀ k : Nat, k < (h 2 1).toNat → 0 ≤ h 3 k ∧ h 3 k ≤ 127 := fun k z => (hS_w k (by omega)).2
  have c206 : CS24 206 [182] h1' (fun k r h' => k = 1 → ∃ N S P V, TOK (h1' 183) (h 2 1).toNat N S P V ∧ ((∃ f, 0 < f ∧ sGrid S P V (h1' 187) 1001 DD0 0 = .error f ∧ KF h1' h') ∨ (∃ D, sGrid S P V (h1' 187) 1001 DD0 0 = .ok D ∧ RF D h'))) := by
    rw [cs24_206, kk_206s]
    refine ⟨_, hm2, by omega, fun r h' ⟨N, S, P, V, a, b⟩ _ => ⟨N, S, P, V, a, ?_⟩⟩
    rcases b with ⟨f, f0_w, b1, -, b2, -⟩ | ⟨D, b1, -, b2, -⟩
    · exact Or.inl ⟨f, f0_w, b1, b2⟩
    · exact Or.inr ⟨D, b1, b2⟩
  obtain ⟨N, S, P, V, tok, er⟩ := (snd_24 (n + 41) _ _ _ _ _ c206 _ _ _ _ e2_w).2 rfl
  have eb : ∀ k : Nat, k < (h 2 1).toNat → h1' 183 k = h 3 k := fun k z => by
    rw [q4_w 183 k (by decide)]
    exact (hS_w k (by omega)).1.symm
  have tok2 : TOK (h 3) (h 2 1).toNat N S P V := tok.eq eb
  have ew : h1' 187 = wl := (funext fun k => q4_w 187 k (by decide)).trans hW
  rw [ew] at er
  have hE : ∀ f, sGrid S P V wl 1001 DD0 0 = .error f → f ≠ 0 := fun f z => by
    rcases er with ⟨f', f0_w, b1, -⟩ | ⟨D, b1, -⟩
    · rw [b1] at z
      cases z
      omega
    · rw [b1] at z
      cases z
  have c2 : CS24 2 [0] h (fun k r h' => k = 1 → ((∃ f, sGrid S P V wl 1001 DD0 0 = .error f ∧ ∀ o k : Nat, 6 ≤ o → o ≤ 24 → h' o k = h o k) ∨ (∃ D, sGrid S P V wl 1001 DD0 0 = .ok D ∧ CDw 6 D h'))) := by
    rw [cs24_2, kk_2s]
    refine ⟨((h 2 1).toNat, N, S, P, V), ?_, ⟨hb1, hb2, hb3⟩, tok2, tok.gd, hE, fun f h' z f1_w _ _ _ => Or.inl ⟨f, z, fun o k a b => f1_w o k (by omega) (by omega) (by omega)⟩, fun D h' z _ _ cd' _ _ => Or.inr ⟨D, z, cd'⟩⟩
    have := tok.le
    show N ≤ 1000
    omega
  have ec := (snd_24 (n + 41) _ _ _ _ _ c2 _ _ _ _ e1_w).2 rfl
  obtain ⟨-, fr⟩ := fr_all (n + 41) 206 [182] _ _ _ _ _ _ (by decide) rfl (Or.inr rfl) e2_w
  have lo_w : ∀ o k : Nat, 6 ≤ o → o ≤ 24 → h2 o k = h1' o k := fun o k a b => fr o k (fun z => by omega) (fr_lo (by decide) (by omega))
  rcases er with ⟨f, f0_w, b1, b2⟩ | ⟨D', b1, b2⟩
  · rcases ec with ⟨f', z1, z2⟩ | ⟨D', z1, z2⟩
    · have rf1 : RF D h1' := rf.fr (funext fun k => q4_w 188 k (by decide)) (funext fun k => q4_w 189 k (by decide)) (funext fun k => q4_w 190 k (by decide))
      exact ⟨D, cd.fr (fun o k a b => (lo_w o k a b).trans (z2 o k a b)), rf1.kf b2⟩
    · rw [b1] at z1
      cases z1
  · rcases ec with ⟨f', z1, z2⟩ | ⟨D2, z1, z2⟩
    · rw [b1] at z1
      cases z1
    · rw [b1] at z1
      cases z1
      exact ⟨D', z2.fr lo_w, b2⟩
/-- behind_w a work: the answers_w are the same -/
theorem work_i4 (hK2 : 20000000000 ≤ K) (hn : n + 41 < 99999) (hI : Inv4 h) : ∃ (v : Int) (h1 h2 : XH), evF xs L g_ck K g_cW g_M (n + 41) 4 [0] ((a_g3, c, d), h) = some (1, [v], ((a_g3, c, d), h1)) ∧ evF xs L g_ck K g_cW g_M (n + 41) 214 [182] ((a_g3, c, d), h1) = some (1, [v], ((a_g3, c, d), h2)) ∧ Inv4 h2 := by
  obtain ⟨v1_w, v2, h1, h2, e1_w, e2_w, e3_w⟩ := work_i3 (xs := xs) (L := L) (K := K) (c := c) (d := d) (n := n) hK2 hn hI.1
  obtain ⟨⟨hI0, hS_w, hW⟩, D, cd, rf⟩ := hI
  obtain ⟨hH, m0_w, m1_w, hm_w⟩ := hI0.1
  obtain ⟨v, h1', q1_w, q2_w, q3_w, q4_w⟩ := work_ok (xs := xs) (L := L) (K := K) (c := c) (d := d) (n := n + 40) (by omega) (by omega) hH
  have u : v1_w = [v] ∧ h1' = h1 := by
    have t := q1_w.symm.trans e1_w
    cases t
    exact ⟨rfl, rfl⟩
  obtain ⟨rfl, u⟩ := u
  subst u
  have hm2 : h1' 182 2 = (((h 2 1).toNat : Nat) : Int) := by rw [q4_w 182 2 (Nat.le_refl _), hm_w]; omega
  have hb1 : h 2 1 = (((h 2 1).toNat : Nat) : Int) := by omega
  have hb2 : (h 2 1).toNat ≤ 1000 := by omega
  have hb3 : ∀ k : Nat, k < (h 2 1).toNat → 0 ≤ h 3 k ∧ h 3 k ≤ 127 := fun k z => (hS_w k (by omega)).2
  have rf1 : RF D h1' := rf.fr (funext fun k => q4_w 188 k (by decide)) (funext fun k => q4_w 189 k (by decide)) (funext fun k => q4_w 190 k (by decide))
  have c214 : CS28 214 [182] h1' (fun k r h' => k = 1 → Fr ([0, 2, 3, 7, 8], [184, 185, 186, 191]) h1' h' ∧ ∃ N S P V, TOK (h1' 183) (h 2 1).toNat N S P V ∧ ((∃ f, 0 < f ∧ sWork S P V (h1' 187) D 32 [] 0 = .error f ∧ r = [f]) ∨ (∃ L, sWork S P V (h1' 187) D 32 [] 0 = .ok L ∧ r = [0]))) := by
    rw [cs28_214, kk_214]
    refine ⟨_, D, hm2, by omega, rf1, fun r h' fr ⟨N, S, P, V, a, b⟩ _ => ⟨fr, N, S, P, V, a, ?_⟩⟩
    rcases b with ⟨f, f0_w, b1, b2, -⟩ | ⟨L, b1, b2, -⟩
    · exact Or.inl ⟨f, f0_w, b1, by rw [b2]⟩
    · exact Or.inr ⟨L, b1, by rw [b2]⟩
  obtain ⟨fr, N, S, P, V, tok, er⟩ := (snd_28 (n + 41) _ _ _ _ _ c214 _ _ _ _ e2_w).2 rfl
  have eb : ∀ k : Nat, k < (h 2 1).toNat → h1' 183 k = h 3 k := fun k z => by
    rw [q4_w 183 k (by decide)]
    exact (hS_w k (by omega)).1.symm
  have tok2 : TOK (h 3) (h 2 1).toNat N S P V := tok.eq eb
  have ew : h1' 187 = wl := (funext fun k => q4_w 187 k (by decide)).trans hW
  rw [ew] at er
  have hE : ∀ f, sWork S P V wl D 32 [] 0 = .error f → f ≠ 0 := fun f z => by
    rcases er with ⟨f', f0_w, b1, -⟩ | ⟨L, b1, -⟩
    · rw [b1] at z
      cases z
      omega
    · rw [b1] at z
      cases z
  have c4 : CS28 4 [0] h (fun k r h' => k = 1 → FWx h h' ∧ ((∃ f, sWork S P V wl D 32 [] 0 = .error f ∧ r = [f]) ∨ (∃ L, sWork S P V wl D 32 [] 0 = .ok L ∧ r = [0]))) := by
    rw [cs28_4, kk_4]
    refine ⟨((h 2 1).toNat, N, S, P, V), D, ?_, ⟨hb1, hb2, hb3⟩, tok2, cd, hE, fun f h' z f1_w _ _ _ _ => ⟨f1_w, Or.inl ⟨f, z, rfl⟩⟩, fun L h' z f1_w _ _ _ => ⟨f1_w, Or.inr ⟨L, z, rfl⟩⟩⟩
    have := tok.le
    show N ≤ 1000
    omega
  obtain ⟨fx, ec⟩ := (snd_28 (n + 41) _ _ _ _ _ c4 _ _ _ _ e1_w).2 rfl
  have ev_w : v2 = [v] := by
    rcases er with ⟨f, f0_w, b1, b2⟩ | ⟨L, b1, b2⟩
    · rcases ec with ⟨f', z1, z2⟩ | ⟨L', z1, z2⟩
      · rw [b1] at z1
        cases z1
        rw [b2, z2]
      · rw [b1] at z1
        cases z1
    · rcases ec with ⟨f', z1, z2⟩ | ⟨L', z1, z2⟩
      · rw [b1] at z1
        cases z1
      · rw [b2, z2]
  subst ev_w
  have lo_w : ∀ o k : Nat, 6 ≤ o → o ≤ 24 → h2 o k = h o k := fun o k a b => (fr o k (fun z => by omega) (by
    rw [List.contains_eq_mem, decide_eq_false_iff_not]
    simp only [List.mem_cons, List.not_mem_nil, or_false]
    omega)).trans (fx o k (by omega))
  exact ⟨v, h1', h2, e1_w, e2_w, e3_w, D, cd.fr lo_w, rf1.fr (fr.row rfl (by decide)) (fr.row rfl (by decide)) (fr.row rfl (by decide))⟩
theorem i_pl : (List.range 24).all (fun k => decide (i0 6 k = 0) && decide (i0 9 k = 0) && decide (i0 13 k = 0)) = true := by decide +kernel
theorem i_gr : (List.range 95).all (fun k => decide (i0 188 k = if k = 4 then -1 else 0)) = true := by decide +kernel
/-- a draft whose plan is_w the one in force at the beginning -/
def hD0 : XH := fun o k => if o = 188 then i0 188 (k - 95) else if o = 190 then i0 190 (k - 14) else 0
theorem hD0_8 {k : Nat} : hD0 188 k = i0 188 (k - 95) := if_pos rfl
theorem hD0_0 {k : Nat} : hD0 190 k = i0 190 (k - 14) := (if_neg (by decide)).trans (if_pos rfl)
theorem hD0_2 {k : Nat} : hD0 182 k = 0 := (if_neg (by decide)).trans (if_neg (by decide))
theorem hD0_n {k : Nat} (z1 : 95 ≤ k) (z2 : k < 190) (z3 : k ≠ 99) : hD0 188 k = 0 := by
  have g := of_decide_eq_true (List.all_eq_true.mp i_gr (k - 95) (List.mem_range.mpr (by omega)))
  rw [hD0_8, g, if_neg (by omega)]
theorem hD0_9 : hD0 188 99 = -1 := by
  have g := of_decide_eq_true (List.all_eq_true.mp i_gr 4 (List.mem_range.mpr (by decide)))
  rw [hD0_8]
  exact g.trans (if_pos rfl)
theorem hD0_rd : RD DD0 hD0 := by
  refine ⟨⟨⟨hD0_n (by decide) (by decide) (by decide), hD0_n (by decide) (by decide) (by decide), hD0_n (by decide) (by decide) (by decide), by decide, by decide, by decide⟩, fun k v z => (by cases z), fun k v z => (by cases z), fun k v z => (by cases z)⟩, ⟨hD0_n (by decide) (by decide) (by decide), by decide, by decide⟩, hD0_n (by decide) (by decide) (by decide), fun s hs => ?_, fun c x z => (by cases z), fun m x z => (by cases z), hD0_9, hD0_2⟩
  rw [hD0_n (k := 100 + s) (by omega) (by omega) (by omega)]
  rfl
theorem rf_i0 : RF DD0 i0 := by
  refine ⟨hD0, hD0_rd, fun q z => ?_, fun q z => ?_, fun q z => ?_⟩
  · rw [hD0_8, Nat.add_sub_cancel_left]
  · rw [hD0_2] at z
    omega
  · rw [hD0_0, Nat.add_sub_cancel_left]
theorem inv4_i0 : Inv4 i0 := by
  have p : ∀ k : Nat, k < 24 → i0 6 k = 0 ∧ i0 9 k = 0 ∧ i0 13 k = 0 := fun k z => by
    have t := List.all_eq_true.mp i_pl k (List.mem_range.mpr z)
    rw [Bool.and_eq_true, Bool.and_eq_true] at t
    exact ⟨of_decide_eq_true t.1.1, of_decide_eq_true t.1.2, of_decide_eq_true t.2⟩
  refine ⟨inv3_i0, DD0, ⟨⟨⟨(p 10 (by decide)).1, (p 11 (by decide)).1, (p 12 (by decide)).1, by decide, by decide, by decide⟩, fun k v z => (by cases z), fun k v z => (by cases z), fun k v z => (by cases z), List.nodup_nil⟩, ⟨(p 9 (by decide)).1, by decide, by decide⟩, fun s z => (p s (by omega)).2.1, fun k x z => (by cases z), ⟨fun k x z => (by cases z), fun k z => (p k (by omega)).2.2⟩, fun z => absurd rfl z⟩, rf_i0⟩
end INV4B
