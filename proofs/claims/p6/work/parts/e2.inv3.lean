/-! ===== what lasts from call to call, the bytes_w and words told_w ===== -/
def Inv3 (h : XH) : Prop := Inv0 h ∧ SmB (h 2 1) (h 3) (h 183) ∧ h 187 = wl
def r_n3 (r : Nat) : Bool := r_nf r && !(m_W r).2.contains 3 && !(m_W r).2.contains 183 && !(m_W r).2.contains 187
section INV3
variable {xs : Nat → Int} {L K n : Nat} {c d : Nat} {h h' h1 h2 : XH}
theorem Inv3.kp (hI : Inv3 h) (h0 : Inv0 h') (e2_w : h' 2 1 = h 2 1) (e3_w : h' 3 = h 3) (e8 : h' 183 = h 183) (e9_w : h' 187 = h 187) : Inv3 h' := by
  obtain ⟨-, a, b⟩ := hI
  refine ⟨h0, ?_, e9_w.trans b⟩
  rw [e2_w, e3_w, e8]; exact a
theorem FR.rows (f : FR g_ro h h') : h' 2 1 = h 2 1 ∧ h' 3 = h 3 ∧ h' 183 = h 183 ∧ h' 187 = h 187 := ⟨f 2 1 ro_21, funext fun k => f 3 k ro_t, funext fun k => f 183 k (ro_ge (by decide)), funext fun k => f 187 k (ro_ge (by decide))⟩
/-- a call of the class that is_w neither feed nor grid nor work: what it leaves as_w it is_w -/
theorem cls_fr (hK_w : 4294967300 ≤ K) {f : Nat} (hd_w : g_dp f < n) (hd2 : g_dp f < 99999) {av : List Int} (hL : Lnk h) (hv : VL (fun _ => 0) a_g3 ((g_T 0).2.1 f) av) : ∃ cc r g' h', evF xs L g_ck K g_cW g_M n f av ((a_g3, c, d), h) = some (cc, r, (g', h')) ∧ FR g_ro h h' := by
  obtain ⟨k1_w, k2⟩ := g_cls (xs := xs) (L := L) (c := c) (d := d) hK_w n f hd_w hd2
  obtain ⟨cc, r, g', h', e1_w, e2_w, e3_w, e4_w⟩ := k1_w av h hL.1 hv
  exact ⟨cc, r, g', h', e1_w, e3_w⟩
theorem ref_3 {r : Nat} (hf : r_n3 r = true) {ws_w v : List Int} {g g' : XS × Nat × Nat} {cc : Nat} (hg : g.1 = a_g3) (e : evF xs L g_ck K g_cW g_M n r (182 :: ws_w) (g, h) = some (cc, v, (g', h'))) : r_nf r = true ∧ h' 2 1 = h 2 1 ∧ h' 3 = h 3 ∧ h' 183 = h 183 ∧ h' 187 = h 187 := by
  simp only [r_n3, Bool.and_eq_true, Bool.not_eq_true'] at hf
  obtain ⟨⟨⟨f1_w, f2_w⟩, f3_w⟩, f4_w⟩ := hf
  have f5_w := f1_w
  simp only [r_nf, Bool.and_eq_true, Bool.not_eq_true'] at f5_w
  obtain ⟨-, fr⟩ := fr_all n r (182 :: ws_w) _ _ _ _ _ _ f5_w.1.1.1.1 hg (Or.inr rfl) e
  exact ⟨f1_w, fr 2 1 (fun z => absurd z (by decide)) f5_w.2, funext fun k => fr 3 k (fun z => absurd z (by decide)) f2_w, funext fun k => fr 183 k (fun z => absurd z (by decide)) f3_w, funext fun k => fr 187 k (fun z => absurd z (by decide)) f4_w⟩
theorem pair_i3 (hK2 : 20000000000 ≤ K) (hn : n < 99999) {f r : Nat} (hd_w : g_dp f < n) (ht : g_THR f = false) (hr : r_dp r < n) (hf : r_n3 r = true) {vs ws_w : List Int} (ha_w : VL (fun _ => 0) a_g3 ((g_T 0).2.1 f) vs) (hv : ∀ P, IL P (qP (r_T 0) r) (182 :: ws_w)) (hI : Inv3 h) : ∃ (v1_w v2 : List Int) (h1 h2 : XH), evF xs L g_ck K g_cW g_M n f vs ((a_g3, c, d), h) = some (1, v1_w, ((a_g3, c, d), h1)) ∧ evF xs L g_ck K g_cW g_M n r (182 :: ws_w) ((a_g3, c, d), h1) = some (1, v2, ((a_g3, c, d), h2)) ∧ Inv3 h2 := by
  have f1_w : r_nf r = true := by
    simp only [r_n3, Bool.and_eq_true] at hf
    exact hf.1.1.1
  obtain ⟨v1_w, v2, h1, h2, e1_w, e2_w, e3_w⟩ := pair_inv (xs := xs) (L := L) (c := c) (d := d) hK2 hn hd_w ht hr f1_w ha_w hv hI.1
  obtain ⟨cc, r1_w, g', h1', q1_w, q2_w⟩ := cls_fr (xs := xs) (L := L) (K := K) (c := c) (d := d) (n := n) (f := f) (by omega) hd_w (by omega) hI.1.1 ha_w
  have u : h1' = h1 := by
    have t := q1_w.symm.trans e1_w
    cases t
    rfl
  subst u
  obtain ⟨a1_w, a2, a3, a4⟩ := q2_w.rows
  obtain ⟨-, b1, b2, b3, b4⟩ := ref_3 (g := (a_g3, c, d)) hf rfl e2_w
  exact ⟨v1_w, v2, h1', h2, e1_w, e2_w, hI.kp e3_w (b1.trans a1_w) (b2.trans a2) (b3.trans a3) (b4.trans a4)⟩
/-- one that catches: what it leaves as_w it is_w -/
theorem catch_fr (hK_w : 4294967300 ≤ K) {q f o ml_w : Nat} {pk_w rk : List Nat} {A : SX} {vs en : List Int} (hm_w : g_M q = (0, ml_w, pk_w, rk, sx 2 (sx 24 (sx 3 (sv o) z0 z0) A (sv f)) (sx 16 (sx 1 z0 (sv 1) z0) z0 z0) z0)) (hen : j_pad 0 ml_w (j_lay pk_w (vs ++ [203])) = en) (ho : en.getD o 0 = 203) (hA : ∀ st, evE xs L g_ck (evF xs L g_ck K g_cW g_M n) g_cW A en st = some (vs, st)) (hd_w : g_dp f < n) (hn : n < 99999) (hR : (g_T 0).2.2.1 f = [1]) (ha_w : VL (fun _ => 0) a_g3 ((g_T 0).2.1 f) vs) (hI : Inv0 h) :
    ∃ (v : List Int) (c' d' : Nat) (h' : XH), evF xs L g_ck K g_cW g_M (n + 1) q (vs ++ [203]) ((a_g3, c, d), h) = some (1, v, ((a_g3, c', d'), h')) ∧ Inv0 h' ∧ c' ≤ c + 1 ∧ d' ≤ d + 6 ∧ h' 2 1 = h 2 1 ∧ h' 3 = h 3 ∧ h' 183 = h 183 ∧ h' 187 = h 187 := by
  obtain ⟨cc, v1_w, g', h1, e1_w, e2_w, e3_w, e4_w⟩ := cls_lnk (xs := xs) (L := L) (K := K) (c := c) (d := d) (n := n) (f := f) hK_w hd_w (by omega) hI.1 ha_w
  obtain ⟨cc', r1', g1', h1', q1_w, q2_w⟩ := cls_fr (xs := xs) (L := L) (K := K) (c := c) (d := d) (n := n) (f := f) hK_w hd_w (by omega) hI.1 ha_w
  have u : h1' = h1 := by
    have t := q1_w.symm.trans e1_w
    cases t
    rfl
  subst u
  obtain ⟨a1_w, a2, a3, a4⟩ := q2_w.rows
  have hI1 : Inv0 h1' := ⟨e2_w, hI.2.kp e2_w.1 (fun o k a _ => e3_w o k a)⟩
  have key_w : ∀ r, evS xs L g_ck (evF xs L g_ck K g_cW g_M n) K g_cW (sx 2 (sx 24 (sx 3 (sv o) z0 z0) A (sv f)) (sx 16 (sx 1 z0 (sv 1) z0) z0 z0) z0) en ((a_g3, c, d), h) = some r → (r.1 = 1 ∨ r.1 = 4) ∧ c ≤ r.2.2.2.1.2.1 ∧ d ≤ r.2.2.2.1.2.2 ∧ (a_g3.map (·.1)).isPrefixOf (r.2.2.2.1.1.map (·.1)) = true → evF xs L g_ck K g_cW g_M (n + 1) q (vs ++ [203]) ((a_g3, c, d), h) = some (r.1, r.2.1, r.2.2.2) := fun r k1_w k2 => by
    unfold evF
    rw [hm_w]
    show (evS xs L g_ck (evF xs L g_ck K g_cW g_M n) K g_cW _ (j_pad 0 ml_w (j_lay pk_w (vs ++ [203]))) ((a_g3, c, d), h)).bind _ = _
    rw [hen, k1_w, Option.bind_some]
    exact if_pos k2
  rcases e4_w with ⟨rfl, rfl, hr⟩ | ⟨rfl, -, rfl⟩
  · rw [hR] at hr
    obtain ⟨v, rfl, hv⟩ := VL.one hr
    have u : ∀ o k : Nat, o ≠ 203 → j_up h1' 203 0 v o k = h1' o k := fun o k e => up_ne (fun z => e z.1)
    refine ⟨[0], c, d, j_up h1' 203 0 v, key_w (1, [0], en, ((a_g3, c, d), j_up h1' 203 0 v)) ?_ (chk_self (g := (a_g3, c, d))), out_inv hI1 (hv.1 rfl), by omega, by omega, (u 2 1 (by decide)).trans a1_w, (funext fun k => u 3 k (by decide)).trans a2, (funext fun k => u 183 k (by decide)).trans a3, (funext fun k => u 187 k (by decide)).trans a4⟩
    rw [es_2, es_24, es_16]
    unfold s_seq s_try
    rw [ee_3]
    show (((evE xs L g_ck (evF xs L g_ck K g_cW g_M n) g_cW A en ((a_g3, c, d), h)).bind _)).bind _ = _
    rw [hA, Option.bind_some]
    show ((evF xs L g_ck K g_cW g_M n f vs ((a_g3, c, d), h)).bind _).bind _ = _
    rw [e1_w, Option.bind_some]
    have z : j_hd [en.getD (sx_n (sv o)) 0] = 203 := ho
    simp only [z]
    rfl
  · refine ⟨[1], c + 1, d + 6, h1', key_w (1, [1], en, ((a_g3, c + 1, d + 6), h1')) ?_ (chk_one (c := c) (d := d)), hI1, by omega, by omega, a1_w, a2, a3, a4⟩
    rw [es_2, es_24, es_16]
    unfold s_seq s_try
    rw [ee_3]
    show (((evE xs L g_ck (evF xs L g_ck K g_cW g_M n) g_cW A en ((a_g3, c, d), h)).bind _)).bind _ = _
    rw [hA, Option.bind_some]
    show ((evF xs L g_ck K g_cW g_M n f vs ((a_g3, c, d), h)).bind _).bind _ = _
    rw [e1_w]
    rfl
theorem feed_i3 (hK_w : 4294967300 ≤ K) {a b e : Int} (hI : Inv3 h) : ∃ (v : Int) (h1 h2 : XH), evF xs L g_ck K g_cW g_M (n + 2) 1 [0, a, b, e] ((a_g3, c, d), h) = some (1, [v], ((a_g3, c, d), h1)) ∧ evF xs L g_ck K g_cW g_M (n + 2) 183 [182, a, b, e] ((a_g3, c, d), h1) = some (1, [v], ((a_g3, c, d), h2)) ∧ Inv3 h2 := by
  obtain ⟨v, h1, h2, e1_w, f1_w, hI2⟩ := feed_inv (xs := xs) (L := L) (K := K) (n := n) (c := c) (d := d) (a := a) (b := b) (e := e) hK_w hI.1
  obtain ⟨hI0, hS_w, hW⟩ := hI
  obtain ⟨hH, m0_w, m1_w, hm_w⟩ := hI0.1
  obtain ⟨h1', e1', g1⟩ := fqA2 (xs := xs) (L := L) (ck := g_ck) (cW := g_cW) (K := K) (n := n) (a := a) (b := b) (c := e) (g := (a_g3, c, d)) (h := h) (by omega) fg_1 fg_2 fg_3 fg_4 (by decide) rfl ⟨m0_w, m1_w⟩
  have ev_w : v = fclT (h 2 1) a b e ∧ h1' = h1 := by
    have t := e1'.symm.trans e1_w
    cases t
    exact ⟨rfl, rfl⟩
  obtain ⟨ev_w, u1⟩ := ev_w
  subst u1
  obtain ⟨h1'', e1'', z1, e3_w⟩ := fqA (xs := xs) (L := L) (ck := g_ck) (cW := g_cW) (K := K) (n := n) (a := a) (b := b) (c := e) (g := (a_g3, c, d)) (h := h) (by omega) fg_1 fg_2 fg_3 fg_4 (by decide) rfl ⟨m0_w, m1_w⟩
  have u2_w : h1'' = h1' := by
    have t := e1''.symm.trans e1_w
    cases t
    rfl
  subst u2_w
  have k1_w : KeptC h h1'' := e3_w (fun x => KeptC h x) (fun x m s p => by
    unfold upA
    split
    · intro o k ho
      have t2_w : (2 : Int).toNat = 2 := rfl
      have t3_w : (3 : Int).toNat = 3 := rfl
      rw [up_ne (fun z => by have := z.1; omega), up_ne (fun z => by have := z.1; omega)]
      exact p o k ho
    · exact p) (fun _ _ _ => rfl)
  have hm1 : h1'' 182 2 = h 2 1 := (k1_w 182 2 (Nat.le_refl _)).trans hm_w
  obtain ⟨h2', f1', g2⟩ := fqM2 (xs := xs) (L := L) (ck := g_ck) (cW := g_cW) (K := K) (n := n) (a := a) (b := b) (c := e) (g := (a_g3, c, d)) (h := h1'') (by omega) fg_5 fg_6 (by decide) hm1 ⟨m0_w, m1_w⟩
  have u3 : h2' = h2 := by
    have t := f1'.symm.trans f1_w
    cases t
    rfl
  subst u3
  obtain ⟨h2'', f1'', z2, f3_w⟩ := fqM (xs := xs) (L := L) (ck := g_ck) (cW := g_cW) (K := K) (n := n) (a := a) (b := b) (c := e) (g := (a_g3, c, d)) (h := h1'') (by omega) fg_5 fg_6 (by decide) hm1 ⟨m0_w, m1_w⟩
  have u4_w : h2'' = h2' := by
    have t := f1''.symm.trans f1_w
    cases t
    rfl
  subst u4_w
  have key_w := f3_w (fun x => ∀ o k : Nat, o ≠ 182 → o ≠ 183 → x o k = h1'' o k) (fun x m s _ p => by
    unfold upM
    split
    · intro o k a b
      have t2_w : (182 : Int).toNat = 182 := rfl
      have t3_w : (183 : Int).toNat = 183 := rfl
      rw [up_ne (fun z => by have := z.1; omega), up_ne (fun z => by have := z.1; omega)]
      exact p o k a b
    · exact p) (fun o k a _ => up_ne (fun z => a z.1))
  have w1_w : h1'' 3 = fcT (h 2 1) a b e (h 3) := g1
  have w2_w : h2'' 183 = fcT (h 2 1) a b e (h1'' 183) := g2
  have w3_w : h1'' 183 = h 183 := funext fun k => k1_w 183 k (by decide)
  have w4_w : h2'' 3 = h1'' 3 := funext fun k => key_w 3 k (by decide) (by decide)
  have w5 : h2'' 2 1 = fclT (h 2 1) a b e := (key_w 2 1 (by decide) (by decide)).trans z1
  refine ⟨v, h1'', h2'', e1_w, f1_w, hI2, ?_, ?_⟩
  · rw [w4_w, w1_w, w2_w, w3_w, w5]
    exact fcT_sm ⟨m0_w, m1_w⟩ hS_w
  · rw [← hW]
    exact funext fun k => (key_w 187 k (by decide) (by decide)).trans (k1_w 187 k (by decide))
theorem smB_0 {X Y : Nat → Int} : SmB 0 X Y := fun k z => absurd z (by omega)
theorem grid_i3 (hK2 : 20000000000 ≤ K) (hn : n + 41 < 99999) (hI : Inv3 h) : ∃ (v : Int) (h1 h2 : XH), evF xs L g_ck K g_cW g_M (n + 41) 2 [0] ((a_g3, c, d), h) = some (1, [v], ((a_g3, c, d), h1)) ∧ evF xs L g_ck K g_cW g_M (n + 41) 206 [182] ((a_g3, c, d), h1) = some (1, [v], ((a_g3, c, d), h2)) ∧ Inv3 h2 := by
  obtain ⟨v1_w, v2, h1, h2, e1_w, e2_w, e3_w⟩ := grid_inv (xs := xs) (L := L) (K := K) (c := c) (d := d) (n := n) hK2 hn hI.1
  obtain ⟨hI0, hS_w, hW⟩ := hI
  obtain ⟨hH, m0_w, m1_w, hm_w⟩ := hI0.1
  obtain ⟨v, h1', q1_w, q2_w, q3_w, q4_w⟩ := grid_ok (xs := xs) (L := L) (K := K) (c := c) (d := d) (n := n + 40) (by omega) (by omega) hH
  have u : v1_w = [v] ∧ h1' = h1 := by
    have t := q1_w.symm.trans e1_w
    cases t
    exact ⟨rfl, rfl⟩
  obtain ⟨rfl, u⟩ := u
  subst u
  -- what the reference_w answers_w
  have hm2 : h1' 182 2 = (((h 2 1).toNat : Nat) : Int) := by rw [q4_w 182 2 (Nat.le_refl _), hm_w]; omega
  have c206 : CS8 206 [182] h1' (fun k r h' => k = 1 → ∃ N S P V, TOK (h1' 183) (h 2 1).toNat N S P V ∧ r = [resG S P V (h1' 187)]) := by
    rw [cs8_206, kk_206]
    exact ⟨_, hm2, by omega, fun r h' ⟨N, S, P, V, a, b⟩ _ => ⟨N, S, P, V, a, by rw [b]⟩⟩
  obtain ⟨N, S, P, V, tok, er⟩ := (snd_8 (n + 41) _ _ _ _ _ c206 _ _ _ _ e2_w).2 rfl
  -- the class's answer_w is_w the same
  have eb : ∀ k : Nat, k < (h 2 1).toNat → h1' 183 k = h 3 k := fun k z => by
    rw [q4_w 183 k (by decide)]
    exact (hS_w k (by omega)).1.symm
  have tok2 : TOK (h 3) (h 2 1).toNat N S P V := tok.eq eb
  have c2 : CS21 2 [0] h (fun k r h' => k = 1 → r = [resG S P V wl]) := by
    rw [cs21_2, kk_2]
    refine ⟨((h 2 1).toNat, N, S, P, V), ?_, ⟨by show h 2 1 = (((h 2 1).toNat : Nat) : Int); omega, by show (h 2 1).toNat ≤ 1000; omega, fun k z => (hS_w k (by have : k < (h 2 1).toNat := z; omega)).2⟩, tok2, tok.gd, fun h' _ => rfl⟩
    have := tok.le
    show N ≤ 1000
    omega
  have ec := (snd_21 (n + 41) _ _ _ _ _ c2 _ _ _ _ e1_w).2 rfl
  have ew : h1' 187 = wl := (funext fun k => q4_w 187 k (by decide)).trans hW
  have e4_w : v2 = [v] := by rw [er, ew, ec]
  subst e4_w
  obtain ⟨-, fr⟩ := fr_all (n + 41) 206 [182] _ _ _ _ _ _ (by decide) rfl (Or.inr rfl) e2_w
  refine ⟨v, h1', h2, e1_w, e2_w, e3_w, ?_, ?_⟩
  · have qt : h2 2 1 = 0 := (fr 2 1 (fun z => absurd z (by decide)) (by decide)).trans q3_w
    rw [qt]
    exact smB_0
  · rw [← hW]
    exact funext fun k => (fr 187 k (fun z => absurd z (by decide)) (by decide)).trans (q4_w 187 k (by decide))
theorem work_i3 (hK2 : 20000000000 ≤ K) (hn : n + 41 < 99999) (hI : Inv3 h) : ∃ (v1_w v2 : List Int) (h1 h2 : XH), evF xs L g_ck K g_cW g_M (n + 41) 4 [0] ((a_g3, c, d), h) = some (1, v1_w, ((a_g3, c, d), h1)) ∧ evF xs L g_ck K g_cW g_M (n + 41) 214 [182] ((a_g3, c, d), h1) = some (1, v2, ((a_g3, c, d), h2)) ∧ Inv3 h2 := by
  obtain ⟨v1_w, v2, h1, h2, e1_w, e2_w, e3_w⟩ := work_inv (xs := xs) (L := L) (K := K) (c := c) (d := d) (n := n) hK2 hn hI.1
  obtain ⟨hI0, hS_w, hW⟩ := hI
  obtain ⟨v, h1', q1_w, q2_w, q3_w, q4_w⟩ := work_ok (xs := xs) (L := L) (K := K) (c := c) (d := d) (n := n + 40) (by omega) (by omega) hI0.1.1
  have u : h1' = h1 := by
    have t := q1_w.symm.trans e1_w
    cases t
    rfl
  subst u
  obtain ⟨-, fr⟩ := fr_all (n + 41) 214 [182] _ _ _ _ _ _ (by decide) rfl (Or.inr rfl) e2_w
  refine ⟨v1_w, v2, h1', h2, e1_w, e2_w, e3_w, ?_, ?_⟩
  · have qt : h2 2 1 = 0 := (fr 2 1 (fun z => absurd z (by decide)) (by decide)).trans q3_w
    rw [qt]
    exact smB_0
  · rw [← hW]
    exact funext fun k => (fr 187 k (fun z => absurd z (by decide)) (by decide)).trans (q4_w 187 k (by decide))
theorem i_wl : (List.range 24).all (fun k => decide (i0 187 k = wl k)) = true := by decide +kernel
theorem i_wl2 : (a_h3.getD 187 []).all (fun p => decide (p.1 < 24)) = true := by decide +kernel
theorem i_wl3 : i0 187 = wl := funext fun k => by
  by_cases z : k < 24
  · exact of_decide_eq_true (List.all_eq_true.mp i_wl k (List.mem_range.mpr z))
  · have e : wl k = 0 := by
      unfold wl
      rw [List.getD_eq_getElem?_getD, List.getElem?_eq_none (by show 24 ≤ k; omega)]
      rfl
    rw [e]
    unfold i0
    rw [lookH_row]
    rcases lookR_in (a_h3.getD 187 []) k with y | y
    · rw [y]
      rfl
    · exact absurd (of_decide_eq_true (List.all_eq_true.mp i_wl2 _ y)) z
theorem inv3_i0 : Inv3 i0 := by
  refine ⟨inv_i0, ?_, i_wl3⟩
  obtain ⟨q1_w, q2_w, q3_w, q4_w, q5_w, q6_w, q7_w⟩ := i_188
  rw [q6_w]
  exact smB_0
end INV3
