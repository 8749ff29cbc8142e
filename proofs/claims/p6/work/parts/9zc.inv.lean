/-! ===== what lasts from call to call, in both_w ===== -/
/-- the link and the reference's side_w -/
def Inv0 (h : XH) : Prop := Lnk h ∧ LQ h
section INV
variable {xs : Nat → Int} {L K n : Nat} {c d : Nat} {h h' h1 h2 : XH}
theorem ra_out {q : Nat} (hq : 203 ≤ q) : r_A q = (0, 0, []) := by
  unfold r_A
  rw [show Nat.ble 183 q = true from Nat.ble_eq.mpr (by omega)]
  rw [cond_true]
  rw [List.getD_eq_getElem?_getD, List.getElem?_eq_none (by have : r_As.length = 20 := rfl; omega)]
  rfl
/-- the reference's side_w asks_w for_w its own_w cells_w alone_w -/
theorem LQ.kp (hH : HT g_fk a_g3 h') (hk : ∀ o k : Nat, 182 ≤ o → o < 203 → h' o k = h o k) (hq : LQ h) : LQ h' := by
  obtain ⟨P, hQ, hD, h0, h1⟩ := hq
  have eo : ∀ o : Nat, 182 ≤ o → o < 203 → h' o = h o := fun o a b => funext fun k => hk o k a b
  refine ⟨P, ⟨hH, fun k => ?_, fun q hq => ?_, ?_⟩, ?_, ?_, ?_⟩
  · rw [hk 182 k (by decide) (by decide)]
    exact hQ.2.1 k
  · by_cases hi_w : q < 203
    · rw [eo q (by omega) hi_w]
      exact hQ.2.2.1 q hq
    · intro r hr
      have e : qA (r_T 0) q = (0, 0, []) := ra_out (by omega)
      rw [e] at hr
      cases hr
  · have hj := hQ.2.2.2
    unfold RJ at hj ⊢
    rw [eo 188 (by decide) (by decide), eo 189 (by decide) (by decide), eo 191 (by decide) (by decide)]
    exact hj
  · unfold DG
    rw [eo 188 (by decide) (by decide)]
    exact hD
  · rw [hk 182 12 (by decide) (by decide)]
    exact h0
  · rw [hk 182 12 (by decide) (by decide)]
    exact h1
def r_nf (r : Nat) : Bool := m_in r && !(m_W r).1.contains 2 && !(m_W r).1.contains 12 && !(m_W r).2.contains 182 && !(m_W r).2.contains 2
/-- a call of the reference_w behind_w its parser -/
theorem ref_inv (hK2 : 20000000000 ≤ K) (hn : n < 99999) {r : Nat} (hd_w : r_dp r < n) (hf : r_nf r = true) {vs : List Int} (hv : ∀ P, IL P (qP (r_T 0) r) (182 :: vs)) (hI : Inv0 h) : ∃ v h', evF xs L g_ck K g_cW g_M n r (182 :: vs) ((a_g3, c, d), h) = some (1, v, ((a_g3, c, d), h')) ∧ Inv0 h' ∧ Fr (m_W r) h h' := by
  obtain ⟨⟨hH, m0_w, m1_w, hm_w⟩, P, hQ, hD, k0_w, k1_w⟩ := hI
  simp only [r_nf, Bool.and_eq_true, Bool.not_eq_true'] at hf
  obtain ⟨⟨⟨⟨f1_w, f2_w⟩, f3_w⟩, f4_w⟩, f5_w⟩ := hf
  obtain ⟨v, h', e1_w, e2_w, e3_w, -, -⟩ := r_ref (P := P) (g := (c, d)) (xs := xs) (L := L) (ck := g_ck) (cW := g_cW) hK2 hd_w hn (182 :: vs) h hQ (hv P)
  obtain ⟨-, fr⟩ := fr_all n r (182 :: vs) _ _ _ _ _ _ f1_w rfl (Or.inr rfl) e1_w
  have q2_w : h' 182 2 = h 182 2 := fr 182 2 (fun _ => f2_w) f4_w
  have q12_w : h' 182 12 = h 182 12 := fr 182 12 (fun _ => f3_w) f4_w
  have qt : h' 2 1 = h 2 1 := fr 2 1 (fun z => absurd z (by decide)) f5_w
  refine ⟨v, h', e1_w, ⟨⟨e2_w.1, by rw [qt]; exact m0_w, by rw [qt]; exact m1_w, by rw [q2_w, qt]; exact hm_w⟩, P, e2_w, ?_, by rw [q12_w]; exact k0_w, by rw [q12_w]; exact k1_w⟩, fr⟩
  have e8 : h' 188 = h 188 := funext fun k => e3_w 188 k rfl
  unfold DG
  rw [e8]
  exact hD
/-- a call of both_w -/
theorem pair_inv (hK2 : 20000000000 ≤ K) (hn : n < 99999) {f r : Nat} (hd_w : g_dp f < n) (ht : g_THR f = false) (hr : r_dp r < n) (hf : r_nf r = true) {vs ws_w : List Int} (ha_w : VL (fun _ => 0) a_g3 ((g_T 0).2.1 f) vs) (hv : ∀ P, IL P (qP (r_T 0) r) (182 :: ws_w)) (hI : Inv0 h) : ∃ (v1_w v2 : List Int) (h1 h2 : XH), evF xs L g_ck K g_cW g_M n f vs ((a_g3, c, d), h) = some (1, v1_w, ((a_g3, c, d), h1)) ∧ evF xs L g_ck K g_cW g_M n r (182 :: ws_w) ((a_g3, c, d), h1) = some (1, v2, ((a_g3, c, d), h2)) ∧ Inv0 h2 := by
  obtain ⟨cc, v1_w, g', h1, e1_w, e2_w, e3_w, e4_w⟩ := cls_lnk (xs := xs) (L := L) (K := K) (c := c) (d := d) (n := n) (f := f) (by omega) hd_w (by omega) hI.1 ha_w
  have hI1 : Inv0 h1 := ⟨e2_w, hI.2.kp e2_w.1 (fun o k a _ => e3_w o k a)⟩
  rcases e4_w with ⟨rfl, rfl, -⟩ | ⟨-, z, -⟩
  · obtain ⟨v2, h2, f1_w, f2_w, -⟩ := ref_inv (xs := xs) (L := L) (c := c) (d := d) hK2 hn hr hf hv hI1
    exact ⟨v1_w, v2, h1, h2, e1_w, f1_w, f2_w⟩
  · rw [ht] at z
    cases z
theorem c_203 : ∀ k, c_ty g_fk a_g3 203 k = 2 := by
  obtain ⟨c', h, e⟩ := kd_ty (q := 203) (kd := 7) (by decide +kernel)
  exact fun k => (ty_arr h k).2.1 e
theorem in_il {v : Int} (h : InI v) : InL v := ⟨by have := h.1; omega, by have := h.2; omega⟩
theorem out_inv (hI : Inv0 h) {v : Int} (hv : InI v) : Inv0 (j_up h 203 0 v) := by
  have hH : HT g_fk a_g3 (j_up h 203 0 v) := hI.1.1.up (fun e => absurd ((c_203 0).symm.trans e) (by decide)) (fun _ => in_il hv) (fun e => absurd ((c_203 0).symm.trans e) (by decide))
  have u : ∀ o k : Nat, o ≠ 203 → j_up h 203 0 v o k = h o k := fun o k e => up_ne (fun z => e z.1)
  refine ⟨⟨hH, ?_, ?_, ?_⟩, hI.2.kp hH (fun o k _ b => u o k (by omega))⟩
  · rw [u 2 1 (by decide)]; exact hI.1.2.1
  · rw [u 2 1 (by decide)]; exact hI.1.2.2.1
  · rw [u 2 1 (by decide), u 182 2 (by decide)]; exact hI.1.2.2.2
theorem chk_one : ((1 : Nat) = 1 ∨ (1 : Nat) = 4) ∧ c ≤ c + 1 ∧ d ≤ d + 6 ∧ (a_g3.map (·.1)).isPrefixOf (a_g3.map (·.1)) = true := ⟨Or.inl rfl, by omega, by omega, (chk_self (g := (a_g3, c, d))).2.2.2⟩
/-- one that catches: what it answers_w -/
theorem catch_inv (hK_w : 4294967300 ≤ K) {q f o ml_w : Nat} {pk_w rk : List Nat} {A : SX} {vs en : List Int} (hm_w : g_M q = (0, ml_w, pk_w, rk, sx 2 (sx 24 (sx 3 (sv o) z0 z0) A (sv f)) (sx 16 (sx 1 z0 (sv 1) z0) z0 z0) z0)) (hen : j_pad 0 ml_w (j_lay pk_w (vs ++ [203])) = en) (ho : en.getD o 0 = 203) (hA : ∀ st, evE xs L g_ck (evF xs L g_ck K g_cW g_M n) g_cW A en st = some (vs, st)) (hd_w : g_dp f < n) (hn : n < 99999) (hR : (g_T 0).2.2.1 f = [1]) (ha_w : VL (fun _ => 0) a_g3 ((g_T 0).2.1 f) vs) (hI : Inv0 h) :
    ∃ (v : List Int) (c' d' : Nat) (h' : XH), evF xs L g_ck K g_cW g_M (n + 1) q (vs ++ [203]) ((a_g3, c, d), h) = some (1, v, ((a_g3, c', d'), h')) ∧ Inv0 h' ∧ c' ≤ c + 1 ∧ d' ≤ d + 6 := by
  obtain ⟨cc, v1_w, g', h1, e1_w, e2_w, e3_w, e4_w⟩ := cls_lnk (xs := xs) (L := L) (K := K) (c := c) (d := d) (n := n) (f := f) hK_w hd_w (by omega) hI.1 ha_w
  have hI1 : Inv0 h1 := ⟨e2_w, hI.2.kp e2_w.1 (fun o k a _ => e3_w o k a)⟩
  have key_w : ∀ r, evS xs L g_ck (evF xs L g_ck K g_cW g_M n) K g_cW (sx 2 (sx 24 (sx 3 (sv o) z0 z0) A (sv f)) (sx 16 (sx 1 z0 (sv 1) z0) z0 z0) z0) en ((a_g3, c, d), h) = some r → (r.1 = 1 ∨ r.1 = 4) ∧ c ≤ r.2.2.2.1.2.1 ∧ d ≤ r.2.2.2.1.2.2 ∧ (a_g3.map (·.1)).isPrefixOf (r.2.2.2.1.1.map (·.1)) = true → evF xs L g_ck K g_cW g_M (n + 1) q (vs ++ [203]) ((a_g3, c, d), h) = some (r.1, r.2.1, r.2.2.2) := fun r k1_w k2 => by
    unfold evF
    rw [hm_w]
    show (evS xs L g_ck (evF xs L g_ck K g_cW g_M n) K g_cW _ (j_pad 0 ml_w (j_lay pk_w (vs ++ [203]))) ((a_g3, c, d), h)).bind _ = _
    rw [hen, k1_w, Option.bind_some]
    exact if_pos k2
  rcases e4_w with ⟨rfl, rfl, hr⟩ | ⟨rfl, -, rfl⟩
  · rw [hR] at hr
    obtain ⟨v, rfl, hv⟩ := VL.one hr
    refine ⟨[0], c, d, j_up h1 203 0 v, key_w (1, [0], en, ((a_g3, c, d), j_up h1 203 0 v)) ?_ (chk_self (g := (a_g3, c, d))), out_inv hI1 (hv.1 rfl), by omega, by omega⟩
    rw [es_2, es_24, es_16]
    unfold s_seq s_try
    rw [ee_3]
    show (((evE xs L g_ck (evF xs L g_ck K g_cW g_M n) g_cW A en ((a_g3, c, d), h)).bind _)).bind _ = _
    rw [hA, Option.bind_some]
    show ((evF xs L g_ck K g_cW g_M n f vs ((a_g3, c, d), h)).bind _).bind _ = _
    rw [e1_w, Option.bind_some]
    have z : j_hd [en.getD (sx_n (sv o)) 0] = 203 := ho
    simp only [z]
    rfl
  · refine ⟨[1], c + 1, d + 6, h1, key_w (1, [1], en, ((a_g3, c + 1, d + 6), h1)) ?_ (chk_one (c := c) (d := d)), hI1, by omega, by omega⟩
    rw [es_2, es_24, es_16]
    unfold s_seq s_try
    rw [ee_3]
    show (((evE xs L g_ck (evF xs L g_ck K g_cW g_M n) g_cW A en ((a_g3, c, d), h)).bind _)).bind _ = _
    rw [hA, Option.bind_some]
    show ((evF xs L g_ck K g_cW g_M n f vs ((a_g3, c, d), h)).bind _).bind _ = _
    rw [e1_w]
    rfl
end INV
