/-! ===== questions keep_w what lasts, the state_w told_w in both_w ===== -/
def r_n5 (r : Nat) : Bool := r_n4 r && !(m_W r).1.contains 18 && !(m_W r).2.contains 195
theorem u2_plan : ∀ o k : Nat, 6 ≤ o → o ≤ 24 → aW u2_W o k = false := aW_out (by decide) (by decide)
theorem u2_l70 : ∀ o k : Nat, 70 ≤ o → o ≤ 90 → aW u2_W o k = false := aW_out (by decide) (by decide)
theorem u2_l112 : ∀ o k : Nat, 112 ≤ o → o ≤ 156 → aW u2_W o k = false := aW_out (by decide) (by decide)
theorem u2_ref : ∀ o k : Nat, 182 ≤ o → o ≤ 100000 → aW u2_W o k = false := aW_out (by decide) (by decide)
/-- what is_w asked_w of the reference's call: no block_w but the tried one is_w changed -/
def BKp (xs : Nat → Int) (L K n : Nat) (r : Nat) (ws_w : List Int) : Prop := ∀ (c d : Nat) (h h' : XH) (v : List Int) (D : DD), RF D h → h 191 0 ≤ 30 → LNB h → evF xs L g_ck K g_cW g_M n r (182 :: ws_w) ((a_g3, c, d), h) = some (1, v, ((a_g3, c, d), h')) → BKq h h'
section INV6
variable {xs : Nat → Int} {L K n : Nat} {c d : Nat} {h h' hX h1 h2 : XH} {D : DD}
theorem cls_u2 {f : Nat} {p : List AVs × Option AVs} (ep : u2_T f = some p) {vs r : List Int} (la : LsA p.1 vs) {cd : Nat × Nat} {k : Nat} {g' : XS × Nat × Nat} (e : evF xs L g_ck K g_cW g_M n f vs ((a_g3, cd), h) = some (k, r, (g', h'))) : FrW u2_W h h' :=
  (snd_u2 n cd f vs h (fun _ _ x => FrW u2_W h x) ⟨p, ep, la, fun _ _ a _ => a, fun _ _ a => a⟩ k r g' h' e).2
theorem lnb_of (lq : LQ h) : h 191 0 ≤ 30 ∧ LNB h := by
  obtain ⟨P, hQ, -⟩ := lq
  have k3 := q_cell hQ (q := 188) (r := 3) (x := (3, 4, (7, 0, 0))) (by decide) rfl rfl (i := 3) (by decide) (by decide)
  have k1_w := q_cell hQ (q := 191) (r := 0) (x := (0, 1, (1, 0, 30))) (by decide) rfl rfl (i := 0) (by decide) (by decide)
  have p6_w : P.1 ≤ 6 := by
    have := k3.1
    have := k3.2.2
    omega
  refine ⟨k1_w.2.1, fun n z => ?_⟩
  obtain ⟨a, b, c⟩ := hQ.2.2.2.2.2 n z
  refine ⟨fun y => ?_, fun y => ?_, fun y => ?_⟩
  · have := a y
    omega
  · have := b y
    omega
  · have := c y
    omega
theorem bk_fr {r : Nat} {ws_w : List Int} (hf : m_in r = true) (z : (m_W r).2.contains 194 = false) : BKp xs L K n r ws_w := fun c d h h' v D _ _ _ e => by
  obtain ⟨-, fr⟩ := fr_all n r (182 :: ws_w) _ _ _ _ _ _ hf rfl (Or.inr rfl) e
  exact fun q _ => fr 194 q (fun y => absurd y (by decide)) z
theorem bk_273 {w : Int} : BKp xs L K n 273 [w] := fun c d h h' v D rf l30 ln e => by
  obtain ⟨y0, -, y3, D0, D12, m6_w⟩ := sz_rf rf
  have c : CS47 273 [182, w] h (fun k _ h' => BKq h h') := by
    rw [cs47_273, kk_273b]
    exact ⟨nM D, D.1.toNat, y3, m6_w, by omega, by omega, l30, ln, fun k r h' b => b⟩
  exact (snd_47 n _ _ _ _ _ c _ _ _ _ e).2
theorem bk_299 {a b e f : Int} : BKp xs L K n 299 [a, b, e, f] := fun c d h h' v D rf _ _ ev_w => by
  have c : CS47 299 [182, a, b, e, f] h (fun k _ h' => BKq h h') := by
    rw [cs47_299, kk_299b]
    exact ⟨D, rf, fun k r h' b => b⟩
  exact (snd_47 n _ _ _ _ _ c _ _ _ _ ev_w).2
theorem bk_300 {a b : Int} : BKp xs L K n 300 [a, b] := fun c d h h' v D rf _ _ ev_w => by
  obtain ⟨y0, -, y3, D0, D12, m6_w⟩ := sz_rf rf
  have c : CS47 300 [182, a, b] h (fun k _ h' => BKq h h') := by
    rw [cs47_300, kk_300b]
    exact ⟨by omega, fun k r h' b => b⟩
  exact (snd_47 n _ _ _ _ _ c _ _ _ _ ev_w).2
theorem bk_302 {a : Int} : BKp xs L K n 302 [a] := fun c d h h' v D rf _ _ ev_w => by
  obtain ⟨y0, -, y3, D0, D12, m6_w⟩ := sz_rf rf
  have c : CS47 302 [182, a] h (fun k _ h' => BKq h h') := by
    rw [cs47_302, kk_302b]
    exact ⟨by omega, fun k r h' b => b⟩
  exact (snd_47 n _ _ _ _ _ c _ _ _ _ ev_w).2
theorem bk_303 : BKp xs L K n 303 [] := fun c d h h' v D rf _ _ ev_w => by
  obtain ⟨y0, -, y3, D0, D12, m6_w⟩ := sz_rf rf
  have c : CS47 303 [182] h (fun k _ h' => BKq h h') := by
    rw [cs47_303, kk_303b]
    exact ⟨by omega, fun k r h' b => b⟩
  exact (snd_47 n _ _ _ _ _ c _ _ _ _ ev_w).2
theorem bk_310 {a b e : Int} : BKp xs L K n 310 [a, b, e] := fun c d h h' v D rf _ _ ev_w => by
  obtain ⟨y0, -, y3, D0, D12, m6_w⟩ := sz_rf rf
  have c : CS47 310 [182, a, b, e] h (fun k _ h' => BKq h h') := by
    rw [cs47_310, kk_310b]
    exact ⟨by omega, by omega, fun k r h' b => b⟩
  exact (snd_47 n _ _ _ _ _ c _ _ _ _ ev_w).2
/-- a question_w on_w both_w sides: what is_w told_w and the state_w are as_w they were -/
theorem J5.q {r : Nat} {ws_w v : List Int} (j : J5 h) (lq : LQ h) (w : FrW u2_W h hX) (w2_w : ∀ o k : Nat, o ≠ 203 → h1 o k = hX o k) (hf : r_n5 r = true) (hb_w : BKp xs L K n r ws_w) (e : evF xs L g_ck K g_cW g_M n r (182 :: ws_w) ((a_g3, c, d), h1) = some (1, v, ((a_g3, c, d), h2))) : J5 h2 := by
  obtain ⟨D, cd, rf, sm_w⟩ := j
  simp only [r_n5, Bool.and_eq_true, Bool.not_eq_true'] at hf
  obtain ⟨⟨f4_w, f18⟩, f195⟩ := hf
  have f4' := f4_w
  simp only [r_n4, r_n3, r_nf, Bool.and_eq_true, Bool.not_eq_true'] at f4'
  have fin_w : m_in r = true := f4'.1.1.1.1.1.1.1.1.1.1
  obtain ⟨-, fr⟩ := fr_all n r (182 :: ws_w) _ _ _ _ _ _ fin_w rfl (Or.inr rfl) e
  obtain ⟨-, -, b5, b6, b7⟩ := ref_4 (g := (a_g3, c, d)) f4_w rfl e
  have u : ∀ o, 182 ≤ o → o ≤ 202 → h1 o = h o := fun o a b => funext fun k => (w2_w o k (by omega)).trans (w o k (u2_ref o k a (by omega)))
  have e8 := u 188 (by decide) (by decide)
  have e9_w := u 189 (by decide) (by decide)
  have e0 := u 190 (by decide) (by decide)
  have e1_w := u 191 (by decide) (by decide)
  have e4_w := u 194 (by decide) (by decide)
  have e5_w := u 195 (by decide) (by decide)
  obtain ⟨l30, ln⟩ := lnb_of lq
  have rf1 : RF D h1 := rf.fr e8 e9_w e0
  have bk : BKq h1 h2 := hb_w c d h1 h2 v D rf1 (by rw [e1_w]; exact l30) (fun n z => by rw [e1_w] at z ⊢; exact ln n z) e
  have lo_w : ∀ o k : Nat, o < 182 → h2 o k = hX o k := fun o k z => (fr o k (fun y => by omega) (fr_lo fin_w (by omega))).trans (w2_w o k (by omega))
  have cl1 : ∀ o k : Nat, 70 ≤ o → o ≤ 90 ∨ (112 ≤ o ∧ o ≤ 156) → o ≤ 156 → h2 o k = h o k := fun o k a b z => (lo_w o k (by omega)).trans (w o k (by
    rcases b with b | b
    · exact u2_l70 o k a b
    · exact u2_l112 o k b.1 b.2))
  refine ⟨D, cd.fr (fun o k a b => (lo_w o k (by omega)).trans (w o k (u2_plan o k a b))), rf1.fr b5 b6 b7, sm_w.fr ⟨(lo_w 0 13 (by decide)).trans (w 0 13 (by decide)), (lo_w 0 14 (by decide)).trans (w 0 14 (by decide))⟩ cl1 (fun k z => (bk k z).trans (by rw [e4_w])) ?_ ⟨?_, ?_⟩⟩
  · rw [fr 182 18 (fun _ => f18) (fr_lo fin_w (by decide)), u 182 (by decide) (by decide)]
  · rw [fr 195 0 (fun y => absurd y (by decide)) f195, e5_w]
  · rw [fr 195 1 (fun y => absurd y (by decide)) f195, e5_w]
theorem pair_i5 (hK2 : 20000000000 ≤ K) (hn : n < 99999) {f r : Nat} {p : List AVs × Option AVs} (ep : u2_T f = some p) (hd_w : g_dp f < n) (ht : g_THR f = false) (hr : r_dp r < n) (hf : r_n5 r = true) {vs ws_w : List Int} (la : LsA p.1 vs) (ha_w : VL (fun _ => 0) a_g3 ((g_T 0).2.1 f) vs) (hv : ∀ P, IL P (qP (r_T 0) r) (182 :: ws_w)) (hb_w : BKp xs L K n r ws_w) (hI : Inv5 h) : ∃ (v1_w v2 : List Int) (h1 h2 : XH), evF xs L g_ck K g_cW g_M n f vs ((a_g3, c, d), h) = some (1, v1_w, ((a_g3, c, d), h1)) ∧ evF xs L g_ck K g_cW g_M n r (182 :: ws_w) ((a_g3, c, d), h1) = some (1, v2, ((a_g3, c, d), h2)) ∧ Inv5 h2 := by
  have f3_w : r_n3 r = true := by
    simp only [r_n5, r_n4, Bool.and_eq_true] at hf
    exact hf.1.1.1.1.1
  obtain ⟨v1_w, v2, h1, h2, e1_w, e2_w, e3_w⟩ := pair_i3 (xs := xs) (L := L) (c := c) (d := d) hK2 hn hd_w ht hr f3_w ha_w hv hI.1
  exact ⟨v1_w, v2, h1, h2, e1_w, e2_w, e3_w, hI.2.q hI.1.1.2 (cls_u2 ep la e1_w) (fun _ _ _ => rfl) hf hb_w e2_w⟩
/-- one of the seven_w that change the state_w -/
theorem deed_i5 (hK2 : 20000000000 ≤ K) (hn : n < 99999) {f r : Nat} (hd_w : g_dp f < n) (ht : g_THR f = false) (hr : r_dp r < n) (hf : r_n3 r = true) {vs ws_w : List Int} (ha_w : VL (fun _ => 0) a_g3 ((g_T 0).2.1 f) vs) (hv : ∀ P, IL P (qP (r_T 0) r) (182 :: ws_w)) (hq : ∀ (h1 h2 : XH) (D : DD) (r1_w r2 : List Int), CDw 6 D h → RF D h → SM D h → LQ h → evF xs L g_ck K g_cW g_M n f vs ((a_g3, c, d), h) = some (1, r1_w, ((a_g3, c, d), h1)) → evF xs L g_ck K g_cW g_M n r (182 :: ws_w) ((a_g3, c, d), h1) = some (1, r2, ((a_g3, c, d), h2)) → r1_w = r2 ∧ CDw 6 D h2 ∧ RF D h2 ∧ SM D h2) (hI : Inv5 h) : ∃ (v : List Int) (h1 h2 : XH), evF xs L g_ck K g_cW g_M n f vs ((a_g3, c, d), h) = some (1, v, ((a_g3, c, d), h1)) ∧ evF xs L g_ck K g_cW g_M n r (182 :: ws_w) ((a_g3, c, d), h1) = some (1, v, ((a_g3, c, d), h2)) ∧ Inv5 h2 := by
  obtain ⟨v1_w, v2, h1, h2, e1_w, e2_w, e3_w⟩ := pair_i3 (xs := xs) (L := L) (c := c) (d := d) hK2 hn hd_w ht hr hf ha_w hv hI.1
  obtain ⟨D, cd, rf, sm_w⟩ := hI.2
  obtain ⟨rfl, cd2, rf2, sm2⟩ := hq h1 h2 D v1_w v2 cd rf sm_w hI.1.1.2 e1_w e2_w
  exact ⟨v1_w, h1, h2, e1_w, e2_w, e3_w, D, cd2, rf2, sm2⟩
theorem try_i5 {q f r o ml_w : Nat} {pk_w rk : List Nat} {A : SX} {vs ws_w en : List Int} {p : List AVs × Option AVs} (ep : u2_T f = some p) (la : LsA p.1 vs) (hK2 : 20000000000 ≤ K) (hn : n + 41 < 99999) (hm_w : g_M q = (0, ml_w, pk_w, rk, sx 2 (sx 24 (sx 3 (sv o) z0 z0) A (sv f)) (sx 16 (sx 1 z0 (sv 1) z0) z0 z0) z0)) (hen : j_pad 0 ml_w (j_lay pk_w (vs ++ [203])) = en) (ho : en.getD o 0 = 203) (hA : ∀ st, evE xs L g_ck (evF xs L g_ck K g_cW g_M (n + 40)) g_cW A en st = some (vs, st)) (hd_w : g_dp f ≤ 30) (hR : (g_T 0).2.2.1 f = [1]) (ha_w : VL (fun _ => 0) a_g3 ((g_T 0).2.1 f) vs) (hr : r_dp r ≤ 30) (hf : r_n5 r = true) (hv : ∀ P, IL P (qP (r_T 0) r) (182 :: ws_w)) (hb_w : BKp xs L K (n + 41) r ws_w) :
    ∀ (c d : Nat) (h : XH), Inv5 h → ∃ (v1_w v2 : List Int) (c' d' : Nat) (h1 h2 : XH), evF xs L g_ck K g_cW g_M (n + 41) q (vs ++ [203]) ((a_g3, c, d), h) = some (1, v1_w, ((a_g3, c', d'), h1)) ∧ evF xs L g_ck K g_cW g_M (n + 41) r (182 :: ws_w) ((a_g3, c', d'), h1) = some (1, v2, ((a_g3, c', d'), h2)) ∧ Inv5 h2 ∧ c' ≤ c + 1 ∧ d' ≤ d + 6 := fun c d h hI => by
  have f3_w : r_n3 r = true := by
    simp only [r_n5, r_n4, Bool.and_eq_true] at hf
    exact hf.1.1.1.1.1
  have f1_w : r_nf r = true := by
    simp only [r_n3, Bool.and_eq_true] at f3_w
    exact f3_w.1.1.1
  obtain ⟨v1_w, c', d', h1, e1_w, e2_w, e3_w, e4_w, e5_w⟩ := catch_g (xs := xs) (L := L) (K := K) (n := n + 40) (c := c) (d := d) (by omega) hm_w hen ho hA (by omega) (by omega) hR ha_w hI.1
  obtain ⟨v2, h2, g1, g2, -⟩ := ref_inv (xs := xs) (L := L) (c := c') (d := d') hK2 hn (by omega) f1_w hv e2_w.1
  obtain ⟨-, b1, b2, b3, b4⟩ := ref_3 (g := (a_g3, c', d')) f3_w rfl g1
  have w : ∃ hX, FrW u2_W h hX ∧ ∀ o k : Nat, o ≠ 203 → h1 o k = hX o k := by
    rcases e5_w with ⟨-, -, -, w, hX, -, q1_w, q2_w⟩ | ⟨-, r1_w, g3_w, hX, q1_w, q2_w⟩
    · exact ⟨hX, cls_u2 ep la q1_w, fun o k z => by rw [q2_w]; exact up_ne (fun y => z y.1)⟩
    · exact ⟨hX, cls_u2 ep la q1_w, fun o k z => by rw [q2_w]⟩
  obtain ⟨hX, w1_w, w2_w⟩ := w
  exact ⟨[v1_w], v2, c', d', h1, h2, e1_w, g1, ⟨e2_w.kp g2 b1 b2 b3 b4, hI.2.q hI.1.1.2 w1_w w2_w hf hb_w g1⟩, e3_w, e4_w⟩
end INV6
