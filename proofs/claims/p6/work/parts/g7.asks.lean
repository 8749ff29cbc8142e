/-! ===== meter, with, says_w answer_w alike_w; steps_w that compare_w ===== -/
section ASK5
variable {xs : Nat → Int} {L K n : Nat} {c d : Nat} {h h' h1 h2 : XH} {D : DD}
theorem runs_eq (sm_w : SM D h) : h 70 10 = h 194 162 := by
  have e := sm_w.2.2.1 162 (Or.inr (Or.inr (Or.inr rfl)))
  rw [cl_ru (by omega)] at e
  have e' : h 70 10 = h 194 (0 + 162) := e
  rw [e', Nat.zero_add]
theorem runs_b (sm_w : SM D h) (lq : LQ h) : 0 ≤ h 70 10 ∧ h 70 10 ≤ 4 := by
  obtain ⟨P, hQ, -⟩ := lq
  obtain ⟨r, r4, er⟩ := iv03 (s_cell hQ (r := 3) (x := (162, 163, (1, 0, 4))) rfl (i := 162) (j := 0) (by decide) (by decide) (by decide))
  have e0 : (429 * 0 + 162 : Nat) = 162 := rfl
  rw [e0] at er
  rw [runs_eq sm_w, er]
  omega
/-- a reading_w in both_w -/
theorem rd_eq (sm_w : SM D h) {q : Nat} (hq : q < 13 * nM D) : h 72 q = h 194 q := by
  have e := sm_w.2.2.1 q (Or.inl hq)
  have := sm_w.1
  rw [cl_lo (by omega)] at e
  have e' : h 72 q = h 194 (0 + q) := e
  rw [e', Nat.zero_add]
theorem rd_b (lq : LQ h) {q : Nat} (hq : q < 78) : -1 ≤ h 194 q ∧ h 194 q ≤ 9999 := by
  obtain ⟨P, hQ, -⟩ := lq
  have k := s_cell hQ (r := 0) (x := (0, 78, (1, (-1), 9999))) rfl (i := q) (j := 0) (Nat.zero_le _) hq (by decide)
  rw [Nat.mul_zero, Nat.zero_add] at k
  exact ⟨k.1, k.2.1⟩
theorem cnRP {f g : Nat → Int} : ∀ k, (∀ q, q < k → f q = g q ∧ -1 ≤ g q) → cnR f k = cnP g k
  | 0, _ => rfl
  | k + 1, z => by
    obtain ⟨e, b⟩ := z k (Nat.lt_succ_self k)
    rw [cnR, cnP, cnRP k (fun q y => z q (by omega)), e]
    by_cases y : g k = -1
    · rw [if_pos y, if_neg (by omega)]
    · rw [if_neg y, if_pos (by omega)]
theorem mt_eq (cd : CDw 6 D h) (rf : RF D h1) (hc_w : ∀ o k : Nat, o = 188 ∨ o = 194 → h1 o k = h o k) (sm_w : SM D h) (lq : LQ h) {m w : Int} : mtA h m w = mtR D h1 m w := by
  obtain ⟨z9, z11, z12⟩ := sz_cd cd
  have m6_w := sm_w.1
  unfold mtA mtR
  rw [z12]
  show _ = if 0 ≤ m ∧ m < ((nM D : Nat) : Int) ∧ 0 ≤ w ∧ w ≤ 2 then _ else _
  by_cases y : 0 ≤ m ∧ m < (nM D : Int)
  · rw [if_pos y]
    have hm_w : m.toNat < D.2.2.2.2.1.length := by
      have : nM D = D.2.2.2.2.1.length := rfl
      omega
    have ex_w : D.2.2.2.2.1[m.toNat]? = some (D.2.2.2.2.1[m.toNat]) := List.getElem?_eq_getElem hm_w
    have k1_w := cd.2.2.2.2.1.1 _ _ ex_w
    have k2 := rf.ix.2.2.2.2.2.2 _ _ ex_w
    by_cases y0 : w = 0
    · rw [if_pos y0, if_pos (by omega), if_pos y0]
      unfold mkd
      rw [ex_w]
      exact k1_w.1
    · rw [if_neg y0]
      by_cases y1 : w = 1
      · rw [if_pos y1, if_pos (by omega), if_neg y0, if_pos y1, k2.2.1]
        exact k1_w.2.1
      · rw [if_neg y1]
        by_cases y2 : w = 2
        · rw [if_pos y2, if_pos (by omega), if_neg y0, if_neg y1, cnRP 13 (fun q z => ?_)]
          rw [rd_eq sm_w (by omega), hc_w 194 _ (Or.inr rfl)]
          exact ⟨rfl, (rd_b lq (by omega)).1⟩
        · rw [if_neg y2, if_neg (by omega)]
  · rw [if_neg y, if_neg (by omega)]
theorem meter_k {m w : Int} {r1_w r2 : List Int} (cd : CDw 6 D h) (rf : RF D h) (sm_w : SM D h) (lq : LQ h) (e1_w : evF xs L g_ck K g_cW g_M n 5 [0, m, w] ((a_g3, c, d), h) = some (1, r1_w, ((a_g3, c, d), h1))) (e2_w : evF xs L g_ck K g_cW g_M n 261 [182, m, w] ((a_g3, c, d), h1) = some (1, r2, ((a_g3, c, d), h2))) : r1_w = r2 := by
  obtain ⟨z9, z11, z12⟩ := sz_cd cd
  have m6_w := sm_w.1
  have c5 : CS43 5 [0, m, w] h (fun k r h' => k = 1 → r = [mtA h m w] ∧ h' = h) := by
    rw [cs43_5, kk_5]
    exact ⟨by omega, fun _ => ⟨rfl, rfl⟩⟩
  obtain ⟨a1_w, a2⟩ := (snd_43 n _ _ _ _ _ c5 _ _ _ _ e1_w).2 rfl
  subst a2
  have c261 : CS43 261 [182, m, w] h1 (fun k r h' => k = 1 → r = [mtR D h1 m w]) := by
    rw [cs43_261, kk_261]
    exact ⟨D, rf, fun _ => rfl⟩
  rw [a1_w, (snd_43 n _ _ _ _ _ c261 _ _ _ _ e2_w).2 rfl, mt_eq cd rf (fun _ _ _ => rfl) sm_w lq]
theorem with_k {m s : Int} {r1_w r2 : List Int} (cd : CDw 6 D h) (rf : RF D h) (sm_w : SM D h) (lq : LQ h) (e1_w : evF xs L g_ck K g_cW g_M n 6 [0, m, s] ((a_g3, c, d), h) = some (1, r1_w, ((a_g3, c, d), h1))) (e2_w : evF xs L g_ck K g_cW g_M n 262 [182, m, s] ((a_g3, c, d), h1) = some (1, r2, ((a_g3, c, d), h2))) : r1_w = r2 := by
  obtain ⟨z9, z11, z12⟩ := sz_cd cd
  obtain ⟨y0, y2, y3, D0, D12, m6_w⟩ := sz_rf rf
  have c6 : CS43 6 [0, m, s] h (fun k r h' => k = 1 → r = [if 0 ≤ m ∧ m < h 6 12 ∧ 0 ≤ s ∧ s < h 6 9 then h 74 (12 * m.toNat + s.toNat) else -1] ∧ h' = h) := by
    rw [cs43_6, kk_6]
    exact ⟨by omega, by omega, fun _ => ⟨rfl, rfl⟩⟩
  obtain ⟨a1_w, a2⟩ := (snd_43 n _ _ _ _ _ c6 _ _ _ _ e1_w).2 rfl
  subst a2
  have c262 : CS43 262 [182, m, s] h1 (fun k r h' => k = 1 → r = [if 0 ≤ m ∧ m < h1 188 3 ∧ 0 ≤ s ∧ s < h1 188 0 then h1 194 (78 + (12 * m.toNat + s.toNat)) else -1]) := by
    rw [cs43_262, kk_262]
    exact ⟨by omega, by omega, fun _ => rfl⟩
  rw [a1_w, (snd_43 n _ _ _ _ _ c262 _ _ _ _ e2_w).2 rfl, z9, z12, y0, y3]
  by_cases y : 0 ≤ m ∧ m < (nM D : Int) ∧ 0 ≤ s ∧ s < D.1
  · rw [if_pos y, if_pos y]
    have e := sm_w.2.2.1 (78 + (12 * m.toNat + s.toNat)) (Or.inr (Or.inl (by omega)))
    rw [cl_su (by omega) (by omega)] at e
    have e' : h1 74 (78 + (12 * m.toNat + s.toNat) - 78) = h1 194 (0 + (78 + (12 * m.toNat + s.toNat))) := e
    rw [Nat.add_sub_cancel_left, Nat.zero_add] at e'
    rw [e']
  · rw [if_neg y, if_neg y]
theorem says_k {m p : Int} {r1_w r2 : List Int} (cd : CDw 6 D h) (rf : RF D h) (sm_w : SM D h) (lq : LQ h) (e1_w : evF xs L g_ck K g_cW g_M n 7 [0, m, p] ((a_g3, c, d), h) = some (1, r1_w, ((a_g3, c, d), h1))) (e2_w : evF xs L g_ck K g_cW g_M n 263 [182, m, p] ((a_g3, c, d), h1) = some (1, r2, ((a_g3, c, d), h2))) : r1_w = r2 := by
  have c7 : CS43 7 [0, m, p] h (fun k r h' => k = 1 → r = [if 0 ≤ m ∧ m < (D.2.2.2.2.1.length : Int) ∧ 0 ≤ p ∧ p ≤ lastP D m then h 72 (13 * m.toNat + p.toNat) else -1] ∧ h' = h) := by
    rw [cs43_7, kk_7]
    exact ⟨D, cd, fun _ => ⟨rfl, rfl⟩⟩
  obtain ⟨a1_w, a2⟩ := (snd_43 n _ _ _ _ _ c7 _ _ _ _ e1_w).2 rfl
  subst a2
  have c263 : CS43 263 [182, m, p] h1 (fun k r h' => k = 1 → r = [if 0 ≤ m ∧ m < (D.2.2.2.2.1.length : Int) ∧ 0 ≤ p ∧ p ≤ lastP D m then h1 194 (13 * m.toNat + p.toNat) else -1]) := by
    rw [cs43_263, kk_263]
    exact ⟨D, rf, fun _ => rfl⟩
  rw [a1_w, (snd_43 n _ _ _ _ _ c263 _ _ _ _ e2_w).2 rfl]
  by_cases y : 0 ≤ m ∧ m < (D.2.2.2.2.1.length : Int) ∧ 0 ≤ p ∧ p ≤ lastP D m
  · rw [if_pos y, if_pos y]
    have l12 := lp_le cd (m := m)
    rw [rd_eq sm_w (show 13 * m.toNat + p.toNat < 13 * D.2.2.2.2.1.length by omega)]
  · rw [if_neg y, if_neg y]
theorem undo_k5 {r1_w r2 : List Int} (cd : CDw 6 D h) (rf : RF D h) (sm_w : SM D h) (lq : LQ h) (e1_w : evF xs L g_ck K g_cW g_M n 12 [0] ((a_g3, c, d), h) = some (1, r1_w, ((a_g3, c, d), h1))) (e2_w : evF xs L g_ck K g_cW g_M n 272 [182] ((a_g3, c, d), h1) = some (1, r2, ((a_g3, c, d), h2))) : r1_w = r2 ∧ CDw 6 D h2 ∧ RF D h2 ∧ SM D h2 := undo_k cd rf sm_w (by have := runs_b sm_w lq; omega) e1_w e2_w
/-- a question_w on_w both_w sides that is_w answered alike_w -/
theorem ask_i5 (hK2 : 20000000000 ≤ K) (hn : n < 99999) {f r : Nat} {p : List AVs × Option AVs} (ep : u2_T f = some p) (hd_w : g_dp f < n) (ht : g_THR f = false) (hr : r_dp r < n) (hf : r_n5 r = true) {vs ws_w : List Int} (la : LsA p.1 vs) (ha_w : VL (fun _ => 0) a_g3 ((g_T 0).2.1 f) vs) (hv : ∀ P, IL P (qP (r_T 0) r) (182 :: ws_w)) (hb_w : BKp xs L K n r ws_w) (hq : ∀ (h1 h2 : XH) (D : DD) (r1_w r2 : List Int), CDw 6 D h → RF D h → SM D h → LQ h → evF xs L g_ck K g_cW g_M n f vs ((a_g3, c, d), h) = some (1, r1_w, ((a_g3, c, d), h1)) → evF xs L g_ck K g_cW g_M n r (182 :: ws_w) ((a_g3, c, d), h1) = some (1, r2, ((a_g3, c, d), h2)) → r1_w = r2) (hI : Inv5 h) : ∃ (v : List Int) (h1 h2 : XH), evF xs L g_ck K g_cW g_M n f vs ((a_g3, c, d), h) = some (1, v, ((a_g3, c, d), h1)) ∧ evF xs L g_ck K g_cW g_M n r (182 :: ws_w) ((a_g3, c, d), h1) = some (1, v, ((a_g3, c, d), h2)) ∧ Inv5 h2 := by
  obtain ⟨v1_w, v2, h1, h2, e1_w, e2_w, e3_w⟩ := pair_i5 (xs := xs) (L := L) (c := c) (d := d) hK2 hn ep hd_w ht hr hf la ha_w hv hb_w hI
  obtain ⟨D, cd, rf, sm_w⟩ := hI.2
  obtain rfl := hq h1 h2 D v1_w v2 cd rf sm_w hI.1.1.2 e1_w e2_w
  exact ⟨v1_w, h1, h2, e1_w, e2_w, e3_w⟩
theorem two_of {P : List Int → XH → Prop} {R : List Int → XH → XH → Prop} {I : XH → Prop} (z : ∃ (v : List Int) (h1 h2 : XH), P v h1 ∧ R v h1 h2 ∧ I h2) : ∃ (v1_w v2 : List Int) (h1 h2 : XH), P v1_w h1 ∧ R v2 h1 h2 ∧ I h2 := by
  obtain ⟨v, h1, h2, a, b, c⟩ := z
  exact ⟨v, v, h1, h2, a, b, c⟩
end ASK5
section STEPS5
variable {xs : Nat → Int} {L K n : Nat} {F : XP} {I : XH → Prop} {i : Int}
/-- a call of both_w, their answers_w compared: they are the same -/
theorem step_d {A B : SX} {f r : Nat} {vs ws_w : List Int} (hA : ArgE xs L F A i vs) (hB_w : ArgE xs L F B i ws_w) (hP : ∀ (c d : Nat) (h : XH), I h → ∃ (v : List Int) (h1 h2 : XH), F f vs ((a_g3, c, d), h) = some (1, v, ((a_g3, c, d), h1)) ∧ F r ws_w ((a_g3, c, d), h1) = some (1, v, ((a_g3, c, d), h2)) ∧ I h2) :
    StepOK xs L K F I (sx 28 (sx 20 (sx 32 A (sv f) z0) (sx 32 B (sv r) z0) (sv 1)) (sx 27 (sx 1 z0 (sv 1) z0) z0 z0) z0) i := by
  intro s t c d h hI
  obtain ⟨v, h1, h2, e1_w, e2_w, e3_w⟩ := hP c d h hI
  refine ⟨s, t, c, d, h2, ?_, e3_w, by omega, by omega⟩
  have a1_w := hA s t ((a_g3, c, d), h)
  have a2 := hB_w s t ((a_g3, c, d), h1)
  rw [es_28]
  unfold s_if
  rw [ee_20]
  unfold n_cmp
  rw [ee_32, ee_32]
  unfold n_call
  simp only [a1_w, a2, Option.bind_some, n_sv, e1_w, e2_w, if_true]
  have z : j_cmp 1 (j_hd v) (j_hd v) = false := by simp [j_cmp]
  rw [z]
  exact if_pos rfl
theorem feed_s5 (hK2 : 20000000000 ≤ K) (a b e : Int) : ∀ (c d : Nat) (h : XH), Inv5 h → ∃ (v1_w v2 : List Int) (h1 h2 : XH), evF xs L g_ck K g_cW g_M (n + 41) 1 [0, a, b, e] ((a_g3, c, d), h) = some (1, v1_w, ((a_g3, c, d), h1)) ∧ evF xs L g_ck K g_cW g_M (n + 41) 183 [182, a, b, e] ((a_g3, c, d), h1) = some (1, v2, ((a_g3, c, d), h2)) ∧ Inv5 h2 := fun c d h hI => by
  obtain ⟨v, h1, h2, e1_w, e2_w, e3_w⟩ := feed_i5 (xs := xs) (L := L) (K := K) (n := n + 39) (c := c) (d := d) (a := a) (b := b) (e := e) (by omega) hI
  exact ⟨[v], [v], h1, h2, e1_w, e2_w, e3_w⟩
theorem grid_w5 (hK2 : 20000000000 ≤ K) (hn : n + 41 < 99999) {c d : Nat} {h : XH} (hI : Inv5 h) : ∃ (v1_w v2 : List Int) (h1 h2 : XH), evF xs L g_ck K g_cW g_M (n + 41) 2 [0] ((a_g3, c, d), h) = some (1, v1_w, ((a_g3, c, d), h1)) ∧ evF xs L g_ck K g_cW g_M (n + 41) 206 [182] ((a_g3, c, d), h1) = some (1, v2, ((a_g3, c, d), h2)) ∧ Inv5 h2 := by
  obtain ⟨v, h1, h2, e1_w, e2_w, e3_w⟩ := grid_i5 (xs := xs) (L := L) (K := K) (n := n) (c := c) (d := d) hK2 hn hI
  exact ⟨[v], [v], h1, h2, e1_w, e2_w, e3_w⟩
theorem work_w5 (hK2 : 20000000000 ≤ K) (hn : n + 41 < 99999) {c d : Nat} {h : XH} (hI : Inv5 h) : ∃ (v1_w v2 : List Int) (h1 h2 : XH), evF xs L g_ck K g_cW g_M (n + 41) 4 [0] ((a_g3, c, d), h) = some (1, v1_w, ((a_g3, c, d), h1)) ∧ evF xs L g_ck K g_cW g_M (n + 41) 214 [182] ((a_g3, c, d), h1) = some (1, v2, ((a_g3, c, d), h2)) ∧ Inv5 h2 := by
  obtain ⟨v, h1, h2, e1_w, e2_w, e3_w⟩ := work_i5 (xs := xs) (L := L) (K := K) (n := n) (c := c) (d := d) hK2 hn hI
  exact ⟨[v], [v], h1, h2, e1_w, e2_w, e3_w⟩
end STEPS5
