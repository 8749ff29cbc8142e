/-! ===== questions of a settlement, compared ===== -/
theorem RSET.fr {D : DD} {h h1 : XH} (r : RSET D h) (z : ∀ o k : Nat, 188 ≤ o → o ≤ 194 → h1 o k = h o k) : RSET D h1 := by
  have e : bl 0 h1 = bl 0 h := funext fun q => z 194 _ (by decide) (by decide)
  refine ⟨r.1, r.2.1.fr3 (fun o k a => z o k (by omega) (by omega)), r.2.2.1.fr (fun o k a => z o k (by omega) (by omega)), ?_⟩
  rw [e]
  exact r.2.2.2
/-- a question_w that may_w throw_w: when the class's throws_w the reference_w tells_w it, when it doesn't both_w answer_w alike_w -/
def AskC (X : XH → Prop) (xs : Nat → Int) (L K m n f r : Nat) (vs ws_w : List Int) : Prop := ∀ (c d c' d' : Nat) (h hX h1 h2 : XH) (D : DD) (kk : Nat) (g : XS × Nat × Nat) (r1_w v2 : List Int), X h → CDw 6 D h → RF D h → SM D h → LQ h → (∀ o k : Nat, 182 ≤ o → o ≤ 202 → h1 o k = h o k) → evF xs L g_ck K g_cW g_M m f vs ((a_g3, c, d), h) = some (kk, r1_w, (g, hX)) → evF xs L g_ck K g_cW g_M n r (182 :: ws_w) ((a_g3, c', d'), h1) = some (1, v2, ((a_g3, c', d'), h2)) → (kk = 4 → h2 182 0 = 1) ∧ (kk = 1 → h2 182 0 = 0 ∧ r1_w = v2)
section ASKC
variable {X : XH → Prop} {xs : Nat → Int} {L K m n : Nat} {c d : Nat} {h h' hX h1 h2 : XH} {D : DD} {x y : Int}
theorem askC2 {f r : Nat} {ok : DD → Int → Int → Prop} {v : DD → (Nat → Int) → Nat → Nat → Int} (cf_w : ∀ h Q, CS70 f [0, x, y] h Q = kC2 ok v [0, x, y] h Q) (cr : ∀ h Q, CS70 r [182, x, y] h Q = kR2 ok v [182, x, y] h Q) (cg : ∀ D a b, WFD D → EqD D a b → ok D x y → v D a x.toNat y.toNat = v D b x.toNat y.toNat) : AskC X xs L K m n f r [0, x, y] [x, y] := by
  intro c d c' d' h hX h1 h2 D kk g r1_w v2 _ cd rf sm_w lq hz e1_w e2_w
  have sp_w := setp_of cd rf sm_w lq
  have rp := (rset_of rf sm_w lq).fr (fun o k a b => hz o k (by omega) (by omega))
  have eb : bl 0 h1 = bl 0 h := funext fun q => hz 194 _ (by decide) (by decide)
  have c1_w : CS70 f [0, x, y] h (fun k r h' => (k = 4 → ¬ ok D x y) ∧ (k = 1 → ok D x y ∧ r = [v D (cl 70 h) x.toNat y.toNat])) := by
    rw [cf_w]
    exact ⟨rfl, D, sp_w, fun z => ⟨fun _ => z, fun w => absurd w (by decide)⟩, fun z h' => ⟨fun w => absurd w (by decide), fun _ => ⟨z, rfl⟩⟩⟩
  have c2 : CS70 r [182, x, y] h1 (fun k r h' => k = 1 → (¬ ok D x y → h' 182 0 = 1) ∧ (ok D x y → h' 182 0 = 0 ∧ r = [v D (bl 0 h1) x.toNat y.toNat])) := by
    rw [cr]
    exact ⟨rfl, D, rp, fun z _ => ⟨fun _ => up_eq, fun w => absurd w z⟩, fun z h' t _ => ⟨fun w => absurd z w, fun _ => ⟨t, rfl⟩⟩⟩
  have s1_w := (snd_70 m _ _ _ _ _ c1_w _ _ _ _ e1_w).2
  have s2_w := (snd_70 n _ _ _ _ _ c2 _ _ _ _ e2_w).2 rfl
  refine ⟨fun k4 => s2_w.1 (s1_w.1 k4), fun k1_w => ?_⟩
  obtain ⟨o1, e3_w⟩ := s1_w.2 k1_w
  obtain ⟨t, e4_w⟩ := s2_w.2 o1
  refine ⟨t, e3_w.trans (Eq.trans ?_ e4_w.symm)⟩
  rw [eb, cg D _ _ rf.w sm_w.2.2.1 o1]
theorem askC1 {f r : Nat} {ok : DD → Int → Prop} {v : DD → (Nat → Int) → Nat → Int} (cf_w : ∀ h Q, CS70 f [0, y] h Q = kC1 ok v [0, y] h Q) (cr : ∀ h Q, CS70 r [182, y] h Q = kR1 ok v [182, y] h Q) (cg : ∀ D a b, WFD D → EqD D a b → ok D y → v D a y.toNat = v D b y.toNat) : AskC X xs L K m n f r [0, y] [y] := by
  intro c d c' d' h hX h1 h2 D kk g r1_w v2 _ cd rf sm_w lq hz e1_w e2_w
  have sp_w := setp_of cd rf sm_w lq
  have rp := (rset_of rf sm_w lq).fr (fun o k a b => hz o k (by omega) (by omega))
  have eb : bl 0 h1 = bl 0 h := funext fun q => hz 194 _ (by decide) (by decide)
  have c1_w : CS70 f [0, y] h (fun k r h' => (k = 4 → ¬ ok D y) ∧ (k = 1 → ok D y ∧ r = [v D (cl 70 h) y.toNat])) := by
    rw [cf_w]
    exact ⟨rfl, D, sp_w, fun z => ⟨fun _ => z, fun w => absurd w (by decide)⟩, fun z h' => ⟨fun w => absurd w (by decide), fun _ => ⟨z, rfl⟩⟩⟩
  have c2 : CS70 r [182, y] h1 (fun k r h' => k = 1 → (¬ ok D y → h' 182 0 = 1) ∧ (ok D y → h' 182 0 = 0 ∧ r = [v D (bl 0 h1) y.toNat])) := by
    rw [cr]
    exact ⟨rfl, D, rp, fun z _ => ⟨fun _ => up_eq, fun w => absurd w z⟩, fun z h' t _ => ⟨fun w => absurd z w, fun _ => ⟨t, rfl⟩⟩⟩
  have s1_w := (snd_70 m _ _ _ _ _ c1_w _ _ _ _ e1_w).2
  have s2_w := (snd_70 n _ _ _ _ _ c2 _ _ _ _ e2_w).2 rfl
  refine ⟨fun k4 => s2_w.1 (s1_w.1 k4), fun k1_w => ?_⟩
  obtain ⟨o1, e3_w⟩ := s1_w.2 k1_w
  obtain ⟨t, e4_w⟩ := s2_w.2 o1
  refine ⟨t, e3_w.trans (Eq.trans ?_ e4_w.symm)⟩
  rw [eb, cg D _ _ rf.w sm_w.2.2.1 o1]
theorem use_c : AskC X xs L K m n 14 275 [0, x, y] [x, y] := askC2 (ok := okMS) (v := vUse) (fun h Q => by rw [cs70_14]; rfl) (fun h Q => by rw [cs70_275]; rfl) (fun D a b w e o => useS_cg w (by have := w.cn; have := o.2.2; omega) (fun p z => e _ (Or.inl (by have := o.1; have := o.2.1; omega))))
theorem gross_c : AskC X xs L K m n 15 276 [0, x, y] [x, y] := askC2 (ok := okMS) (v := vGro) (fun h Q => by rw [cs70_15]; rfl) (fun h Q => by rw [cs70_276]; rfl) (fun D a b w e o => gA_cg w e (by have := o.1; have := o.2.1; omega) (by have := w.cn; have := o.2.2; omega))
theorem load_c : AskC X xs L K m n 16 277 [0, x, y] [x, y] := askC2 (ok := okCS) (v := vLod) (fun h Q => by rw [cs70_16]; rfl) (fun h Q => by rw [cs70_277]; rfl) (fun D a b w e o => congrFun (lodA_cg w e (by have := w.cn; have := o.2.2; omega)) _)
theorem residual_c : AskC X xs L K m n 17 278 [0, y] [y] := askC1 (ok := okSS) (v := vRes) (fun h Q => by rw [cs70_17]; rfl) (fun h Q => by rw [cs70_278]; rfl) (fun D a b w e o => resA_cg w e (by have := w.cn; have := o.1; have := o.2; omega))
theorem smear_c : AskC X xs L K m n 18 279 [0, x, y] [x, y] := askC2 (ok := okCS) (v := vSmr) (fun h Q => by rw [cs70_18]; rfl) (fun h Q => by rw [cs70_279]; rfl) (fun D a b w e o => smrA_cg w e (by have := w.cn; have := o.2.2; omega))
theorem net_c : AskC X xs L K m n 19 280 [0, x, y] [x, y] := askC2 (ok := okMS) (v := vNet) (fun h Q => by rw [cs70_19]; rfl) (fun h Q => by rw [cs70_280]; rfl) (fun D a b w e o => netA_cg w e (by have := o.1; have := o.2.1; omega) (by have := w.cn; have := o.2.2; omega))
theorem share_c : AskC X xs L K m n 20 281 [0, x, y] [x, y] := askC2 (ok := okUS) (v := vSha) (fun h Q => by rw [cs70_20]; rfl) (fun h Q => by rw [cs70_281]; rfl) (fun D a b w e o => shrA_cg w e (by have := w.cn; have := o.2.2; omega))
theorem sum_c : AskC X xs L K m n 21 282 [0, y] [y] := askC1 (ok := okUU) (v := vSum) (fun h Q => by rw [cs70_21]; rfl) (fun h Q => by rw [cs70_282]; rfl) (fun D a b w e o => sumA_cg w e)
/-- a question_w that never_w throws_w -/
theorem ask0_k {f r : Nat} {v : DD → (Nat → Int) → Int} {r1_w r2 : List Int} (ep : u2_T f = some ([some [0]], some none)) (cf_w : ∀ h Q, CS70 f [0] h Q = kC0 v [0] h Q) (cr : ∀ h Q, CS70 r [182] h Q = kR0 v [182] h Q) (cg : ∀ D a b, WFD D → EqD D a b → v D a = v D b) (cd : CDw 6 D h) (rf : RF D h) (sm_w : SM D h) (lq : LQ h) (e1_w : evF xs L g_ck K g_cW g_M n f [0] ((a_g3, c, d), h) = some (1, r1_w, ((a_g3, c, d), h1))) (e2_w : evF xs L g_ck K g_cW g_M n r [182] ((a_g3, c, d), h1) = some (1, r2, ((a_g3, c, d), h2))) : r1_w = r2 := by
  have fw : FrW u2_W h h1 := cls_u2 (vs := [0]) ep ⟨⟨0, by decide, rfl⟩, trivial⟩ e1_w
  have hz : ∀ o k : Nat, 182 ≤ o → o ≤ 202 → h1 o k = h o k := fun o k a b => fw o k (u2_ref o k a (by omega))
  have sp_w := setp_of cd rf sm_w lq
  have rp := (rset_of rf sm_w lq).fr (fun o k a b => hz o k (by omega) (by omega))
  have eb : bl 0 h1 = bl 0 h := funext fun q => hz 194 _ (by decide) (by decide)
  have c1_w : CS70 f [0] h (fun k r h' => k = 1 → r = [v D (cl 70 h)]) := by
    rw [cf_w]
    exact ⟨rfl, D, sp_w, fun h' _ => rfl⟩
  have c2 : CS70 r [182] h1 (fun k r h' => k = 1 → r = [v D (bl 0 h1)]) := by
    rw [cr]
    exact ⟨rfl, D, rp, fun h' _ => rfl⟩
  have s1_w := (snd_70 n _ _ _ _ _ c1_w _ _ _ _ e1_w).2 rfl
  have s2_w := (snd_70 n _ _ _ _ _ c2 _ _ _ _ e2_w).2 rfl
  rw [s1_w, s2_w, eb, cg D _ _ rf.w sm_w.2.2.1]
theorem worst_k {r1_w r2 : List Int} (cd : CDw 6 D h) (rf : RF D h) (sm_w : SM D h) (lq : LQ h) (e1_w : evF xs L g_ck K g_cW g_M n 25 [0] ((a_g3, c, d), h) = some (1, r1_w, ((a_g3, c, d), h1))) (e2_w : evF xs L g_ck K g_cW g_M n 288 [182] ((a_g3, c, d), h1) = some (1, r2, ((a_g3, c, d), h2))) : r1_w = r2 := ask0_k (v := worstA) rfl (fun h Q => by rw [cs70_25]; rfl) (fun h Q => by rw [cs70_288]; rfl) (fun D a b w e => worstA_cg w e) cd rf sm_w lq e1_w e2_w
theorem lost_k {r1_w r2 : List Int} (cd : CDw 6 D h) (rf : RF D h) (sm_w : SM D h) (lq : LQ h) (e1_w : evF xs L g_ck K g_cW g_M n 26 [0] ((a_g3, c, d), h) = some (1, r1_w, ((a_g3, c, d), h1))) (e2_w : evF xs L g_ck K g_cW g_M n 289 [182] ((a_g3, c, d), h1) = some (1, r2, ((a_g3, c, d), h2))) : r1_w = r2 := ask0_k (v := lostA) rfl (fun h Q => by rw [cs70_26]; rfl) (fun h Q => by rw [cs70_289]; rfl) (fun D a b w e => lostA_cg w e) cd rf sm_w lq e1_w e2_w
/-- a question_w by its helper_w, and what the law_w compares_w of it: what was thrown_w, what is_w answered -/
theorem try_c5 {q f r o ml_w : Nat} {pk_w rk : List Nat} {A : SX} {vs ws_w en : List Int} {p : List AVs × Option AVs} (ac : AskC X xs L K (n + 40) (n + 41) f r vs ws_w) (ep : u2_T f = some p) (la : LsA p.1 vs) (hK2 : 20000000000 ≤ K) (hn : n + 41 < 99999) (hm_w : g_M q = (0, ml_w, pk_w, rk, sx 2 (sx 24 (sx 3 (sv o) z0 z0) A (sv f)) (sx 16 (sx 1 z0 (sv 1) z0) z0 z0) z0)) (hen : j_pad 0 ml_w (j_lay pk_w (vs ++ [203])) = en) (ho : en.getD o 0 = 203) (hA : ∀ st, evE xs L g_ck (evF xs L g_ck K g_cW g_M (n + 40)) g_cW A en st = some (vs, st)) (hd_w : g_dp f ≤ 30) (hR : (g_T 0).2.2.1 f = [1]) (ha_w : VL (fun _ => 0) a_g3 ((g_T 0).2.1 f) vs) (hr : r_dp r ≤ 30) (hf : r_n5 r = true) (h203 : (m_W r).2.contains 203 = false) (hv : ∀ P, IL P (qP (r_T 0) r) (182 :: ws_w)) (hb_w : BKp xs L K (n + 41) r ws_w) :
    ∀ (c d : Nat) (h : XH), Inv5 h → X h → ∃ (v1_w : Int) (v2 : List Int) (c' d' : Nat) (h1 h2 : XH), evF xs L g_ck K g_cW g_M (n + 41) q (vs ++ [203]) ((a_g3, c, d), h) = some (1, [v1_w], ((a_g3, c', d'), h1)) ∧ evF xs L g_ck K g_cW g_M (n + 41) r (182 :: ws_w) ((a_g3, c', d'), h1) = some (1, v2, ((a_g3, c', d'), h2)) ∧ h2 182 0 = v1_w ∧ (v1_w = 0 ∧ [h2 203 0] = v2 ∨ v1_w = 1) ∧ Inv5 h2 ∧ c' ≤ c + 1 ∧ d' ≤ d + 6 := fun c d h hI hXX => by
  have f3_w : r_n3 r = true := by
    simp only [r_n5, r_n4, Bool.and_eq_true] at hf
    exact hf.1.1.1.1.1
  have f1_w : r_nf r = true := by
    simp only [r_n3, Bool.and_eq_true] at f3_w
    exact f3_w.1.1.1
  obtain ⟨v1_w, c', d', h1, e1_w, e2_w, e3_w, e4_w, e5_w⟩ := catch_g (xs := xs) (L := L) (K := K) (n := n + 40) (c := c) (d := d) (by omega) hm_w hen ho hA (by omega) (by omega) hR ha_w hI.1
  obtain ⟨v2, h2, g1, g2, -⟩ := ref_inv (xs := xs) (L := L) (c := c') (d := d') hK2 hn (by omega) f1_w hv e2_w.1
  obtain ⟨-, b1, b2, b3, b4⟩ := ref_3 (g := (a_g3, c', d')) f3_w rfl g1
  have fin_w : m_in r = true := by
    have t := hf
    simp only [r_n5, r_n4, r_n3, r_nf, Bool.and_eq_true, Bool.not_eq_true'] at t
    exact t.1.1.1.1.1.1.1.1.1.1.1.1
  obtain ⟨-, fr⟩ := fr_all (n + 41) r (182 :: ws_w) _ _ _ _ _ _ fin_w rfl (Or.inr rfl) g1
  have o203 : h2 203 0 = h1 203 0 := fr 203 0 (fun y => absurd y (by decide)) h203
  have w : (∃ hX, FrW u2_W h hX ∧ ∀ o k : Nat, o ≠ 203 → h1 o k = hX o k) ∧ h2 182 0 = v1_w ∧ (v1_w = 0 ∧ [h2 203 0] = v2 ∨ v1_w = 1) := by
    obtain ⟨D, cd, rf, sm_w⟩ := hI.2
    rcases e5_w with ⟨u0, -, -, w, hX, -, q1_w, q2_w⟩ | ⟨u1, r1_w, g3_w, hX, q1_w, q2_w⟩
    · have fw := cls_u2 ep la q1_w
      have z : ∀ o k : Nat, 182 ≤ o → o ≤ 202 → h1 o k = h o k := fun o k a b => by
        rw [q2_w, up_ne (by omega)]
        exact fw o k (u2_ref o k a (by omega))
      obtain ⟨t, e6_w⟩ := (ac _ _ _ _ _ _ _ _ D _ _ _ _ hXX cd rf sm_w hI.1.1.2 z q1_w g1).2 rfl
      refine ⟨⟨hX, fw, fun o k y => by rw [q2_w]; exact up_ne (fun w => y w.1)⟩, t.trans u0.symm, Or.inl ⟨u0, ?_⟩⟩
      rw [o203, q2_w, up_eq]
      exact e6_w
    · have fw := cls_u2 ep la q1_w
      have z : ∀ o k : Nat, 182 ≤ o → o ≤ 202 → h1 o k = h o k := fun o k a b => by
        rw [q2_w]
        exact fw o k (u2_ref o k a (by omega))
      have t := (ac _ _ _ _ _ _ _ _ D _ _ _ _ hXX cd rf sm_w hI.1.1.2 z q1_w g1).1 rfl
      exact ⟨⟨hX, fw, fun o k y => by rw [q2_w]⟩, t.trans u1.symm, Or.inr u1⟩
  obtain ⟨⟨hX, w1_w, w2_w⟩, w3_w, w4_w⟩ := w
  exact ⟨v1_w, v2, c', d', h1, h2, e1_w, g1, w3_w, w4_w, ⟨e2_w.kp g2 b1 b2 b3 b4, hI.2.q hI.1.1.2 w1_w w2_w hf hb_w g1⟩, e3_w, e4_w⟩
end ASKC
