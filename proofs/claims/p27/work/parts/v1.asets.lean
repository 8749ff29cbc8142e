/-! ===== what a run laid_w down_w, asked_w on_w both_w sides ===== -/
def Y7 (h : XH) : Prop := RSU h ∧ ACC h
section ASKV
variable {xs : Nat → Int} {L K m n : Nat} {c d : Nat} {h h' hX h1 h2 : XH} {D : DD} {x y z : Int}
theorem ru70 (sm_w : SM D h) : h 70 10 = h 194 162 := by
  have e := sm_w.2.2.1 162 (Or.inr (Or.inr (Or.inr rfl)))
  rw [cl_ru (by omega)] at e
  have e' : h 70 10 = h 194 (0 + 162) := e
  rw [e', Nat.zero_add]
theorem rz_of (lq : LQ h) (rf : RF D h) : 0 ≤ h 194 162 := by
  obtain ⟨S, U, M, r, ru, -⟩ := ruh_of lq rf
  have er : h 194 162 = (r : Int) := ru.2.2.2.2.2.2.2.2.1
  omega
theorem ACC.le4 (a : ACC h) : h 194 162 ≤ 4 := by
  have t := a.2.1.1
  rw [Nat.zero_add] at t
  exact t
theorem lc_eq (ac : ACC h) (rf : RF D h) {a b e : Nat} (ha_w : (a : Int) < h 194 162) (hb_w : b < nU D) (he : e < nS D) : cq48 h a b e = r48 h a b e := by
  obtain ⟨c4, u4_w, m6_w, s12, eD⟩ := rf.w.cn
  have e2_w : h 188 2 = (nU D : Int) := rf.ix.1.2.1
  have e0 : h 188 0 = (nS D : Int) := rf.ix.2.1.1.trans eD
  have t := ac.2.1.2.1 a b e (by rw [Nat.zero_add]; exact ha_w) (by omega) (by omega)
  rw [Nat.zero_add] at t
  exact t
theorem r48_u (u : RefU h h1) (a b e : Nat) : r48 h1 a b e = r48 h a b e := u 194 _ (by decide) (by decide)
theorem ACC.lst (a : ACC h) (r0 : 0 ≤ h 194 162) : ∃ (rn : Nat) (L : List Nat), h 194 162 = (rn : Int) ∧ rn ≤ 4 ∧ KL L ∧ (rn = 0 → L = []) ∧ (∀ r : Nat, rn = r + 1 → APR r L h) ∧ APQ L h ∧ ∀ r : Nat, rn = r + 1 → ∀ i k : Nat, L[i]? = some k → h 82 (16 * r + i) = h 194 (356 + 3 * i + 2) := by
  have l4 := a.le4
  obtain ⟨-, -, l2, l3⟩ := a.2.1
  simp only [Nat.zero_add] at l2 l3
  obtain ⟨rn, er⟩ : ∃ rn : Nat, h 194 162 = (rn : Int) := ⟨(h 194 162).toNat, by omega⟩
  by_cases y : rn = 0
  · subst y
    refine ⟨0, [], er, by decide, ⟨fun k z => (by cases z), List.nodup_nil⟩, fun _ => rfl, fun r z => by omega, ⟨l2 er, fun i k z => by cases z⟩, fun r z => by omega⟩
  · obtain ⟨r, rfl⟩ : ∃ r, rn = r + 1 := ⟨rn - 1, by omega⟩
    obtain ⟨L, kl, a1_w, a2, a3⟩ := l3 r er
    refine ⟨r + 1, L, er, by omega, kl, fun z => by omega, fun r' z => ?_, ⟨a2, fun i k z => ⟨(a3 i k z).2.1, (a3 i k z).2.2.1⟩⟩, fun r' z i k w => ?_⟩
    · obtain rfl : r' = r := by omega
      exact ⟨a1_w, fun i k z => (a3 i k z).1⟩
    · obtain rfl : r' = r := by omega
      exact (a3 i k w).2.2.2
theorem APQ.u {M : List Nat} (a : APQ M h) (u : RefU h h1) : APQ M h1 := ⟨(u 194 _ (by decide) (by decide)).trans a.1, fun i k z => ⟨(u 194 _ (by decide) (by decide)).trans (a.2 i k z).1, (u 194 _ (by decide) (by decide)).trans (a.2 i k z).2⟩⟩
theorem askL {f r : Nat} {vc vr : XH → Nat → Nat → Nat → Int} (cf_w : ∀ h Q, CS94 f [0, x, y, z] h Q = ∃ D : DD, WFD D ∧ CDw 6 D h ∧ h 70 10 ≤ 4 ∧ (¬ okLv D (h 70 10) x y z → Q 4 [] h) ∧ (okLv D (h 70 10) x y z → Q 1 [vc h x.toNat y.toNat z.toNat] h)) (cr : ∀ h Q, CS94 r [182, x, y, z] h Q = ∃ D : DD, WFD D ∧ RF D h ∧ h 194 162 ≤ 4 ∧ (¬ okLv D (h 194 162) x y z → Q 1 [0] (j_up h 182 0 1)) ∧ (okLv D (h 194 162) x y z → ∀ h', h' 182 0 = 0 → Q 1 [vr h x.toNat y.toNat z.toNat] h')) (cg : ∀ (D : DD) (h h1 : XH), ACC h → RF D h → RefU h h1 → okLv D (h 194 162) x y z → vc h x.toNat y.toNat z.toNat = vr h1 x.toNat y.toNat z.toNat) : AskC ACC xs L K m n f r [0, x, y, z] [x, y, z] := by
  intro c d c' d' h hX h1 h2 D kk g r1_w v2 ac cd rf sm_w lq hz e1_w e2_w
  have b4 := ac.le4
  have e70 := ru70 sm_w
  have e162 : h1 194 162 = h 194 162 := hz 194 162 (by decide) (by decide)
  have c1_w : CS94 f [0, x, y, z] h (fun k r _ => (k = 4 → ¬ okLv D (h 70 10) x y z) ∧ (k = 1 → okLv D (h 70 10) x y z ∧ r = [vc h x.toNat y.toNat z.toNat])) := by
    rw [cf_w]
    exact ⟨D, rf.w, cd, by omega, fun a => ⟨fun _ => a, fun b => absurd b (by decide)⟩, fun a => ⟨fun b => absurd b (by decide), fun _ => ⟨a, rfl⟩⟩⟩
  have c2 : CS94 r [182, x, y, z] h1 (fun k r h' => k = 1 → (¬ okLv D (h1 194 162) x y z → h' 182 0 = 1) ∧ (okLv D (h1 194 162) x y z → h' 182 0 = 0 ∧ r = [vr h1 x.toNat y.toNat z.toNat])) := by
    rw [cr]
    exact ⟨D, rf.w, rf_u rf hz, by omega, fun a _ => ⟨fun _ => up_eq, fun b => absurd b a⟩, fun a h' t _ => ⟨fun b => absurd a b, fun _ => ⟨t, rfl⟩⟩⟩
  have s1_w := (snd_94 m _ _ _ _ _ c1_w _ _ _ _ e1_w).2
  have s2_w := (snd_94 n _ _ _ _ _ c2 _ _ _ _ e2_w).2 rfl
  refine ⟨fun k4 => s2_w.1 (by rw [e162, ← e70]; exact s1_w.1 k4), fun k1_w => ?_⟩
  obtain ⟨o1, e3_w⟩ := s1_w.2 k1_w
  rw [e70] at o1
  obtain ⟨t, e4_w⟩ := s2_w.2 (by rw [e162]; exact o1)
  refine ⟨t, e3_w.trans (Eq.trans ?_ e4_w.symm)⟩
  rw [cg D h h1 ac rf hz o1]
theorem settled_c : AskC ACC xs L K m n 27 292 [0, x, y, z] [x, y, z] := askL (vc := cq48) (vr := r48) (fun h Q => by rw [cs94_27, kk_27]) (fun h Q => by rw [cs94_292, kk_292]) (fun D h h1 ac rf u o => by
  obtain ⟨⟨o1, o2⟩, ⟨o3_w, o4_w⟩, o5_w, o6⟩ := o
  rw [r48_u u]
  exact lc_eq ac rf (by omega) (by omega) (by omega))
theorem difference_c : AskC ACC xs L K m n 28 293 [0, x, y, z] [x, y, z] := askL (vc := fun h => dif (cq48 h)) (vr := fun h => dif (r48 h)) (fun h Q => by rw [cs94_28, kk_28]) (fun h Q => by rw [cs94_293, kk_293]) (fun D h h1 ac rf u o => by
  obtain ⟨⟨o1, o2⟩, ⟨o3_w, o4_w⟩, o5_w, o6⟩ := o
  show dif (cq48 h) _ _ _ = dif (r48 h1) _ _ _
  unfold dif
  rw [r48_u u, r48_u u, lc_eq ac rf (a := x.toNat) (by omega) (by omega) (by omega)]
  by_cases t : x.toNat = 0
  · rw [if_pos t, if_pos t]
  · rw [if_neg t, if_neg t, lc_eq ac rf (a := x.toNat - 1) (by omega) (by omega) (by omega)])
theorem accounts_k {r1_w r2 : List Int} (y7 : Y7 h) (_ : CDw 6 D h) (rf : RF D h) (sm_w : SM D h) (lq : LQ h) (e1_w : evF xs L g_ck K g_cW g_M n 30 [0] ((a_g3, c, d), h) = some (1, r1_w, ((a_g3, c, d), h1))) (e2_w : evF xs L g_ck K g_cW g_M n 295 [182] ((a_g3, c, d), h1) = some (1, r2, ((a_g3, c, d), h2))) : r1_w = r2 := by
  obtain ⟨S, U, M, r, ru, -⟩ := ruh_of lq rf
  have er0 : h 194 162 = (r : Int) := ru.2.2.2.2.2.2.2.2.1
  obtain ⟨rn, N, er, r4, kl, l0, lr, aq, la⟩ := y7.2.lst (by omega)
  have fw : FrW u2_W h h1 := cls_u2 (f := 30) (vs := [0]) (p := ([some [0]], some none)) rfl ⟨⟨0, by decide, rfl⟩, trivial⟩ e1_w
  have u : RefU h h1 := fun o k a b => fw o k (u2_ref o k a (by omega))
  have e70 := ru70 sm_w
  have c1_w : CS94 30 [0] h (fun k v _ => k = 1 → v = [(N.length : Int)]) := by
    rw [cs94_30, kk_30v]
    refine ⟨rn, e70.trans er, r4, fun z _ => by rw [l0 z]; rfl, fun r' z _ => by rw [(lr r' z).1]⟩
  have c2 : CS94 295 [182] h1 (fun k v _ => k = 1 → v = [(N.length : Int)]) := by
    rw [cs94_295, kk_295]
    intro _
    rw [(aq.u u).1]
  exact ((snd_94 n _ _ _ _ _ c1_w _ _ _ _ e1_w).2 rfl).trans ((snd_94 n _ _ _ _ _ c2 _ _ _ _ e2_w).2 rfl).symm
theorem account_c : AskC ACC xs L K m n 31 296 [0, x, y] [x, y] := by
  intro c d c' d' h hX h1 h2 D kk g r1_w v2 ac cd rf sm_w lq hz e1_w e2_w
  have ac0 := rz_of lq rf
  obtain ⟨rn, N, er, r4, kl, l0, lr, aq, la⟩ := ac.lst ac0
  have e70 := ru70 sm_w
  have aq1 := aq.u hz
  have u194 : ∀ q : Nat, h1 194 q = h 194 q := fun q => hz 194 q (by decide) (by decide)
  have ok : ∀ (j k : Nat) (t : Int), x = (j : Int) → N[j]? = some k → 0 ≤ t → t ≤ 2 → okA N x t := fun j k t a b t0_w t2_w => ⟨⟨by omega, by have := (List.getElem?_eq_some_iff.mp b).1; omega⟩, t0_w, t2_w⟩
  have c1_w : CS94 31 [0, x, y] h (fun k r _ => (k = 4 → ¬ okA N x y) ∧ (k = 1 → okA N x y ∧ r = [h 194 (356 + 3 * x.toNat + y.toNat)])) := by
    rw [cs94_31, kk_31v]
    refine ⟨rn, N, e70.trans er, r4, kl, l0, lr, fun a => ⟨fun _ => a, fun b => absurd b (by decide)⟩, fun r j k a b e => ⟨fun t => ⟨fun b => absurd b (by decide), fun _ => ?_⟩, fun t => ⟨fun b => absurd b (by decide), fun _ => ?_⟩, fun t => ⟨fun b => absurd b (by decide), fun _ => ?_⟩⟩⟩
    · subst b
      subst t
      exact ⟨ok j k _ rfl e (by decide) (by decide), congrArg (fun v => [v]) (aq.2 j k e).1.symm⟩
    · subst b
      subst t
      exact ⟨ok j k _ rfl e (by decide) (by decide), congrArg (fun v => [v]) (aq.2 j k e).2.symm⟩
    · subst b
      subst t
      exact ⟨ok j k _ rfl e (by decide) (by decide), congrArg (fun v => [v]) (la r a j k e)⟩
  have c2 : CS94 296 [182, x, y] h1 (fun k r h' => k = 1 → (¬ okA N x y → h' 182 0 = 1) ∧ (okA N x y → h' 182 0 = 0 ∧ r = [h1 194 (356 + 3 * x.toNat + y.toNat)])) := by
    rw [cs94_296, kk_296]
    refine ⟨N, kl, aq1, fun a _ => ⟨fun _ => up_eq, fun b => absurd b a⟩, fun j k b e h' t0_w => ⟨fun t _ => ?_, fun t _ => ?_, fun t _ => ?_⟩⟩
    · subst b
      subst t
      exact ⟨fun w => absurd (ok j k _ rfl e (by decide) (by decide)) w, fun _ => ⟨t0_w, congrArg (fun v => [v]) (aq1.2 j k e).1.symm⟩⟩
    · subst b
      subst t
      exact ⟨fun w => absurd (ok j k _ rfl e (by decide) (by decide)) w, fun _ => ⟨t0_w, congrArg (fun v => [v]) (aq1.2 j k e).2.symm⟩⟩
    · subst b
      subst t
      exact ⟨fun w => absurd (ok j k _ rfl e (by decide) (by decide)) w, fun _ => ⟨t0_w, rfl⟩⟩
  have s1_w := (snd_94 m _ _ _ _ _ c1_w _ _ _ _ e1_w).2
  have s2_w := (snd_94 n _ _ _ _ _ c2 _ _ _ _ e2_w).2 rfl
  refine ⟨fun k4 => s2_w.1 (s1_w.1 k4), fun k1_w => ?_⟩
  obtain ⟨o1, e3_w⟩ := s1_w.2 k1_w
  obtain ⟨t, e4_w⟩ := s2_w.2 o1
  refine ⟨t, e3_w.trans (Eq.trans ?_ e4_w.symm)⟩
  rw [u194]
/-- what an account of a list_w holds_w -/
def OWV (N : List Nat) (k : Nat) (f : Nat → Int) (r : List Int) : Prop := (k ∉ N → r = [0]) ∧ ∀ j : Nat, N[j]? = some k → r = [f j]
theorem owv_eq {N : List Nat} {k : Nat} {f : Nat → Int} {r r' : List Int} (nd : N.Nodup) (a : OWV N k f r) (b : OWV N k f r') : r = r' := by
  by_cases t : k ∈ N
  · obtain ⟨j, hj, ej, -⟩ := ix_of t nd
    rw [a.2 j ej, b.2 j ej]
  · rw [a.1 t, b.1 t]
theorem get_inj {N : List Nat} {k i j : Nat} (nd : N.Nodup) (a : N[i]? = some k) (b : N[j]? = some k) : i = j := by
  obtain ⟨ha_w, ea⟩ := List.getElem?_eq_some_iff.mp a
  obtain ⟨hb_w, eb⟩ := List.getElem?_eq_some_iff.mp b
  exact (List.getElem_inj nd).mp (ea.trans eb.symm)
theorem owes_c : AskC ACC xs L K m n 32 297 [0, x, y] [x, y] := by
  intro c d c' d' h hX h1 h2 D kk g r1_w v2 ac cd rf sm_w lq hz e1_w e2_w
  have ac0 := rz_of lq rf
  obtain ⟨rn, N, er, r4, kl, l0, lr, aq, la⟩ := ac.lst ac0
  have e70 := ru70 sm_w
  have aq1 := aq.u hz
  have c1_w : CS94 32 [0, x, y] h (fun k r _ => (k = 4 → ¬ okO D x y) ∧ (k = 1 → okO D x y ∧ OWV N (4 * x.toNat + y.toNat) (fun j => h 194 (356 + 3 * j + 2)) r)) := by
    rw [cs94_32, kk_32v]
    refine ⟨D, rn, N, rf.w, cd, e70.trans er, r4, kl, lr, fun a => ⟨fun _ => a, fun b => absurd b (by decide)⟩, fun o => ⟨fun r0 => ⟨fun b => absurd b (by decide), fun _ => ⟨o, fun _ => rfl, fun j z => ?_⟩⟩, fun r a => ⟨fun nk => ⟨fun b => absurd b (by decide), fun _ => ⟨o, fun _ => rfl, fun j z => ?_⟩⟩, fun j z => ⟨fun b => absurd b (by decide), fun _ => ⟨o, fun nk => ?_, fun j' z' => ?_⟩⟩⟩⟩⟩
    · rw [l0 r0] at z
      cases z
    · exact absurd (List.mem_of_getElem? z) nk
    · exact absurd (List.mem_of_getElem? z) nk
    · obtain rfl := get_inj kl.2 z z'
      exact congrArg (fun v => [v]) (la r a j _ z)
  have c2 : CS94 297 [182, x, y] h1 (fun k r h' => k = 1 → (¬ okO D x y → h' 182 0 = 1) ∧ (okO D x y → h' 182 0 = 0 ∧ OWV N (4 * x.toNat + y.toNat) (fun j => h1 194 (356 + 3 * j + 2)) r)) := by
    rw [cs94_297, kk_297]
    refine ⟨D, N, rf.w, rf_u rf hz, kl, aq1, fun a _ => ⟨fun _ => up_eq, fun b => absurd b a⟩, fun o h' t0_w => ⟨fun nk _ => ⟨fun w => absurd o w, fun _ => ⟨t0_w, fun _ => rfl, fun j z => ?_⟩⟩, fun j z _ => ⟨fun w => absurd o w, fun _ => ⟨t0_w, fun nk => ?_, fun j' z' => ?_⟩⟩⟩⟩
    · exact absurd (List.mem_of_getElem? z) nk
    · exact absurd (List.mem_of_getElem? z) nk
    · obtain rfl := get_inj kl.2 z z'
      rfl
  have s1_w := (snd_94 m _ _ _ _ _ c1_w _ _ _ _ e1_w).2
  have s2_w := (snd_94 n _ _ _ _ _ c2 _ _ _ _ e2_w).2 rfl
  refine ⟨fun k4 => s2_w.1 (s1_w.1 k4), fun k1_w => ?_⟩
  obtain ⟨o1, e3_w⟩ := s1_w.2 k1_w
  obtain ⟨t, e4_w⟩ := s2_w.2 o1
  have ef : (fun j : Nat => h1 194 (356 + 3 * j + 2)) = fun j : Nat => h 194 (356 + 3 * j + 2) := funext fun j => hz 194 _ (by decide) (by decide)
  rw [ef] at e4_w
  exact ⟨t, owv_eq kl.2 e3_w e4_w⟩
theorem dfS_cg {v v' : Int} {f g : Nat → Int} (ev_w : v = v') : ∀ n : Nat, (∀ s, s < n → f s = g s) → dfS v f n = dfS v' g n
  | 0, _ => ev_w
  | n + 1, e => by
    show j32 (dfS v f n - f n) = j32 (dfS v' g n - g n)
    rw [dfS_cg ev_w n (fun s hs => e s (by omega)), e n (by omega)]
theorem drift_c : AskC ACC xs L K m n 29 294 [0, y] [y] := by
  intro c d c' d' h hX h1 h2 D kk g r1_w v2 ac cd rf sm_w lq hz e1_w e2_w
  have ac0 := rz_of lq rf
  have l4 := ac.le4
  obtain ⟨rn, er⟩ : ∃ rn : Nat, h 194 162 = (rn : Int) := ⟨(h 194 162).toNat, by omega⟩
  have e70 := ru70 sm_w
  have sp_w := setp_of cd rf sm_w lq
  have rp := (rset_of rf sm_w lq).fr (fun o k a b => hz o k (by omega) (by omega))
  have eb : bl 0 h1 = bl 0 h := funext fun q => hz 194 _ (by decide) (by decide)
  have c1_w : CS94 29 [0, y] h (fun k r _ => (k = 4 → ¬ okUU D y) ∧ (k = 1 → okUU D y ∧ (rn = 0 → r = [0]) ∧ ∀ a : Nat, rn = a + 1 → r = [dfS (sumA D (cl 70 h) y.toNat) (cq48 h a y.toNat) (nS D)])) := by
    rw [cs94_29, kk_29]
    refine ⟨D, rn, sp_w, e70.trans er, by omega, fun a => ⟨fun _ => a, fun b => absurd b (by decide)⟩, fun o => ⟨fun r0 => ⟨fun b => absurd b (by decide), fun _ => ⟨o, fun _ => rfl, fun a z => by omega⟩⟩, fun r z h' => ⟨fun b => absurd b (by decide), fun _ => ⟨o, fun t => by omega, fun a t => ?_⟩⟩⟩⟩
    obtain rfl : a = r := by omega
    rfl
  have c2 : CS94 294 [182, y] h1 (fun k r h' => k = 1 → (¬ okUU D y → h' 182 0 = 1) ∧ (okUU D y → h' 182 0 = 0 ∧ (rn = 0 → r = [0]) ∧ ∀ a : Nat, rn = a + 1 → r = [dfS (sumA D (bl 0 h1) y.toNat) (r48 h1 a y.toNat) (nS D)])) := by
    rw [cs94_294, kk_294]
    refine ⟨D, rn, rp, (hz 194 162 (by decide) (by decide)).trans er, by omega, fun a _ => ⟨fun _ => up_eq, fun b => absurd b a⟩, fun o => ⟨fun r0 h' t0_w _ => ⟨fun w => absurd o w, fun _ => ⟨t0_w, fun _ => rfl, fun a z => by omega⟩⟩, fun r z h' t0_w _ => ⟨fun w => absurd o w, fun _ => ⟨t0_w, fun t => by omega, fun a t => ?_⟩⟩⟩⟩
    obtain rfl : a = r := by omega
    rfl
  have s1_w := (snd_94 m _ _ _ _ _ c1_w _ _ _ _ e1_w).2
  have s2_w := (snd_94 n _ _ _ _ _ c2 _ _ _ _ e2_w).2 rfl
  refine ⟨fun k4 => s2_w.1 (s1_w.1 k4), fun k1_w => ?_⟩
  obtain ⟨o1, e3_w, e3'⟩ := s1_w.2 k1_w
  obtain ⟨t, e4_w, e4'⟩ := s2_w.2 o1
  refine ⟨t, ?_⟩
  by_cases r0 : rn = 0
  · rw [e3_w r0, e4_w r0]
  · obtain ⟨a, ea⟩ : ∃ a, rn = a + 1 := ⟨rn - 1, by omega⟩
    rw [e3' a ea, e4' a ea, eb]
    refine congrArg (fun v => [v]) (dfS_cg (sumA_cg rf.w sm_w.2.2.1) _ (fun s hs => ?_))
    obtain ⟨o2, o3_w⟩ := o1
    rw [r48_u hz]
    exact lc_eq ac rf (by omega) (by omega) hs
end ASKV
