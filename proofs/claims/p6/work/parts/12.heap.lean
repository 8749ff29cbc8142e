/-- what the tables say of the classes -/
def CF (Ts : List Cond) (cl : List vw_C) (ck : Nat → List Nat) : Prop := ∀ ci C T N, cl[ci]? = some (C, T, N) → (∀ w ∈ u_ws C T N, w ∈ Ts) ∧ (ck ci).length = N ∧ (∀ a, a < N → ∀ b, b < N → a ≠ b → (T a).2.1 ≠ (T b).2.1) ∧ ∀ k, k < N → ∃ v, (ck ci)[k]? = some (j_kd v) ∧ FK (T k).2.2.1 v ∧ (v = 1 ∨ v = 2 ∨ v = -1 ∨ 6 ≤ v)
/-- what stands there from the start and is never written -/
def SF (Zs : String → String → String → Value → Prop) (adW : Nat → Nat) (aT aS : Nat) (cW : Nat → Nat → Int) (xs : Nat → Int) (L : Nat) (A : Nat → Prop) (U : State) (H : Heap) : Prop :=
  (∀ C n d v, Zs C n d v → va_Z C n d v A U H) ∧ va_T (.object "FeederShares$Word") aT 24 (fun j => .ref (adW j)) A U H ∧
  va_Ef 24 "FeederShares$Word" "code" "J" (fun k => .long (Int64.ofInt (cW 0 k))) adW A U H ∧ va_Ef 24 "FeederShares$Word" "kept" "Z" (fun k => .int (Int32.ofInt (cW 1 k))) adW A U H ∧
  (∀ k, k < 24 → InL (cW 0 k) ∧ InI (cW 1 k)) ∧ va_X aS L (fun j => Int32.ofInt (xs j)) U H ∧ ¬ A aS ∧ aS < H.size ∧ L < 2147483648 ∧ (∀ j, InI (xs j)) ∧ vx_Zq Bundle.tN "UNASSIGNED_STACK" Bundle.steD A U H ∧ vx_Zq Bundle.tN "SUPPRESSED_SENTINEL" Bundle.listD A U H
theorem clampNeg_of {v : Int} (h : InI v) : (Int32.ofInt v).toNatClampNeg = v.toNat := by
  have : (Int32.ofInt v).toNatClampNeg = (Int32.ofInt v).toInt.toNat := rfl
  rw [this, i32_of h]
theorem in_of {v : Int} {n : Nat} (h : InI v) (h0 : 0 ≤ v) (h1 : v < n) : vp_in (Int32.ofInt v) n := by
  rw [vp_in_iff, i32_of h]
  exact ⟨h0, h1⟩
theorem ofNat_of (n : Nat) : Int32.ofNat n = Int32.ofInt (n : Int) := Int32.ofInt_eq_ofNat.symm
section JW3
variable {p : Program} {l : Launch} {e : Env} {R : Room} {s : State} {m : MethodId} {args : Array Value} {below : List Frame} {meth : Method} {c : Code} {Q : State → Prop}
  {cc : ByteArray} {nL : Nat} {own : String} {Ts : List Cond} {D : va_G} {cl : List vw_C} {cA : Nat → ClassId} {A : Nat → Prop} {adW : Nat → Nat} {aT aS : Nat} {ck : Nat → List Nat} {c0 d0 n0 : Nat} {ad0 : Nat → Nat} {dec : XD} {lk lp : XK} {Zs : String → String → String → Value → Prop} {cW : Nat → Nat → Int} {xs : Nat → Int} {L : Nat}
theorem slot_at {g : XS} {f : Nat → Int} {cc : XC} {ci k kd : Nat} (h : OkC ck g f cc) (h1 : cc.1 = 10 + ci) (h2 : (ck ci)[k]? = some kd) : ∃ r, cc.2.2[k]? = some (kd, r) := by
  have h3 := (h.2.2 (by omega)).1
  have h4 : cc.1 - 10 = ci := by omega
  rw [h4] at h3
  rw [← h3, List.getElem?_map] at h2
  cases hq : cc.2.2[k]? with
  | none => rw [hq] at h2; cases h2
  | some q =>
    rw [hq] at h2
    refine ⟨q.2, ?_⟩
    cases h2
    rfl
theorem obj_at {st : XT} {ad : Nat → Nat} {ci : Nat} {o : Int} (hok : OkS ck st) (hv : OkV st.1.1 (10 + ci) o) : ∃ cc, st.1.1[o.toNat]? = some cc ∧ cc.1 = 10 + ci ∧ OkC ck st.1.1 (st.2 o.toNat) cc ∧ (w_w cA ad st)[o.toNat]? = some (ad o.toNat, .inr (ci, w_fs ad (st.2 o.toNat) cc.2.2)) := by
  obtain ⟨h0, cc, h1, h2⟩ := hv.2.2.2.1 (by omega)
  refine ⟨cc, h1, h2, hok _ _ h1, ?_⟩
  rw [w_w_at h1, w_c_obj (by omega)]
  have : cc.1 - 10 = ci := by omega
  rw [this]
theorem j_kd1 {kd : Int} (h : kd = 1 ∨ kd = 2 ∨ kd = -1) : (j_kd kd = 1 ∧ (kd = 1 ∨ kd = -1)) ∨ (j_kd kd = 2 ∧ kd = 2) := by
  rcases h with rfl | rfl | rfl
  · exact Or.inl ⟨rfl, Or.inl rfl⟩
  · exact Or.inr ⟨rfl, rfl⟩
  · exact Or.inl ⟨rfl, Or.inr rfl⟩
theorem j_kd6 {kd : Int} (h : 6 ≤ kd) : j_kd kd = kd.toNat ∧ 6 ≤ kd.toNat := by
  unfold j_kd
  rw [if_neg (by omega)]
  exact ⟨rfl, by omega⟩
theorem w_s_ref {ad : Nat → Nat} {x : Int} {kd r : Nat} (h : 6 ≤ kd) : w_s ad x (kd, r + 1) = .ref (ad r) := by
  unfold w_s
  split
  · rename_i h1
    dsimp only at h1
    omega
  · rename_i h1
    dsimp only at h1
    omega
  · rfl
theorem z_getf (hx : p.tables.exec = Jvm.exec) (hb : c.code = cc) (hdec : DecOk dec cc) (hLK : ∀ i q, lk i = some q → LF Ts cl own ck adW aT Zs i q) (hown : s.vm.findClass own = some m.cls) (hts : ∀ w ∈ Ts, w.before args s = true) (hCF : CF Ts cl ck) (hK : va_K D cl (w_tys cA) s) :
    ∀ pc ci k kd o τ en S st, c_ins dec pc (a_getf lk) = some ((0, ci, k, kd), pc + 3) → (kd = 1 ∨ kd = 2 ∨ kd = -1) → JW p l e R s m args below meth c Q nL D cl cA A adW aT aS ck c0 d0 n0 ad0 (j_ult dec (pc + 3)) τ en ((j_kd kd, st.2 o.toNat k) :: S) st → JW p l e R s m args below meth c Q nL D cl cA A adW aT aS ck c0 d0 n0 ad0 (j_ult dec pc) τ en ((10 + ci, o) :: S) st := by
  intro pc ci k kd o τ en S st h hkd kk
  obtain ⟨ii, hd, hf⟩ := c_ins1 h
  obtain ⟨hdc, hln⟩ := hdec _ _ _ hd
  have hu := ult_ins hd (ng hf (fun _ => rfl))
  unfold a_getf at hf
  split at hf
  · obtain ⟨C, T, N, hc, hk, hck, hFK, hw⟩ := hLK _ _ hf
    refine jw_st hx hb hdec kk hu (fun hok hS _ _ => ?_) (fun hok hS _ _ ad H locs ls g1 _ _ _ cells slots K => ?_)
    · obtain ⟨q, q1, q2, q3, q4⟩ := obj_at (cA := cA) (ad := fun _ => 0) hok (hd_ok hS).1
      obtain ⟨r, hr⟩ := slot_at q3 q2 hck
      have hv := (q3.2.2 (by omega)).2 _ _ hr
      refine cons_ok ?_ (hd_ok hS).2
      rcases j_kd1 hkd with ⟨e1, -⟩ | ⟨e1, -⟩
      · rw [e1]
        exact OkV.int (hv.1 e1)
      · rw [e1]
        exact OkV.long (hv.2.1 e1)
    · obtain ⟨q, q1, q2, q3, q4⟩ := obj_at (cA := cA) (ad := ad) hok (hd_ok hS).1
      obtain ⟨r, hr⟩ := slot_at q3 q2 hck
      have ev : w_s ad (st.2 o.toNat k) (j_kd kd, r) = w_v ad adW aT aS (j_kd kd) (st.2 o.toNat k) := by
        rcases j_kd1 hkd with ⟨e1, -⟩ | ⟨e1, -⟩ <;> rw [e1] <;> rfl
      have hfs := w_fs_at (ad := ad) (f := st.2 o.toNat) hr
      rw [ev] at hfs
      have href : w_v ad adW aT aS (10 + ci) o = .ref (ad o.toNat) := w_v_ref (by omega)
      rw [List.map_cons, href]
      rcases hw with hw | ⟨hh, hw⟩
      · exact va_get hx hb hts (hCF _ _ _ _ hc).1 hown hK g1 o.toNat q4 hc k hk (hts _ hw) (fun _ z => z) hfs hdc K
      · exact va_getN hx hb hts (hCF _ _ _ _ hc).1 hown hK g1 o.toNat q4 hc k hk (hts _ hw) (fun _ z => z) hfs hdc K
  · cases hf
theorem z_getr (hx : p.tables.exec = Jvm.exec) (hb : c.code = cc) (hdec : DecOk dec cc) (hLK : ∀ i q, lk i = some q → LF Ts cl own ck adW aT Zs i q) (hown : s.vm.findClass own = some m.cls) (hts : ∀ w ∈ Ts, w.before args s = true) (hCF : CF Ts cl ck) (hK : va_K D cl (w_tys cA) s) :
    ∀ pc ci k kd o r τ en S st, c_ins dec pc (a_getf lk) = some ((0, ci, k, kd), pc + 3) → 6 ≤ kd → j_rf st.1.1 o.toNat k = some r → JW p l e R s m args below meth c Q nL D cl cA A adW aT aS ck c0 d0 n0 ad0 (j_ult dec (pc + 3)) τ en ((kd.toNat, r) :: S) st → JW p l e R s m args below meth c Q nL D cl cA A adW aT aS ck c0 d0 n0 ad0 (j_ult dec pc) τ en ((10 + ci, o) :: S) st := by
  intro pc ci k kd o r τ en S st h hkd hrf kk
  obtain ⟨ii, hd, hf⟩ := c_ins1 h
  obtain ⟨hdc, hln⟩ := hdec _ _ _ hd
  have hu := ult_ins hd (ng hf (fun _ => rfl))
  obtain ⟨e1, e2⟩ := j_kd6 hkd
  unfold a_getf at hf
  split at hf
  · obtain ⟨C, T, N, hc, hk, hck, hFK, hw⟩ := hLK _ _ hf
    rw [e1] at hck
    have key : OkS ck st → OkV st.1.1 (10 + ci) o → ∀ ad : Nat → Nat, ∃ (q : XC) (r' : Nat), st.1.1[o.toNat]? = some q ∧ r = (r' : Int) ∧ q.2.2[k]? = some (kd.toNat, r' + 1) ∧ (∃ c', st.1.1[r']? = some c' ∧ c'.1 = kd.toNat) ∧ (w_w cA ad st)[o.toNat]? = some (ad o.toNat, .inr (ci, w_fs ad (st.2 o.toNat) q.2.2)) := by
      intro hok hv ad
      obtain ⟨q, q1, q2, q3, q4⟩ := obj_at (cA := cA) (ad := ad) hok hv
      obtain ⟨r0, hr0⟩ := slot_at q3 q2 hck
      unfold j_rf at hrf
      rw [q1] at hrf
      obtain ⟨qa, qb, qc⟩ := q
      dsimp only at hrf hr0
      rw [hr0] at hrf
      cases r0 with
      | zero => cases hrf
      | succ r0 =>
        cases hrf
        exact ⟨_, r0, q1, rfl, hr0, ((q3.2.2 (by omega)).2 _ _ hr0).2.2 r0 (by dsimp only; omega) (by dsimp only; omega) rfl, q4⟩
    refine jw_st hx hb hdec kk hu (fun hok hS _ _ => ?_) (fun hok hS _ _ ad H locs ls g1 _ _ _ cells slots K => ?_)
    · obtain ⟨q, r', q1, q2, q3, ⟨c', q4, q5⟩, -⟩ := key hok (hd_ok hS).1 (fun _ => 0)
      refine cons_ok (OkV.ref e2 (by dsimp only; omega) ?_ q5) (hd_ok hS).2
      rw [q2]
      exact q4
    · obtain ⟨q, r', q1, q2, q3, -, q6⟩ := key hok (hd_ok hS).1 ad
      have hfs := w_fs_at (ad := ad) (f := st.2 o.toNat) q3
      rw [w_s_ref e2] at hfs
      have href : w_v ad adW aT aS (10 + ci) o = .ref (ad o.toNat) := w_v_ref (by omega)
      have hr2 : w_v ad adW aT aS kd.toNat r = .ref (ad r') := by rw [w_v_ref e2, q2]; rfl
      rw [List.map_cons, hr2] at K
      rw [List.map_cons, href]
      rcases hw with hw | ⟨hh, hw⟩
      · exact va_get hx hb hts (hCF _ _ _ _ hc).1 hown hK g1 o.toNat q6 hc k hk (hts _ hw) (fun _ z => z) hfs hdc K
      · exact va_getN hx hb hts (hCF _ _ _ _ hc).1 hown hK g1 o.toNat q6 hc k hk (hts _ hw) (fun _ z => z) hfs hdc K
  · cases hf
theorem arr_at {st : XT} {ad : Nat → Nat} {ty : Nat} {o : Int} (hok : OkS ck st) (hv : OkV st.1.1 ty o) (h6 : 6 ≤ ty) (h10 : ty < 10) : ∃ n : Nat, j_len st.1.1 o.toNat = (n : Int) ∧ n < 2147483648 ∧ (∃ z, st.1.1[o.toNat]? = some (ty, n, z)) ∧ (ty = 7 → ∀ k, InL (st.2 o.toNat k)) ∧ (ty ≠ 7 → ∀ k, InI (st.2 o.toNat k)) ∧ (w_w cA ad st)[o.toNat]? = some (ad o.toNat, w_c cA ad (st.2 o.toNat) (ty, n, [])) := by
  obtain ⟨h0, q, h1, h2⟩ := hv.2.2.2.1 h6
  have h3 := hok _ _ h1
  obtain ⟨qa, qb, qc⟩ := q
  dsimp only at h2
  subst h2
  obtain ⟨f1, f2, f3⟩ := h3.2.1 h10
  refine ⟨qb, by unfold j_len; rw [h1], f1, ⟨qc, h1⟩, f2, f3, ?_⟩
  rw [w_w_at h1]
  rcases (show qa = 6 ∨ qa = 7 ∨ qa = 8 ∨ qa = 9 by omega) with rfl | rfl | rfl | rfl <;> rfl
theorem k_arr_s {w ty : Nat} (h : k_arr w ty = true) (h6 : 6 ≤ ty) (h10 : ty < 10) : (ty = 6 ∧ w = 6) ∨ (ty = 7 ∧ w = 7) ∨ (ty = 8 ∧ w = 8) ∨ (ty = 9 ∧ (w = 8 ∨ w = 9)) := by
  unfold k_arr at h
  split at h
  · rw [Bool.or_eq_true, beq_iff_eq, beq_iff_eq] at h
    omega
  · rw [beq_iff_eq] at h
    omega
theorem z_aload (hx : p.tables.exec = Jvm.exec) (hb : c.code = cc) (hdec : DecOk dec cc) (hK : va_K D cl (w_tys cA) s) :
    ∀ pc w ty i o τ en S st, c_ins dec pc a_ald = some (w, pc + 1) → 6 ≤ ty → ty < 10 → k_arr w ty = true → 0 ≤ i → i < j_len st.1.1 o.toNat → JW p l e R s m args below meth c Q nL D cl cA A adW aT aS ck c0 d0 n0 ad0 (j_ult dec (pc + 1)) τ en ((k_elem ty, st.2 o.toNat i.toNat) :: S) st → JW p l e R s m args below meth c Q nL D cl cA A adW aT aS ck c0 d0 n0 ad0 (j_ult dec pc) τ en ((1, i) :: (ty, o) :: S) st := by
  intro pc w ty i o τ en S st h h6 h10 hka hi0 hi1 kk
  obtain ⟨ii, hd, hf⟩ := c_ins1 h
  obtain ⟨hdc, hln⟩ := hdec _ _ _ hd
  have hu := ult_ins hd (ng hf (fun _ => rfl))
  refine jw_st hx hb hdec kk hu (fun hok hS _ _ => ?_) (fun hok hS _ _ ad H locs ls g1 _ _ _ cells slots K => ?_)
  · obtain ⟨n, q1, q2, q3, q4, q5, -⟩ := arr_at (cA := cA) (ad := fun _ => 0) hok (hd_ok (hd_ok hS).2).1 h6 h10
    refine cons_ok ?_ (hd_ok (hd_ok hS).2).2
    by_cases h7 : ty = 7
    · subst h7
      exact OkV.long (q4 rfl _)
    · have : k_elem ty = 1 := by unfold k_elem; rw [if_neg h7]
      rw [this]
      exact OkV.int (q5 h7 _)
  · obtain ⟨n, q1, q2, q3, q4, q5, q6⟩ := arr_at (cA := cA) (ad := ad) hok (hd_ok (hd_ok hS).2).1 h6 h10
    have ii0 := (hd_ok hS).1.1 rfl
    dsimp only at ii0 q1 q6
    rw [q1] at hi1
    have hin := in_of ii0 hi0 hi1
    have href : w_v ad adW aT aS ty o = .ref (ad o.toNat) := w_v_ref h6
    rw [List.map_cons, List.map_cons, href]
    unfold a_ald at hf
    rcases k_arr_s hka h6 h10 with ⟨rfl, rfl⟩ | ⟨rfl, rfl⟩ | ⟨rfl, rfl⟩ | ⟨rfl, hw⟩
    · split at hf <;> cases hf
      refine va_iald hx hb hK g1 o.toNat 0 q6 rfl hin hdc ?_
      rw [clampNeg_of ii0]
      exact K
    · split at hf <;> cases hf
      refine va_lald hx hb hK g1 o.toNat 1 q6 rfl hin hdc ?_
      rw [clampNeg_of ii0]
      exact K
    · split at hf <;> cases hf
      refine va_bald hx hb hK g1 o.toNat 2 q6 rfl hin hdc ?_
      rw [clampNeg_of ii0]
      exact K
    · split at hf <;> first | (cases hf; done) | skip
      all_goals first | (exfalso; cases hf; omega) | skip
      refine va_zald hx hb hK g1 o.toNat 3 q6 rfl hin hdc ?_
      rw [clampNeg_of ii0]
      exact K
theorem z_sload (hx : p.tables.exec = Jvm.exec) (hb : c.code = cc) (hdec : DecOk dec cc) (hSF : SF Zs adW aT aS cW xs L A s s.heap) :
    ∀ pc i o τ en S st, c_ins dec pc a_ald = some (6, pc + 1) → 0 ≤ i → i < (L : Int) → JW p l e R s m args below meth c Q nL D cl cA A adW aT aS ck c0 d0 n0 ad0 (j_ult dec (pc + 1)) τ en ((1, xs i.toNat) :: S) st → JW p l e R s m args below meth c Q nL D cl cA A adW aT aS ck c0 d0 n0 ad0 (j_ult dec pc) τ en ((1, i) :: (5, o) :: S) st := by
  intro pc i o τ en S st h hi0 hi1 kk
  obtain ⟨ii, hd, hf⟩ := c_ins1 h
  obtain ⟨hdc, hln⟩ := hdec _ _ _ hd
  have hu := ult_ins hd (ng hf (fun _ => rfl))
  obtain ⟨-, -, -, -, -, hX, hnA, hlt, hL, hxs, -⟩ := hSF
  refine jw_st hx hb hdec kk hu (fun hok hS _ _ => cons_ok (OkV.int (hxs _)) (hd_ok (hd_ok hS).2).2) (fun hok hS _ _ ad H locs ls _ _ g3 _ cells slots K => ?_)
  have ii0 := (hd_ok hS).1.1 rfl
  dsimp only at ii0
  unfold a_ald at hf
  split at hf <;> cases hf
  refine va_sld hx hb hX hlt hnA g3 (in_of ii0 hi0 hi1) hdc ?_
  rw [clampNeg_of ii0]
  exact K
theorem z_wload (hx : p.tables.exec = Jvm.exec) (hb : c.code = cc) (hdec : DecOk dec cc) (hSF : SF Zs adW aT aS cW xs L A s s.heap) :
    ∀ pc i o τ en S st, c_ins dec pc a_ald = some (4, pc + 1) → 0 ≤ i → i < 24 → JW p l e R s m args below meth c Q nL D cl cA A adW aT aS ck c0 d0 n0 ad0 (j_ult dec (pc + 1)) τ en ((3, i) :: S) st → JW p l e R s m args below meth c Q nL D cl cA A adW aT aS ck c0 d0 n0 ad0 (j_ult dec pc) τ en ((1, i) :: (4, o) :: S) st := by
  intro pc i o τ en S st h hi0 hi1 kk
  obtain ⟨ii, hd, hf⟩ := c_ins1 h
  obtain ⟨hdc, hln⟩ := hdec _ _ _ hd
  have hu := ult_ins hd (ng hf (fun _ => rfl))
  obtain ⟨-, hT, -⟩ := hSF
  refine jw_st hx hb hdec kk hu (fun hok hS _ _ => cons_ok (OkV.word ⟨hi0, hi1⟩) (hd_ok (hd_ok hS).2).2) (fun hok hS _ _ ad H locs ls _ _ g3 _ cells slots K => ?_)
  have ii0 := (hd_ok hS).1.1 rfl
  dsimp only at ii0
  unfold a_ald at hf
  split at hf <;> cases hf
  exact vb_tq hx hb hT g3 (in_of ii0 hi0 hi1) (by rw [clampNeg_of ii0]; rfl) hdc K
theorem z_alen (hx : p.tables.exec = Jvm.exec) (hb : c.code = cc) (hdec : DecOk dec cc) (hK : va_K D cl (w_tys cA) s) :
    ∀ pc ty o τ en S st, c_op0 dec pc 4 = true → 6 ≤ ty → ty < 10 → JW p l e R s m args below meth c Q nL D cl cA A adW aT aS ck c0 d0 n0 ad0 (j_ult dec (pc + 1)) τ en ((1, j_len st.1.1 o.toNat) :: S) st → JW p l e R s m args below meth c Q nL D cl cA A adW aT aS ck c0 d0 n0 ad0 (j_ult dec pc) τ en ((ty, o) :: S) st := by
  intro pc ty o τ en S st h h6 h10 kk
  obtain ⟨ii, hd, hf⟩ := c_op0_spec h
  obtain ⟨hdc, hln⟩ := hdec _ _ _ hd
  have hi : ii = .arraylength := by
    unfold a_op0 at hf
    split at hf <;> first | rfl | cases hf
  subst hi
  refine jw_st hx hb hdec kk (ult_ins hd rfl) (fun hok hS _ _ => ?_) (fun hok hS _ _ ad H locs ls g1 _ _ _ cells slots K => ?_)
  · obtain ⟨n, q1, q2, q3, q4, q5, -⟩ := arr_at (cA := cA) (ad := fun _ => 0) hok (hd_ok hS).1 h6 h10
    dsimp only at q1
    refine cons_ok (OkV.int ?_) (hd_ok hS).2
    dsimp only
    rw [q1]
    exact ⟨by omega, by omega⟩
  · obtain ⟨n, q1, q2, q3, q4, q5, q6⟩ := arr_at (cA := cA) (ad := ad) hok (hd_ok hS).1 h6 h10
    dsimp only at q1 q6
    have href : w_v ad adW aT aS ty o = .ref (ad o.toNat) := w_v_ref h6
    rw [List.map_cons, href]
    rw [q1] at K
    have ev : Int32.ofNat n = Int32.ofInt (n : Int) := ofNat_of n
    rcases (show ty = 6 ∨ ty = 7 ∨ ty = 8 ∨ ty = 9 by omega) with rfl | rfl | rfl | rfl
    · exact va_alen hx hb hK g1 o.toNat 0 q6 rfl ev hdc K
    · exact va_alen hx hb hK g1 o.toNat 1 q6 rfl ev hdc K
    · exact va_alen hx hb hK g1 o.toNat 2 q6 rfl ev hdc K
    · exact va_alen hx hb hK g1 o.toNat 3 q6 rfl ev hdc K
theorem z_slen (hx : p.tables.exec = Jvm.exec) (hb : c.code = cc) (hdec : DecOk dec cc) (hSF : SF Zs adW aT aS cW xs L A s s.heap) :
    ∀ pc o τ en S st, c_op0 dec pc 4 = true → JW p l e R s m args below meth c Q nL D cl cA A adW aT aS ck c0 d0 n0 ad0 (j_ult dec (pc + 1)) τ en ((1, (L : Int)) :: S) st → JW p l e R s m args below meth c Q nL D cl cA A adW aT aS ck c0 d0 n0 ad0 (j_ult dec pc) τ en ((5, o) :: S) st := by
  intro pc o τ en S st h kk
  obtain ⟨ii, hd, hf⟩ := c_op0_spec h
  obtain ⟨hdc, hln⟩ := hdec _ _ _ hd
  have hi : ii = .arraylength := by
    unfold a_op0 at hf
    split at hf <;> first | rfl | cases hf
  subst hi
  obtain ⟨-, -, -, -, -, hX, hnA, hlt, hL, hxs, -⟩ := hSF
  refine jw_st hx hb hdec kk (ult_ins hd rfl) (fun hok hS _ _ => cons_ok (OkV.int ⟨by dsimp only; omega, by dsimp only; omega⟩) (hd_ok hS).2) (fun hok hS _ _ ad H locs ls g1 _ g3 _ cells slots K => va_slen hx hb hX hlt hnA g3 hdc ?_)
  rw [ofNat_of]
  exact K
theorem z_wlen (hx : p.tables.exec = Jvm.exec) (hb : c.code = cc) (hdec : DecOk dec cc) (hSF : SF Zs adW aT aS cW xs L A s s.heap) :
    ∀ pc o τ en S st, c_op0 dec pc 4 = true → JW p l e R s m args below meth c Q nL D cl cA A adW aT aS ck c0 d0 n0 ad0 (j_ult dec (pc + 1)) τ en ((1, 24) :: S) st → JW p l e R s m args below meth c Q nL D cl cA A adW aT aS ck c0 d0 n0 ad0 (j_ult dec pc) τ en ((4, o) :: S) st := by
  intro pc o τ en S st h kk
  obtain ⟨ii, hd, hf⟩ := c_op0_spec h
  obtain ⟨hdc, hln⟩ := hdec _ _ _ hd
  have hi : ii = .arraylength := by
    unfold a_op0 at hf
    split at hf <;> first | rfl | cases hf
  subst hi
  obtain ⟨-, hT, -⟩ := hSF
  exact jw_st hx hb hdec kk (ult_ins hd rfl) (fun hok hS _ _ => cons_ok (OkV.int ⟨by dsimp only; omega, by dsimp only; omega⟩) (hd_ok hS).2) (fun hok hS _ _ ad H locs ls g1 _ g3 _ cells slots K => va_tlen hx hb hT g3 rfl hdc K)
theorem z_wf (hx : p.tables.exec = Jvm.exec) (hb : c.code = cc) (hdec : DecOk dec cc) (hLK : ∀ i q, lk i = some q → LF Ts cl own ck adW aT Zs i q) (hown : s.vm.findClass own = some m.cls) (hts : ∀ w ∈ Ts, w.before args s = true) (hSF : SF Zs adW aT aS cW xs L A s s.heap) :
    ∀ pc y k kd o τ en S st, c_ins dec pc (a_getf lk) = some ((1, y, k, kd), pc + 3) → (kd = 1 ∨ kd = 2) → JW p l e R s m args below meth c Q nL D cl cA A adW aT aS ck c0 d0 n0 ad0 (j_ult dec (pc + 3)) τ en ((kd.toNat, cW k o.toNat) :: S) st → JW p l e R s m args below meth c Q nL D cl cA A adW aT aS ck c0 d0 n0 ad0 (j_ult dec pc) τ en ((3, o) :: S) st := by
  intro pc y k kd o τ en S st h hkd kk
  obtain ⟨ii, hd, hf⟩ := c_ins1 h
  obtain ⟨hdc, hln⟩ := hdec _ _ _ hd
  have hu := ult_ins hd (ng hf (fun _ => rfl))
  obtain ⟨-, -, hE0, hE1, hE, -⟩ := hSF
  unfold a_getf at hf
  split at hf
  · obtain ⟨n, d, hh, hw, hk⟩ := hLK _ _ hf
    rcases hk with ⟨rfl, rfl, rfl, rfl⟩ | ⟨rfl, rfl, rfl, rfl⟩
    · refine jw_st hx hb hdec kk hu (fun hok hS _ _ => ?_) (fun hok hS _ _ ad H locs ls g1 _ g3 _ cells slots K => ?_)
      · have ho := (hd_ok hS).1.2.2.1 rfl
        dsimp only at ho
        exact cons_ok (OkV.long (hE _ (by omega)).1) (hd_ok hS).2
      · have ho := (hd_ok hS).1.2.2.1 rfl
        dsimp only at ho
        obtain ⟨cf, kf, fi, f, cell, h1, h2, h3, h4, h5, h6⟩ := hE0 o.toNat (by omega)
        exact va_Wgetf (g := F0 m pc ls _) hx hb hown (hts _ hw) h1 h2 (by rw [g3.2.1 _ (Array.getElem?_eq_some_iff.mp h3).1 h6]; exact h3) h4 h5 rfl rfl hdc K
    · refine jw_st hx hb hdec kk hu (fun hok hS _ _ => ?_) (fun hok hS _ _ ad H locs ls g1 _ g3 _ cells slots K => ?_)
      · have ho := (hd_ok hS).1.2.2.1 rfl
        dsimp only at ho
        exact cons_ok (OkV.int (hE _ (by omega)).2) (hd_ok hS).2
      · have ho := (hd_ok hS).1.2.2.1 rfl
        dsimp only at ho
        obtain ⟨cf, kf, fi, f, cell, h1, h2, h3, h4, h5, h6⟩ := hE1 o.toNat (by omega)
        exact va_Wgetf (g := F0 m pc ls _) hx hb hown (hts _ hw) h1 h2 (by rw [g3.2.1 _ (Array.getElem?_eq_some_iff.mp h3).1 h6]; exact h3) h4 h5 rfl rfl hdc K
  · cases hf
/-- a step that writes a number: the world behind it -/
theorem w_w_put {st : XT} {ad : Nat → Nat} {o : Nat} {q : XC} {x : va_E} {h' : XH} (h1 : st.1.1[o]? = some q) (h2 : w_c cA ad (h' o) q = x) (h3 : ∀ a, a ≠ o → h' a = st.2 a) : (w_w cA ad st).set o (ad o, x) = w_w cA ad (st.1, h') := by
  apply List.ext_getElem?
  intro j
  by_cases e : j = o
  · subst e
    rw [w_w_at (st := (st.1, h')) h1, h2]
    have hl : j < (w_w cA ad st).length := by
      unfold w_w
      rw [List.length_mapIdx]
      exact (List.getElem?_eq_some_iff.mp h1).1
    rw [List.getElem?_set_self hl]
  · rw [List.getElem?_set_ne (fun h => e h.symm)]
    unfold w_w
    rw [List.getElem?_mapIdx, List.getElem?_mapIdx]
    dsimp only
    rw [h3 j e]
theorem w_fs_put {ad : Nat → Nat} {f f' : Nat → Int} {sl : List (Nat × Nat)} {k : Nat} {q : Nat × Nat} {v : Value} (h : sl[k]? = some q) (hv : w_s ad (f' k) q = v) (hf : ∀ j, j ≠ k → f' j = f j) : (w_fs ad f sl).set k v = w_fs ad f' sl := by
  apply List.ext_getElem?
  intro j
  by_cases e : j = k
  · subst e
    rw [w_fs_at (f := f') h, hv]
    have hl : j < (w_fs ad f sl).length := by
      unfold w_fs
      rw [List.length_mapIdx]
      exact (List.getElem?_eq_some_iff.mp h).1
    rw [List.getElem?_set_self hl]
  · rw [List.getElem?_set_ne (fun h => e h.symm)]
    unfold w_fs
    rw [List.getElem?_mapIdx, List.getElem?_mapIdx]
    rw [hf j e]
theorem j_up_ne {h : XH} {o k : Nat} {v : Int} {a : Nat} (e : a ≠ o) : j_up h o k v a = h a := by
  funext b
  unfold j_up
  rw [if_neg (fun q => e q.1)]
theorem j_up_at {h : XH} {o k : Nat} {v : Int} : j_up h o k v o k = v := by
  unfold j_up
  rw [if_pos ⟨rfl, rfl⟩]
theorem j_up_nk {h : XH} {o k : Nat} {v : Int} {b : Nat} (e : b ≠ k) : j_up h o k v o b = h o b := by
  unfold j_up
  rw [if_neg (fun q => e q.2)]
/-- numbers stay in their bounds behind a write -/
theorem OkS.put {st : XT} {o k : Nat} {v : Int} (hok : OkS ck st) (h : ∀ q, st.1.1[o]? = some q → (q.1 < 10 → (q.1 = 7 → InL v) ∧ (q.1 ≠ 7 → InI v)) ∧ (10 ≤ q.1 → ∀ z, q.2.2[k]? = some z → (z.1 = 1 → InI v) ∧ (z.1 = 2 → InL v))) : OkS ck (st.1, j_up st.2 o k v) := by
  intro a q hq
  have h0 := hok a q hq
  by_cases e : a = o
  · subst e
    obtain ⟨g1, g2⟩ := h q hq
    refine ⟨h0.1, fun h10 => ⟨(h0.2.1 h10).1, fun h7 b => ?_, fun h7 b => ?_⟩, fun h10 => ⟨(h0.2.2 h10).1, fun b z hz => ⟨fun z1 => ?_, fun z2 => ?_, (h0.2.2 h10).2 b z hz |>.2.2⟩⟩⟩
    · dsimp only
      by_cases eb : b = k
      · subst eb
        rw [j_up_at]
        exact (g1 h10).1 h7
      · rw [j_up_nk eb]
        exact (h0.2.1 h10).2.1 h7 b
    · dsimp only
      by_cases eb : b = k
      · subst eb
        rw [j_up_at]
        exact (g1 h10).2 h7
      · rw [j_up_nk eb]
        exact (h0.2.1 h10).2.2 h7 b
    · dsimp only
      by_cases eb : b = k
      · subst eb
        rw [j_up_at]
        exact (g2 h10 z hz).1 z1
      · rw [j_up_nk eb]
        exact ((h0.2.2 h10).2 b z hz).1 z1
    · dsimp only
      by_cases eb : b = k
      · subst eb
        rw [j_up_at]
        exact (g2 h10 z hz).2 z2
      · rw [j_up_nk eb]
        exact ((h0.2.2 h10).2 b z hz).2.1 z2
  · dsimp only
    rw [j_up_ne e]
    exact h0
/-- a putfield of a number, of what kind it may be -/
theorem jw_putf (hx : p.tables.exec = Jvm.exec) (hb : c.code = cc) (hdec : DecOk dec cc) (hown : s.vm.findClass own = some m.cls) (hts : ∀ w ∈ Ts, w.before args s = true) (hCF : CF Ts cl ck) (hK : va_K D cl (w_tys cA) s) (hLP : ∀ i q, lp i = some q → LF Ts cl own ck adW aT Zs i q ∧ (q.1 = 0 → ∀ C T N, cl[q.2.1]? = some (C, T, N) → (T q.2.2.1).2.2.2 = true → (T q.2.2.1).1 = own ∧ Cond.fieldLink own i (T q.2.2.1).1 (T q.2.2.1).2.1 (T q.2.2.1).2.2.1 ∈ Ts ∧ meth.name = "<init>"))
    {pc ci k : Nat} {kd o v : Int} {τ : List Nat} {en : List Int} {S : List (Nat × Int)} {st : XT} (h : c_ins dec pc (a_putf lp) = some ((0, ci, k, kd), pc + 3)) (hkd : kd = 1 ∨ kd = 2 ∨ (kd = -1 ∧ (v = 0 ∨ v = 1)))
    (kk : JW p l e R s m args below meth c Q nL D cl cA A adW aT aS ck c0 d0 n0 ad0 (j_ult dec (pc + 3)) τ en S (st.1, j_up st.2 o.toNat k v)) : JW p l e R s m args below meth c Q nL D cl cA A adW aT aS ck c0 d0 n0 ad0 (j_ult dec pc) τ en ((j_kd kd, v) :: (10 + ci, o) :: S) st := by
  obtain ⟨ii, hd, hf⟩ := c_ins1 h
  obtain ⟨hdc, hln⟩ := hdec _ _ _ hd
  have hu := ult_ins hd (ng hf (fun _ => rfl))
  have k' := jw_ult hx hb hdec kk
  rw [hu]
  unfold a_putf at hf
  split at hf
  · obtain ⟨⟨C, T, N, hc, hk, hck, hFK, hw⟩, hfin⟩ := hLP _ _ hf
    have hfin := hfin rfl C T N hc
    refine ⟨k'.1, fun hok hS hL h4 h5 h6 ad H locs ls g1 g2 g3 g4 => ?_⟩
    obtain ⟨hv, hS2⟩ := hd_ok hS
    obtain ⟨ho, hS3⟩ := hd_ok hS2
    obtain ⟨q, q1, q2, q3, q4⟩ := obj_at (cA := cA) (ad := ad) hok ho
    obtain ⟨r, hr⟩ := slot_at q3 q2 hck
    have hkd' : kd = 1 ∨ kd = 2 ∨ kd = -1 := by
      rcases hkd with h | h | h
      · exact Or.inl h
      · exact Or.inr (Or.inl h)
      · exact Or.inr (Or.inr h.1)
    have hok' : OkS ck (st.1, j_up st.2 o.toNat k v) := by
      refine hok.put (fun z hz => ?_)
      dsimp only at q1
      rw [q1] at hz
      cases hz
      refine ⟨fun e => by omega, fun _ z2 hz2 => ?_⟩
      rw [hr] at hz2
      cases hz2
      exact ⟨fun e => hv.1 e, fun e => hv.2.1 e⟩
    have ev : w_s ad v (j_kd kd, r) = w_v ad adW aT aS (j_kd kd) v := by
      rcases j_kd1 hkd' with ⟨e1, -⟩ | ⟨e1, -⟩ <;> rw [e1] <;> rfl
    have K := fun H1 locs1 a1 a2 a3 => k'.2 hok' hS3 hL h4 h5 h6 ad H1 locs1 ls a1 ⟨a2, g2.2⟩ a3 g4
    have eW : (w_w cA ad st).set o.toNat (ad o.toNat, .inr (ci, (w_fs ad (st.2 o.toNat) q.2.2).set k (w_v ad adW aT aS (j_kd kd) v))) = w_w cA ad (st.1, j_up st.2 o.toNat k v) := by
      refine w_w_put q1 ?_ (fun a ha => j_up_ne ha)
      rw [w_c_obj (by omega)]
      have : q.1 - 10 = ci := by omega
      rw [this, w_fs_put hr (by rw [j_up_at]; exact ev) (fun j hj => j_up_nk hj)]
    obtain ⟨hc1, hc2, hc3, hc4⟩ := hCF _ _ _ _ hc
    obtain ⟨ty, ty1, ty2, ty3, ty4, -⟩ := hFK
    have href : w_v ad adW aT aS (10 + ci) o = .ref (ad o.toNat) := w_v_ref (by omega)
    have hnar : narrow ty (w_v ad adW aT aS (j_kd kd) v) = w_v ad adW aT aS (j_kd kd) v ∧ fits ty (w_v ad adW aT aS (j_kd kd) v) = true := by
      rcases hkd with rfl | rfl | ⟨rfl, hz⟩
      · rw [ty2 rfl]
        exact ⟨rfl, rfl⟩
      · rw [ty3 rfl]
        exact ⟨rfl, rfl⟩
      · rw [ty4 rfl]
        rcases hz with rfl | rfl <;> exact ⟨rfl, rfl⟩
    have hkl : k < (w_fs ad (st.2 o.toNat) q.2.2).length := by
      unfold w_fs
      rw [List.length_mapIdx]
      exact (List.getElem?_eq_some_iff.mp hr).1
    rw [List.map_cons, List.map_cons, href]
    have hty0 : ∀ k, k < N → parseFieldDescriptor (T k).2.2.1 = some ((fun k => (parseFieldDescriptor (T k).2.2.1).getD .int) k) := by
      intro k hk
      obtain ⟨v', -, ⟨ty', e1, -⟩, -⟩ := hc4 k hk
      dsimp only
      rw [e1]
      rfl
    cases hfl : (T k).2.2.2 with
    | true =>
      obtain ⟨f1, f2, f3⟩ := hfin hfl
      exact va_putF hx hb hts hc1 _ hty0 hc3 hown hK g1 g2.1 g3 o.toNat q4 hc k hk (hts _ f2) (fun _ z => z) hfl f3 f1 ty1 hnar.1 hnar.2 hkl hdc (fun H1 locs1 a1 a2 a3 => K H1 locs1 (by rw [← eW]; exact a1) (by rw [← eW]; exact a2) a3)
    | false =>
      rcases hw with hw | ⟨hh, hw⟩
      · exact va_put hx hb hts hc1 _ hty0 hc3 hown hK g1 g2.1 g3 o.toNat q4 hc k hk (hts _ hw) (fun _ z => z) hfl ty1 hnar.1 hnar.2 hkl hdc (fun H1 locs1 a1 a2 a3 => K H1 locs1 (by rw [← eW]; exact a1) (by rw [← eW]; exact a2) a3)
      · exact va_putN hx hb hts hc1 _ hty0 hc3 hown hK g1 g2.1 g3 o.toNat q4 hc k hk (hts _ hw) (fun _ z => z) hfl ty1 hnar.1 hnar.2 hkl hdc (fun H1 locs1 a1 a2 a3 => K H1 locs1 (by rw [← eW]; exact a1) (by rw [← eW]; exact a2) a3)
  · cases hf
end JW3
