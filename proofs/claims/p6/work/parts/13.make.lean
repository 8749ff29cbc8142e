section JW4
variable {p : Program} {l : Launch} {e : Env} {R : Room} {s : State} {m : MethodId} {args : Array Value} {below : List Frame} {meth : Method} {c : Code} {Q : State → Prop}
  {cc : ByteArray} {nL : Nat} {own : String} {Ts : List Cond} {D : va_G} {cl : List vw_C} {cA : Nat → ClassId} {A : Nat → Prop} {adW : Nat → Nat} {aT aS : Nat} {ck : Nat → List Nat} {c0 d0 n0 : Nat} {ad0 : Nat → Nat} {dec : XD} {lk lp : XK} {Zs : String → String → String → Value → Prop} {cW : Nat → Nat → Int} {xs : Nat → Int} {L : Nat}
theorem j_setR_s {g : XS} {o k r : Nat} {kd n : Nat} {sl : List (Nat × Nat)} {ty r0 : Nat} (h : g[o]? = some (kd, n, sl)) (h2 : sl[k]? = some (ty, r0)) : j_setR g o k r = g.set o (kd, n, sl.set k (ty, r + 1)) := by
  unfold j_setR
  rw [h]
  dsimp only
  rw [h2]
/-- a putfield of a reference -/
theorem z_putr (hx : p.tables.exec = Jvm.exec) (hb : c.code = cc) (hdec : DecOk dec cc) (hown : s.vm.findClass own = some m.cls) (hts : ∀ w ∈ Ts, w.before args s = true) (hCF : CF Ts cl ck) (hK : va_K D cl (w_tys cA) s) (hLP : ∀ i q, lp i = some q → LF Ts cl own ck adW aT Zs i q ∧ (q.1 = 0 → ∀ C T N, cl[q.2.1]? = some (C, T, N) → (T q.2.2.1).2.2.2 = true → (T q.2.2.1).1 = own ∧ Cond.fieldLink own i (T q.2.2.1).1 (T q.2.2.1).2.1 (T q.2.2.1).2.2.1 ∈ Ts ∧ meth.name = "<init>")) :
    ∀ pc ci k kd o v τ en S st, c_ins dec pc (a_putf lp) = some ((0, ci, k, kd), pc + 3) → 6 ≤ kd → JW p l e R s m args below meth c Q nL D cl cA A adW aT aS ck c0 d0 n0 ad0 (j_ult dec (pc + 3)) τ en S ((j_setR st.1.1 o.toNat k v.toNat, st.1.2), st.2) → JW p l e R s m args below meth c Q nL D cl cA A adW aT aS ck c0 d0 n0 ad0 (j_ult dec pc) τ en ((kd.toNat, v) :: (10 + ci, o) :: S) st := by
  intro pc ci k kd o v τ en S st h hkd kk
  obtain ⟨ii, hd, hf⟩ := c_ins1 h
  obtain ⟨hdc, hln⟩ := hdec _ _ _ hd
  have hu := ult_ins hd (ng hf (fun _ => rfl))
  have k' := jw_ult hx hb hdec kk
  rw [hu]
  obtain ⟨e1, e2⟩ := j_kd6 hkd
  unfold a_putf at hf
  split at hf
  · obtain ⟨⟨C, T, N, hc, hk, hck, hFK, hw⟩, hfin⟩ := hLP _ _ hf
    have hfin := hfin rfl C T N hc
    rw [e1] at hck
    refine ⟨k'.1, fun hok hS hL h4 h5 h6 ad H locs ls g1 g2 g3 g4 => ?_⟩
    obtain ⟨hv, hS2⟩ := hd_ok hS
    obtain ⟨ho, hS3⟩ := hd_ok hS2
    obtain ⟨q, q1, q2, q3, q4⟩ := obj_at (cA := cA) (ad := ad) hok ho
    obtain ⟨r, hr⟩ := slot_at q3 q2 hck
    obtain ⟨hv0, cv, hv1, hv2⟩ := hv.2.2.2.1 e2
    obtain ⟨qa, qb, qc⟩ := q
    dsimp only at q1 q2 hr hv0 hv1 hv2
    have eR : j_setR st.1.1 o.toNat k v.toNat = st.1.1.set o.toNat (qa, qb, qc.set k (kd.toNat, v.toNat + 1)) := j_setR_s q1 hr
    have hol : o.toNat < st.1.1.length := (List.getElem?_eq_some_iff.mp q1).1
    have hkl0 : k < qc.length := (List.getElem?_eq_some_iff.mp hr).1
    -- a cell's kind stays
    have hkeep : ∀ (r : Nat) (c' : XC), st.1.1[r]? = some c' → ∃ c'', (st.1.1.set o.toNat (qa, qb, qc.set k (kd.toNat, v.toNat + 1)))[r]? = some c'' ∧ c''.1 = c'.1 := by
      intro r c' hc'
      by_cases er : r = o.toNat
      · subst er
        rw [q1] at hc'
        cases hc'
        exact ⟨_, List.getElem?_set_self hol, rfl⟩
      · rw [List.getElem?_set_ne (fun h => er h.symm)]
        exact ⟨c', hc', rfl⟩
    have hVk : ∀ kd' v', OkV st.1.1 kd' v' → OkV (st.1.1.set o.toNat (qa, qb, qc.set k (kd.toNat, v.toNat + 1))) kd' v' := by
      intro kd' v' h
      refine ⟨h.1, h.2.1, h.2.2.1, fun h6 => ?_, h.2.2.2.2⟩
      obtain ⟨a1, c', a2, a3⟩ := h.2.2.2.1 h6
      obtain ⟨c'', b1, b2⟩ := hkeep _ _ a2
      exact ⟨a1, c'', b1, b2.trans a3⟩
    have hok' : OkS ck ((j_setR st.1.1 o.toNat k v.toNat, st.1.2), st.2) := by
      rw [eR]
      intro a z hz
      dsimp only at hz ⊢
      by_cases ea : a = o.toNat
      · subst ea
        rw [List.getElem?_set_self hol] at hz
        cases hz
        refine ⟨q3.1, fun h10 => (q3.2.1 h10), fun h10 => ⟨?_, fun b z hz => ?_⟩⟩
        · have := (q3.2.2 h10).1
          dsimp only at this ⊢
          rw [← this]
          apply List.ext_getElem?
          intro j
          rw [List.getElem?_map, List.getElem?_map]
          by_cases ej : j = k
          · subst ej
            rw [List.getElem?_set_self hkl0, hr]
            rfl
          · rw [List.getElem?_set_ne (fun h => ej h.symm)]
        · dsimp only at hz
          by_cases eb : b = k
          · subst eb
            rw [List.getElem?_set_self hkl0] at hz
            cases hz
            refine ⟨fun z1 => ?_, fun z2 => ?_, fun r h1 h2 h3 => ?_⟩
            · dsimp only at z1
              omega
            · dsimp only at z2
              omega
            · dsimp only at h3 ⊢
              have : r = v.toNat := by omega
              subst this
              obtain ⟨c'', b1, b2⟩ := hkeep _ _ hv1
              exact ⟨c'', b1, b2.trans hv2⟩
          · rw [List.getElem?_set_ne (fun h => eb h.symm)] at hz
            obtain ⟨w1, w2, w3⟩ := (q3.2.2 h10).2 b z hz
            refine ⟨w1, w2, fun r h1 h2 h3 => ?_⟩
            obtain ⟨c', b1, b2⟩ := w3 r h1 h2 h3
            obtain ⟨c'', b3, b4⟩ := hkeep _ _ b1
            exact ⟨c'', b3, b4.trans b2⟩
      · rw [List.getElem?_set_ne (fun h => ea h.symm)] at hz
        have h0 := hok a z hz
        refine ⟨h0.1, h0.2.1, fun h10 => ⟨(h0.2.2 h10).1, fun b y hy => ?_⟩⟩
        obtain ⟨w1, w2, w3⟩ := (h0.2.2 h10).2 b y hy
        refine ⟨w1, w2, fun r h1 h2 h3 => ?_⟩
        obtain ⟨c', b1, b2⟩ := w3 r h1 h2 h3
        obtain ⟨c'', b3, b4⟩ := hkeep _ _ b1
        exact ⟨c'', b3, b4.trans b2⟩
    have K := fun H1 locs1 a1 a2 a3 => k'.2 hok' (by rw [eR]; exact fun q hq => hVk _ _ (hS3 q hq)) (by rw [eR]; exact fun i hi => hVk _ _ (hL i hi)) ⟨h4.1, by rw [eR, List.length_set]; exact h4.2⟩ h5 h6 ad H1 locs1 ls a1 ⟨a2, g2.2⟩ a3 g4
    have eW : (w_w cA ad st).set o.toNat (ad o.toNat, .inr (ci, (w_fs ad (st.2 o.toNat) qc).set k (.ref (ad v.toNat)))) = w_w cA ad ((j_setR st.1.1 o.toNat k v.toNat, st.1.2), st.2) := by
      rw [eR]
      apply List.ext_getElem?
      intro j
      by_cases ej : j = o.toNat
      · subst ej
        rw [w_w_at (st := ((st.1.1.set o.toNat (qa, qb, qc.set k (kd.toNat, v.toNat + 1)), st.1.2), st.2)) (List.getElem?_set_self hol), w_c_obj (by dsimp only; omega)]
        have : qa - 10 = ci := by omega
        dsimp only
        rw [this]
        have hl : o.toNat < (w_w cA ad st).length := by
          unfold w_w
          rw [List.length_mapIdx]
          exact hol
        rw [List.getElem?_set_self hl]
        congr 4
        apply List.ext_getElem?
        intro i
        by_cases ei : i = k
        · subst ei
          rw [w_fs_at (List.getElem?_set_self hkl0), w_s_ref e2]
          have hl2 : i < (w_fs ad (st.2 o.toNat) qc).length := by
            unfold w_fs
            rw [List.length_mapIdx]
            exact hkl0
          rw [List.getElem?_set_self hl2]
        · rw [List.getElem?_set_ne (fun h => ei h.symm)]
          unfold w_fs
          rw [List.getElem?_mapIdx, List.getElem?_mapIdx, List.getElem?_set_ne (fun h => ei h.symm)]
      · rw [List.getElem?_set_ne (fun h => ej h.symm)]
        unfold w_w
        rw [List.getElem?_mapIdx, List.getElem?_mapIdx]
        dsimp only
        rw [List.getElem?_set_ne (fun h => ej h.symm)]
    obtain ⟨hc1, hc2, hc3, hc4⟩ := hCF _ _ _ _ hc
    obtain ⟨ty, ty1, -, -, -, ty5⟩ := hFK
    have href : w_v ad adW aT aS (10 + ci) o = .ref (ad o.toNat) := w_v_ref (by omega)
    have href2 : w_v ad adW aT aS kd.toNat v = .ref (ad v.toNat) := w_v_ref e2
    have hnar : narrow ty (.ref (ad v.toNat)) = .ref (ad v.toNat) ∧ fits ty (.ref (ad v.toNat)) = true := by
      rcases ty5 hkd with ⟨n, rfl⟩ | ⟨t, rfl⟩ <;> exact ⟨rfl, rfl⟩
    have hkl : k < (w_fs ad (st.2 o.toNat) qc).length := by
      unfold w_fs
      rw [List.length_mapIdx]
      exact hkl0
    rw [List.map_cons, List.map_cons, href, href2]
    have hty0 : ∀ k, k < N → parseFieldDescriptor (T k).2.2.1 = some ((fun k => (parseFieldDescriptor (T k).2.2.1).getD .int) k) := by
      intro k hk
      obtain ⟨v', -, ⟨ty', e1, -⟩, -⟩ := hc4 k hk
      dsimp only
      rw [e1]
      rfl
    cases hfl : (T k).2.2.2 with
    | true =>
      obtain ⟨f1, f2, f3⟩ := hfin hfl
      exact va_putF hx hb hts hc1 _ hty0 hc3 hown hK g1 g2.1 g3 o.toNat q4 hc k hk (hts _ f2) (fun _ z => z) hfl f3 f1 ty1 hnar.1 hnar.2 hkl hdc (fun H1 locs1 a1 a2 a3 => K H1 locs1 (by rw [← eW]; exact a1) (by rw [← eW]; exact a2) a3)
    | false =>
      rcases hw with hw | ⟨hh, hw⟩
      · exact va_put hx hb hts hc1 _ hty0 hc3 hown hK g1 g2.1 g3 o.toNat q4 hc k hk (hts _ hw) (fun _ z => z) hfl ty1 hnar.1 hnar.2 hkl hdc (fun H1 locs1 a1 a2 a3 => K H1 locs1 (by rw [← eW]; exact a1) (by rw [← eW]; exact a2) a3)
      · exact va_putN hx hb hts hc1 _ hty0 hc3 hown hK g1 g2.1 g3 o.toNat q4 hc k hk (hts _ hw) (fun _ z => z) hfl ty1 hnar.1 hnar.2 hkl hdc (fun H1 locs1 a1 a2 a3 => K H1 locs1 (by rw [← eW]; exact a1) (by rw [← eW]; exact a2) a3)
  · cases hf
theorem upd_i (h : XH) (o k : Nat) (v : Int) : (fun j => Int32.ofInt (j_up h o k v o j)) = upd (fun j => Int32.ofInt (h o j)) k (Int32.ofInt v) := by
  funext j
  by_cases e : j = k
  · subst e
    rw [j_up_at, pk_us]
  · rw [j_up_nk e, pk_un e]
theorem upd_l (h : XH) (o k : Nat) (v : Int) : (fun j => Int64.ofInt (j_up h o k v o j)) = vp_updL (fun j => Int64.ofInt (h o j)) k (Int64.ofInt v) := by
  funext j
  by_cases e : j = k
  · subst e
    rw [j_up_at, pk_uLs]
  · rw [j_up_nk e, pk_uLn e]
theorem nar_b (v : Int) : Int32.ofInt ((Int32.ofInt v).toInt8.toInt32).toInt = vp_nar .byte (Int32.ofInt v) := by
  rw [Int32.ofInt_toInt, vp_nar_byte]
theorem nar_z (v : Int) : Int32.ofInt (Int32.ofInt v &&& 1).toInt = vp_nar .boolean (Int32.ofInt v) := by
  rw [Int32.ofInt_toInt]
  rfl
theorem z_astore (hx : p.tables.exec = Jvm.exec) (hb : c.code = cc) (hdec : DecOk dec cc) (hK : va_K D cl (w_tys cA) s) :
    ∀ pc w ty i o v τ en S st, c_ins dec pc a_ast = some (w, pc + 1) → 6 ≤ ty → ty < 10 → k_arr w ty = true → 0 ≤ i → i < j_len st.1.1 o.toNat → JW p l e R s m args below meth c Q nL D cl cA A adW aT aS ck c0 d0 n0 ad0 (j_ult dec (pc + 1)) τ en S (st.1, j_up st.2 o.toNat i.toNat (match ty with
      | 8 => ((Int32.ofInt v).toInt8.toInt32).toInt
      | 9 => (Int32.ofInt v &&& 1).toInt
      | _ => v)) → JW p l e R s m args below meth c Q nL D cl cA A adW aT aS ck c0 d0 n0 ad0 (j_ult dec pc) τ en ((k_elem ty, v) :: (1, i) :: (ty, o) :: S) st := by
  intro pc w ty i o v τ en S st h h6 h10 hka hi0 hi1 kk
  obtain ⟨ii, hd, hf⟩ := c_ins1 h
  obtain ⟨hdc, hln⟩ := hdec _ _ _ hd
  have hu := ult_ins hd (ng hf (fun _ => rfl))
  have k' := jw_ult hx hb hdec kk
  rw [hu]
  refine ⟨k'.1, fun hok hS hL h4 h5 h6' ad H locs ls g1 g2 g3 g4 => ?_⟩
  obtain ⟨hv, hS2⟩ := hd_ok hS
  obtain ⟨hi, hS3⟩ := hd_ok hS2
  obtain ⟨ho, hS4⟩ := hd_ok hS3
  obtain ⟨n, q1, q2, ⟨zz, q3⟩, q4, q5, q6⟩ := arr_at (cA := cA) (ad := ad) hok ho h6 h10
  have ii0 := hi.1 rfl
  dsimp only at ii0 q1 q6 q3
  rw [q1] at hi1
  have hin := in_of ii0 hi0 hi1
  have hcl := clampNeg_of ii0
  have href : w_v ad adW aT aS ty o = .ref (ad o.toNat) := w_v_ref h6
  rw [List.map_cons, List.map_cons, List.map_cons, href]
  unfold a_ast at hf
  rcases k_arr_s hka h6 h10 with ⟨rfl, rfl⟩ | ⟨rfl, rfl⟩ | ⟨rfl, rfl⟩ | ⟨rfl, hw⟩
  · split at hf <;> cases hf
    have hok' := OkS.put (k := i.toNat) (v := v) hok (o := o.toNat) (fun z hz => by
      rw [q3] at hz
      cases hz
      exact ⟨fun _ => ⟨fun e => (by cases e), fun _ => hv.1 rfl⟩, fun e => absurd e (by dsimp only; omega)⟩)
    refine va_iast hx hb hK g1 g2.1 g3 o.toNat 0 q6 rfl hin hdc (fun H1 locs1 a1 a2 a3 => ?_)
    have K := fun (b1 : va_P D cl (w_w cA ad (st.1, j_up st.2 o.toNat i.toNat (v))) H1) (b2 : va_D A (w_w cA ad (st.1, j_up st.2 o.toNat i.toNat (v)))) => k'.2 hok' hS4 hL h4 h5 h6' ad H1 locs1 ls b1 ⟨b2, g2.2⟩ a3 g4
    have eW : (w_w cA ad st).set o.toNat (ad o.toNat, .inl (cA 6, n, .inl (upd (fun j => Int32.ofInt (st.2 o.toNat j)) (Int32.ofInt i).toNatClampNeg (Int32.ofInt v)))) = w_w cA ad (st.1, j_up st.2 o.toNat i.toNat (v)) := by
      refine w_w_put q3 ?_ (fun a ha => j_up_ne ha)
      have := upd_i st.2 o.toNat i.toNat (v)
      rw [hcl, ← this]
      rfl
    have b1 : va_P D cl ((w_w cA ad st).set o.toNat (ad o.toNat, .inl (cA 6, n, .inl (upd (fun j => Int32.ofInt (st.2 o.toNat j)) (Int32.ofInt i).toNatClampNeg (Int32.ofInt v))))) H1 := a1
    have b2 : va_D A ((w_w cA ad st).set o.toNat (ad o.toNat, .inl (cA 6, n, .inl (upd (fun j => Int32.ofInt (st.2 o.toNat j)) (Int32.ofInt i).toNatClampNeg (Int32.ofInt v))))) := a2
    rw [eW] at b1 b2
    exact K b1 b2
  · split at hf <;> cases hf
    have hok' := OkS.put (k := i.toNat) (v := v) hok (o := o.toNat) (fun z hz => by
      rw [q3] at hz
      cases hz
      exact ⟨fun _ => ⟨fun _ => hv.2.1 rfl, fun e => absurd rfl e⟩, fun e => absurd e (by dsimp only; omega)⟩)
    refine va_last hx hb hK g1 g2.1 g3 o.toNat 1 q6 rfl hin hdc (fun H1 locs1 a1 a2 a3 => ?_)
    have K := fun (b1 : va_P D cl (w_w cA ad (st.1, j_up st.2 o.toNat i.toNat (v))) H1) (b2 : va_D A (w_w cA ad (st.1, j_up st.2 o.toNat i.toNat (v)))) => k'.2 hok' hS4 hL h4 h5 h6' ad H1 locs1 ls b1 ⟨b2, g2.2⟩ a3 g4
    have eW : (w_w cA ad st).set o.toNat (ad o.toNat, .inl (cA 7, n, .inr (.inl (vp_updL (fun j => Int64.ofInt (st.2 o.toNat j)) (Int32.ofInt i).toNatClampNeg (Int64.ofInt v))))) = w_w cA ad (st.1, j_up st.2 o.toNat i.toNat (v)) := by
      refine w_w_put q3 ?_ (fun a ha => j_up_ne ha)
      have := upd_l st.2 o.toNat i.toNat (v)
      rw [hcl, ← this]
      rfl
    have b1 : va_P D cl ((w_w cA ad st).set o.toNat (ad o.toNat, .inl (cA 7, n, .inr (.inl (vp_updL (fun j => Int64.ofInt (st.2 o.toNat j)) (Int32.ofInt i).toNatClampNeg (Int64.ofInt v)))))) H1 := a1
    have b2 : va_D A ((w_w cA ad st).set o.toNat (ad o.toNat, .inl (cA 7, n, .inr (.inl (vp_updL (fun j => Int64.ofInt (st.2 o.toNat j)) (Int32.ofInt i).toNatClampNeg (Int64.ofInt v)))))) := a2
    rw [eW] at b1 b2
    exact K b1 b2
  · split at hf <;> cases hf
    have hok' := OkS.put (k := i.toNat) (v := ((Int32.ofInt v).toInt8.toInt32).toInt) hok (o := o.toNat) (fun z hz => by
      rw [q3] at hz
      cases hz
      exact ⟨fun _ => ⟨fun e => (by cases e), fun _ => in_i32 _⟩, fun e => absurd e (by dsimp only; omega)⟩)
    refine va_bast hx hb hK g1 g2.1 g3 o.toNat 2 q6 rfl hin hdc (fun H1 locs1 a1 a2 a3 => ?_)
    have K := fun (b1 : va_P D cl (w_w cA ad (st.1, j_up st.2 o.toNat i.toNat (((Int32.ofInt v).toInt8.toInt32).toInt))) H1) (b2 : va_D A (w_w cA ad (st.1, j_up st.2 o.toNat i.toNat (((Int32.ofInt v).toInt8.toInt32).toInt)))) => k'.2 hok' hS4 hL h4 h5 h6' ad H1 locs1 ls b1 ⟨b2, g2.2⟩ a3 g4
    have eW : (w_w cA ad st).set o.toNat (ad o.toNat, .inl (cA 8, n, .inl (upd (fun j => Int32.ofInt (st.2 o.toNat j)) (Int32.ofInt i).toNatClampNeg (vp_nar .byte (Int32.ofInt v))))) = w_w cA ad (st.1, j_up st.2 o.toNat i.toNat (((Int32.ofInt v).toInt8.toInt32).toInt)) := by
      refine w_w_put q3 ?_ (fun a ha => j_up_ne ha)
      have := upd_i st.2 o.toNat i.toNat (((Int32.ofInt v).toInt8.toInt32).toInt)
      rw [hcl, ← nar_b, ← this]
      rfl
    have b1 : va_P D cl ((w_w cA ad st).set o.toNat (ad o.toNat, .inl (cA 8, n, .inl (upd (fun j => Int32.ofInt (st.2 o.toNat j)) (Int32.ofInt i).toNatClampNeg (vp_nar .byte (Int32.ofInt v)))))) H1 := a1
    have b2 : va_D A ((w_w cA ad st).set o.toNat (ad o.toNat, .inl (cA 8, n, .inl (upd (fun j => Int32.ofInt (st.2 o.toNat j)) (Int32.ofInt i).toNatClampNeg (vp_nar .byte (Int32.ofInt v)))))) := a2
    rw [eW] at b1 b2
    exact K b1 b2
  · split at hf <;> first | (cases hf; done) | skip
    all_goals first | (exfalso; cases hf; omega) | skip
    have hok' := OkS.put (k := i.toNat) (v := (Int32.ofInt v &&& 1).toInt) hok (o := o.toNat) (fun z hz => by
      rw [q3] at hz
      cases hz
      exact ⟨fun _ => ⟨fun e => (by cases e), fun _ => in_i32 _⟩, fun e => absurd e (by dsimp only; omega)⟩)
    refine va_zast hx hb hK g1 g2.1 g3 o.toNat 3 q6 rfl hin hdc (fun H1 locs1 a1 a2 a3 => ?_)
    have K := fun (b1 : va_P D cl (w_w cA ad (st.1, j_up st.2 o.toNat i.toNat ((Int32.ofInt v &&& 1).toInt))) H1) (b2 : va_D A (w_w cA ad (st.1, j_up st.2 o.toNat i.toNat ((Int32.ofInt v &&& 1).toInt)))) => k'.2 hok' hS4 hL h4 h5 h6' ad H1 locs1 ls b1 ⟨b2, g2.2⟩ a3 g4
    have eW : (w_w cA ad st).set o.toNat (ad o.toNat, .inl (cA 9, n, .inl (upd (fun j => Int32.ofInt (st.2 o.toNat j)) (Int32.ofInt i).toNatClampNeg (vp_nar .boolean (Int32.ofInt v))))) = w_w cA ad (st.1, j_up st.2 o.toNat i.toNat ((Int32.ofInt v &&& 1).toInt)) := by
      refine w_w_put q3 ?_ (fun a ha => j_up_ne ha)
      have := upd_i st.2 o.toNat i.toNat ((Int32.ofInt v &&& 1).toInt)
      rw [hcl, ← nar_z, ← this]
      rfl
    have b1 : va_P D cl ((w_w cA ad st).set o.toNat (ad o.toNat, .inl (cA 9, n, .inl (upd (fun j => Int32.ofInt (st.2 o.toNat j)) (Int32.ofInt i).toNatClampNeg (vp_nar .boolean (Int32.ofInt v)))))) H1 := a1
    have b2 : va_D A ((w_w cA ad st).set o.toNat (ad o.toNat, .inl (cA 9, n, .inl (upd (fun j => Int32.ofInt (st.2 o.toNat j)) (Int32.ofInt i).toNatClampNeg (vp_nar .boolean (Int32.ofInt v)))))) := a2
    rw [eW] at b1 b2
    exact K b1 b2
/-- one cell more -/
def j_grow (st : XT) (z : XC) (a b : Nat) : XT := ((st.1.1 ++ [z], a, b), fun x y => if x = st.1.1.length then 0 else st.2 x y)
def ad_up (ad : Nat → Nat) (o q : Nat) : Nat → Nat := fun k => if k = o then q else ad k
theorem grow_at {st : XT} {z q : XC} {a b o : Nat} (h : st.1.1[o]? = some q) : (j_grow st z a b).1.1[o]? = some q ∧ (j_grow st z a b).2 o = st.2 o ∧ o < st.1.1.length := by
  have hl := (List.getElem?_eq_some_iff.mp h).1
  refine ⟨?_, ?_, hl⟩
  · show (st.1.1 ++ [z])[o]? = _
    rw [List.getElem?_append_left hl]
    exact h
  · funext y
    show (if o = st.1.1.length then 0 else st.2 o y) = _
    rw [if_neg (by omega)]
theorem grow_V {st : XT} {z : XC} {a b kd : Nat} {v : Int} (h : OkV st.1.1 kd v) : OkV (j_grow st z a b).1.1 kd v :=
  ⟨h.1, h.2.1, h.2.2.1, fun h6 => by
    obtain ⟨h0, c', h1, h2⟩ := h.2.2.2.1 h6
    exact ⟨h0, c', (grow_at h1).1, h2⟩, h.2.2.2.2⟩
theorem grow_S {st : XT} {z : XC} {a b : Nat} (hok : OkS ck st) (hz : OkC ck (j_grow st z a b).1.1 (fun _ => 0) z) : OkS ck (j_grow st z a b) := by
  intro o q hq
  by_cases hl : o < st.1.1.length
  · have hq0 : st.1.1[o]? = some q := by
      have : (st.1.1 ++ [z])[o]? = some q := hq
      rw [List.getElem?_append_left hl] at this
      exact this
    have h0 := hok o q hq0
    rw [(grow_at hq0).2.1]
    refine ⟨h0.1, h0.2.1, fun h10 => ⟨(h0.2.2 h10).1, fun k y hy => ?_⟩⟩
    obtain ⟨w1, w2, w3⟩ := (h0.2.2 h10).2 k y hy
    refine ⟨w1, w2, fun r r1 r2 r3 => ?_⟩
    obtain ⟨c', b1, b2⟩ := w3 r r1 r2 r3
    exact ⟨c', (grow_at b1).1, b2⟩
  · have : (st.1.1 ++ [z])[o]? = some q := hq
    rw [List.getElem?_append_right (by omega)] at this
    have e : o = st.1.1.length := by
      have := (List.getElem?_eq_some_iff.mp this).1
      simp at this
      omega
    subst e
    rw [Nat.sub_self] at this
    cases this
    have e2 : (j_grow st z a b).2 st.1.1.length = fun _ => 0 := by
      funext y
      show (if st.1.1.length = st.1.1.length then 0 else st.2 st.1.1.length y) = 0
      rw [if_pos rfl]
    rw [e2]
    exact hz
theorem w_c_ad {cA : Nat → ClassId} {ad ad' : Nat → Nat} {f : Nat → Int} {g : XS} {q : XC} (h : OkC ck g f q) (ha : ∀ r, r < g.length → ad' r = ad r) : w_c cA ad' f q = w_c cA ad f q := by
  by_cases h10 : 10 ≤ q.1
  · rw [w_c_obj h10, w_c_obj h10]
    congr 2
    apply List.ext_getElem?
    intro k
    unfold w_fs
    rw [List.getElem?_mapIdx, List.getElem?_mapIdx]
    cases hk : q.2.2[k]? with
    | none => rfl
    | some y =>
      simp only [Option.map_some]
      congr 1
      obtain ⟨w1, w2, w3⟩ := (h.2.2 h10).2 k y hk
      obtain ⟨y1, y2⟩ := y
      unfold w_s
      dsimp only
      split
      · rfl
      · rfl
      · rename_i n1 n2
        cases y2 with
        | zero => rfl
        | succ r =>
          obtain ⟨c', b1, -⟩ := w3 r n1 n2 rfl
          dsimp only
          rw [ha r (List.getElem?_eq_some_iff.mp b1).1]
  · have h6 := h.1
    obtain ⟨qa, qb, qc⟩ := q
    dsimp only at h6 h10
    rcases (show qa = 6 ∨ qa = 7 ∨ qa = 8 ∨ qa = 9 by omega) with rfl | rfl | rfl | rfl <;> rfl
theorem w_w_grow {st : XT} {z : XC} {a b : Nat} {ad : Nat → Nat} {q : Nat} (hok : OkS ck st) : w_w cA (ad_up ad st.1.1.length q) (j_grow st z a b) = w_w cA ad st ++ [(q, w_c cA (ad_up ad st.1.1.length q) (fun _ => 0) z)] := by
  apply List.ext_getElem?
  intro o
  by_cases hl : o < st.1.1.length
  · have hl2 : o < (w_w cA ad st).length := by
      unfold w_w
      rw [List.length_mapIdx]
      exact hl
    rw [List.getElem?_append_left hl2]
    obtain ⟨y, hy⟩ : ∃ y, st.1.1[o]? = some y := ⟨st.1.1[o], List.getElem?_eq_getElem hl⟩
    rw [w_w_at hy, w_w_at (grow_at (z := z) (a := a) (b := b) hy).1, (grow_at hy).2.1]
    have e1 : ad_up ad st.1.1.length q o = ad o := if_neg (by omega)
    rw [e1, w_c_ad (ad' := ad_up ad st.1.1.length q) (hok o y hy) (fun r hr => if_neg (by omega))]
  · have hl2 : (w_w cA ad st).length = st.1.1.length := by
      unfold w_w
      rw [List.length_mapIdx]
    rw [List.getElem?_append_right (by omega), hl2]
    by_cases e : o = st.1.1.length
    · subst e
      have hz : (j_grow st z a b).1.1[st.1.1.length]? = some z := by
        show (st.1.1 ++ [z])[st.1.1.length]? = _
        simp
      rw [w_w_at hz, Nat.sub_self]
      have e1 : ad_up ad st.1.1.length q st.1.1.length = q := if_pos rfl
      have e2 : (j_grow st z a b).2 st.1.1.length = fun _ => 0 := by
        funext y
        exact if_pos rfl
      rw [e1, e2]
      rfl
    · have h1 : (j_grow st z a b).1.1[o]? = none := by
        show (st.1.1 ++ [z])[o]? = _
        apply List.getElem?_eq_none
        simp
        omega
      unfold w_w
      rw [List.getElem?_mapIdx, h1]
      rw [List.getElem?_eq_none (by simp; omega)]
      rfl
theorem w_v_ad {ad ad' : Nat → Nat} {g : XS} {kd : Nat} {v : Int} (h : OkV g kd v) (ha : ∀ r, r < g.length → ad' r = ad r) : w_v ad' adW aT aS kd v = w_v ad adW aT aS kd v := by
  by_cases h6 : 6 ≤ kd
  · rw [w_v_ref h6, w_v_ref h6]
    obtain ⟨h0, c', h1, -⟩ := h.2.2.2.1 h6
    rw [ha _ (List.getElem?_eq_some_iff.mp h1).1]
  · have h0 := h.2.2.2.2
    rcases (show kd = 1 ∨ kd = 2 ∨ kd = 3 ∨ kd = 4 ∨ kd = 5 by omega) with rfl | rfl | rfl | rfl | rfl <;> rfl
theorem w_l_ad {ad ad' : Nat → Nat} {g : XS} {τ : List Nat} {en : List Int} (h : ∀ i, τ.getD i 0 ≠ 0 → OkV g (τ.getD i 0) (en.getD i 0)) (ha : ∀ r, r < g.length → ad' r = ad r) : ∀ q ∈ w_l ad' adW aT aS τ en, q ∈ w_l ad adW aT aS τ en := by
  intro q hq
  obtain ⟨h1, h2, h3⟩ := w_l_mem.mp hq
  exact w_l_mem.mpr ⟨h1, h2, by rw [h3, w_v_ad (h _ h2) ha]⟩
theorem w_S_ad {ad ad' : Nat → Nat} {g : XS} {S : List (Nat × Int)} (h : ∀ q ∈ S, OkV g q.1 q.2) (ha : ∀ r, r < g.length → ad' r = ad r) : (S.map fun q => w_v ad' adW aT aS q.1 q.2) = S.map fun q => w_v ad adW aT aS q.1 q.2 :=
  List.map_congr_left fun q hq => w_v_ad (h q hq) ha
theorem z_new (hx : p.tables.exec = Jvm.exec) (hb : c.code = cc) (hdec : DecOk dec cc) (hLK : ∀ i q, lk i = some q → LF Ts cl own ck adW aT Zs i q) (hown : s.vm.findClass own = some m.cls) (hts : ∀ w ∈ Ts, w.before args s = true) (hCF : CF Ts cl ck) (hK : va_K D cl (w_tys cA) s) (hA : ∀ q, s.heap.size ≤ q → A q) :
    ∀ pc ci y τ en S st, c_ins dec pc (a_new lk) = some ((5, ci, y), pc + 3) → JW p l e R s m args below meth c Q nL D cl cA A adW aT aS ck c0 d0 n0 ad0 (j_ult dec (pc + 3)) τ en ((10 + ci, (st.1.1.length : Int)) :: S) (j_grow st (10 + ci, 0, (ck ci).map fun k => (k, 0)) (st.1.2.1 + 1) (st.1.2.2 + (ck ci).length)) → JW p l e R s m args below meth c Q nL D cl cA A adW aT aS ck c0 d0 n0 ad0 (j_ult dec pc) τ en S st := by
  intro pc ci y τ en S st h kk
  obtain ⟨ii, hd, hf⟩ := c_ins1 h
  obtain ⟨hdc, hln⟩ := hdec _ _ _ hd
  have hu := ult_ins hd (ng hf (fun _ => rfl))
  have k' := jw_ult hx hb hdec kk
  rw [hu]
  unfold a_new at hf
  split at hf
  · obtain ⟨C, T, N, hc, hN, hw1, hw2, hw3⟩ := hLK _ _ hf
    obtain ⟨hc1, hc2, hc3, hc4⟩ := hCF _ _ _ _ hc
    have hlim := k'.1
    refine ⟨⟨Nat.le_trans (Nat.le_succ _) hlim.1, Nat.le_trans (Nat.le_add_right _ _) hlim.2⟩, fun hok hS hL h4 h5 h6 ad H locs ls g1 g2 g3 g4 => ?_⟩
    have hlim1 : st.1.2.1 + 1 ≤ c0 + R.cells := hlim.1
    have hlim2 : st.1.2.2 + (ck ci).length ≤ d0 + R.slots := hlim.2
    have hok' : OkS ck (j_grow st (10 + ci, 0, (ck ci).map fun k => (k, 0)) (st.1.2.1 + 1) (st.1.2.2 + (ck ci).length)) := by
      refine grow_S hok ⟨by dsimp only; omega, fun h => by dsimp only at h; omega, fun _ => ⟨?_, fun k z hz => ?_⟩⟩
      · dsimp only
        rw [List.map_map]
        have : 10 + ci - 10 = ci := by omega
        rw [this]
        exact List.map_id _
      · dsimp only at hz
        rw [List.getElem?_map] at hz
        cases hk : (ck ci)[k]? with
        | none => rw [hk] at hz; cases hz
        | some kd =>
          rw [hk] at hz
          cases hz
          exact ⟨fun _ => in_0, fun _ => in_0L, fun r _ _ h3 => (by cases h3)⟩
    have hv' : OkV (j_grow st (10 + ci, 0, (ck ci).map fun k => (k, 0)) (st.1.2.1 + 1) (st.1.2.2 + (ck ci).length)).1.1 (10 + ci) (st.1.1.length : Int) := by
      refine OkV.ref (by omega) (by omega) (c := (10 + ci, 0, (ck ci).map fun k => (k, 0))) ?_ rfl
      show (st.1.1 ++ [_])[((st.1.1.length : Int)).toNat]? = _
      simp
    have hty : ∀ k, k < N → parseFieldDescriptor (T k).2.2.1 = some ((fun k => (parseFieldDescriptor (T k).2.2.1).getD .int) k) := by
      intro k hk
      obtain ⟨v', -, ⟨ty', e1, -⟩, -⟩ := hc4 k hk
      dsimp only
      rw [e1]
      rfl
    refine va_new (fs := w_fs ad (fun _ => 0) ((ck ci).map fun k => (k, 0))) hx hb hts hc1 _ hty hown (hts _ hw1) (hts _ hw2) (hts _ hw3) hK g1 g2.1 g3 hA hc ?_ (by omega) (by rw [← hc2]; omega) hdc (fun q H1 a1 a2 a3 => ?_)
    · intro j hj
      obtain ⟨v', e0, ⟨ty', e1, f1, f2, f3, f4⟩, e2⟩ := hc4 j hj
      rw [e1]
      have hs : ((ck ci).map fun k => (k, 0))[j]? = some (j_kd v', 0) := by
        rw [List.getElem?_map, e0]
        rfl
      have := w_fs_at (ad := ad) (f := fun _ => 0) hs
      unfold vp_V
      rw [List.getD, this]
      show defaultValue ty' = w_s ad 0 (j_kd v', 0)
      rcases e2 with rfl | rfl | rfl | h6v
      · rw [f1 rfl]
        rfl
      · rw [f2 rfl]
        rfl
      · rw [f3 rfl]
        rfl
      · obtain ⟨k1, k2⟩ := j_kd6 h6v
        have ew : w_s ad 0 (j_kd v', 0) = .null := by
          unfold w_s
          split
          · rename_i q
            dsimp only at q
            omega
          · rename_i q
            dsimp only at q
            omega
          · rfl
        rw [ew]
        rcases f4 h6v with ⟨n, rfl⟩ | ⟨t, rfl⟩ <;> rfl
    · have ha : ∀ r, r < st.1.1.length → ad_up ad st.1.1.length q r = ad r := fun r hr => if_neg (by omega)
      have eW := w_w_grow (cA := cA) (z := (10 + ci, 0, (ck ci).map fun k => (k, 0))) (a := st.1.2.1 + 1) (b := st.1.2.2 + (ck ci).length) (ad := ad) (q := q) hok
      have ec : w_c cA (ad_up ad st.1.1.length q) (fun _ => 0) (10 + ci, 0, (ck ci).map fun k => (k, 0)) = .inr (ci, w_fs ad (fun _ => 0) ((ck ci).map fun k => (k, 0))) := by
        rw [w_c_obj (by dsimp only; omega)]
        have : 10 + ci - 10 = ci := by omega
        dsimp only
        rw [this]
        congr 2
        apply List.ext_getElem?
        intro k
        unfold w_fs
        rw [List.getElem?_mapIdx, List.getElem?_mapIdx, List.getElem?_map]
        cases (ck ci)[k]? with
        | none => rfl
        | some kd => rfl
      rw [ec] at eW
      have K := k'.2 hok' (cons_ok hv' (fun q hq => grow_V (hS q hq))) (fun i hi => grow_V (hL i hi)) ⟨Nat.le_trans h4.1 (Nat.le_succ _), Nat.le_trans h4.2 (by show _ ≤ (st.1.1 ++ [_]).length; rw [List.length_append]; exact Nat.le_add_right _ _)⟩ (Nat.le_trans h5 (Nat.le_add_right _ _)) h6 (ad_up ad st.1.1.length q) H1 locs ls (by rw [eW]; exact a1) ⟨by rw [eW]; exact a2, fun r hr => (ha r (Nat.lt_of_lt_of_le hr h4.2)).trans (g2.2 r hr)⟩ a3 (lv_mono g4 (w_l_ad hL ha))
      rw [List.map_cons, w_S_ad hS ha] at K
      have er : w_v (ad_up ad st.1.1.length q) adW aT aS (10 + ci) (st.1.1.length : Int) = .ref q := by
        rw [w_v_ref (by omega)]
        have : ad_up ad st.1.1.length q ((st.1.1.length : Int)).toNat = q := if_pos (by omega)
        rw [this]
      dsimp only at K
      rw [er] at K
      have e1 : (j_grow st (10 + ci, 0, (ck ci).map fun k => (k, 0)) (st.1.2.1 + 1) (st.1.2.2 + (ck ci).length)).1.2.1 - c0 = st.1.2.1 - c0 + 1 := by
        show st.1.2.1 + 1 - c0 = _
        have := h4.1
        omega
      have e2 : (j_grow st (10 + ci, 0, (ck ci).map fun k => (k, 0)) (st.1.2.1 + 1) (st.1.2.2 + (ck ci).length)).1.2.2 - d0 = st.1.2.2 - d0 + N := by
        show st.1.2.2 + (ck ci).length - d0 = _
        omega
      rw [e1, e2] at K
      exact K
  · cases hf
theorem cA_of {ty : FieldType} (hn : ∀ C, ty ≠ .object C) {tys : List (ClassId × FieldType)} {c1 c2 : ClassId} (h1 : va_K D cl tys s) {t0 : Nat} (ht : tys[t0]? = some (c1, ty)) (h2 : va_K D cl (tys ++ [(c2, ty)]) s) : c2 = c1 := by
  have a1 := (h1.2 _ _ ht).2
  have a2 := (h2.2 tys.length (c2, ty) (by simp)).2
  unfold va_RA at a1 a2
  dsimp only at a1 a2
  split at a1
  · exact absurd rfl (hn _)
  · rename_i q
    split at a2
    · exact absurd rfl (hn _)
    · rw [a1] at a2
      exact (Option.some.inj a2).symm
theorem z_newa (hx : p.tables.exec = Jvm.exec) (hb : c.code = cc) (hdec : DecOk dec cc) (hts : ∀ w ∈ Ts, w.before args s = true) (hK : va_K D cl (w_tys cA) s) (hA : ∀ q, s.heap.size ≤ q → A q) (hTa : ∀ ty, (ty = .int ∨ ty = .long ∨ ty = .byte ∨ ty = .boolean) → (Cond.arrayClass ty).before args s = true) :
    ∀ pc ty n τ en S st, c_ins dec pc a_atype = some (ty, pc + 2) → 0 ≤ n → n ≤ 67108864 → JW p l e R s m args below meth c Q nL D cl cA A adW aT aS ck c0 d0 n0 ad0 (j_ult dec (pc + 2)) τ en ((ty, (st.1.1.length : Int)) :: S) (j_grow st (ty, n.toNat, []) (st.1.2.1 + 1) (st.1.2.2 + n.toNat)) → JW p l e R s m args below meth c Q nL D cl cA A adW aT aS ck c0 d0 n0 ad0 (j_ult dec pc) τ en ((1, n) :: S) st := by
  intro pc ty n τ en S st h hn0 hn1 kk
  obtain ⟨ii, hd, hf⟩ := c_ins1 h
  obtain ⟨hdc, hln⟩ := hdec _ _ _ hd
  have hu := ult_ins hd (ng hf (fun _ => rfl))
  have k' := jw_ult hx hb hdec kk
  rw [hu]
  have hlim := k'.1
  have hlim1 : st.1.2.1 + 1 ≤ c0 + R.cells := hlim.1
  have hlim2 : st.1.2.2 + n.toNat ≤ d0 + R.slots := hlim.2
  refine ⟨⟨by omega, by omega⟩, fun hok hS hL h4 h5 h6 ad H locs ls g1 g2 g3 g4 => ?_⟩
  obtain ⟨hn, hS2⟩ := hd_ok hS
  have in0 : InI n := hn.1 rfl
  have hty : ty = 6 ∨ ty = 7 ∨ ty = 8 ∨ ty = 9 := by
    unfold a_atype at hf
    split at hf <;> cases hf <;> simp
  have hok' : OkS ck (j_grow st (ty, n.toNat, []) (st.1.2.1 + 1) (st.1.2.2 + n.toNat)) :=
    grow_S hok ⟨by dsimp only; omega, fun _ => ⟨by dsimp only; omega, fun _ _ => in_0L, fun _ _ => in_0⟩, fun h => by dsimp only at h; omega⟩
  have hv' : OkV (j_grow st (ty, n.toNat, []) (st.1.2.1 + 1) (st.1.2.2 + n.toNat)).1.1 ty (st.1.1.length : Int) := by
    refine OkV.ref (by omega) (by omega) (c := (ty, n.toNat, [])) ?_ rfl
    show (st.1.1 ++ [_])[((st.1.1.length : Int)).toNat]? = _
    simp
  have K := fun (q : Nat) (H1 : Heap) (a1 : va_P D cl (w_w cA ad st ++ [(q, w_c cA (ad_up ad st.1.1.length q) (fun _ => 0) (ty, n.toNat, []))]) H1) (a2 : va_D A (w_w cA ad st ++ [(q, w_c cA (ad_up ad st.1.1.length q) (fun _ => 0) (ty, n.toNat, []))])) (a3 : va_S A s.heap H1 locs) => by
    have ha : ∀ r, r < st.1.1.length → ad_up ad st.1.1.length q r = ad r := fun r hr => if_neg (by omega)
    have eW := w_w_grow (cA := cA) (z := (ty, n.toNat, [])) (a := st.1.2.1 + 1) (b := st.1.2.2 + n.toNat) (ad := ad) (q := q) hok
    have K := k'.2 hok' (cons_ok hv' (fun q hq => grow_V (hS2 q hq))) (fun i hi => grow_V (hL i hi)) ⟨Nat.le_trans h4.1 (Nat.le_succ _), Nat.le_trans h4.2 (by show _ ≤ (st.1.1 ++ [_]).length; rw [List.length_append]; exact Nat.le_add_right _ _)⟩ (Nat.le_trans h5 (Nat.le_add_right _ _)) h6 (ad_up ad st.1.1.length q) H1 locs ls (by rw [eW]; exact a1) ⟨by rw [eW]; exact a2, fun r hr => (ha r (Nat.lt_of_lt_of_le hr h4.2)).trans (g2.2 r hr)⟩ a3 (lv_mono g4 (w_l_ad hL ha))
    rw [List.map_cons, w_S_ad hS2 ha] at K
    have er : w_v (ad_up ad st.1.1.length q) adW aT aS ty (st.1.1.length : Int) = .ref q := by
      rw [w_v_ref (by omega)]
      have : ad_up ad st.1.1.length q ((st.1.1.length : Int)).toNat = q := if_pos (by omega)
      rw [this]
    dsimp only at K
    rw [er] at K
    have e1 : (j_grow st (ty, n.toNat, []) (st.1.2.1 + 1) (st.1.2.2 + n.toNat)).1.2.1 - c0 = st.1.2.1 - c0 + 1 := by
      show st.1.2.1 + 1 - c0 = _
      have := h4.1
      omega
    have e2 : (j_grow st (ty, n.toNat, []) (st.1.2.1 + 1) (st.1.2.2 + n.toNat)).1.2.2 - d0 = st.1.2.2 - d0 + n.toNat := by
      show st.1.2.2 + n.toNat - d0 = _
      omega
    rw [e1, e2] at K
    exact K
  have hneg : ¬ Int32.ofInt n < 0 := fun q => by
    have := (of_lt in0 in_0).mp q
    omega
  have hcl := clampNeg_of in0
  have h2c : st.1.2.1 - c0 + 1 ≤ R.cells := by omega
  have h2s : st.1.2.2 - d0 + n.toNat ≤ R.slots := by omega
  have hw : w_v ad adW aT aS 1 n = .int (Int32.ofInt n) := rfl
  rw [List.map_cons]
  dsimp only
  rw [hw]
  unfold a_atype at hf
  split at hf <;> cases hf
  · refine va_newa (atype := .int) (a0 := (n.toNat, .inl fun _ => 0)) hx hb (hTa .int (by simp)) rfl hK g1 g2.1 g3 hA (fun cA => rfl) hneg hcl (by show n.toNat * componentBytes .int ≤ _; rw [show componentBytes .int = 4 from rfl]; omega) h2c h2s hdc (fun q c1 H1 b0 b1 b2 b3 => ?_)
    have := cA_of (fun C e => by cases e) hK (t0 := 0) rfl b0
    subst this
    exact K q H1 b1 b2 b3
  · refine va_newa (atype := .long) (a0 := (n.toNat, .inr (.inl fun _ => 0))) hx hb (hTa .long (by simp)) rfl hK g1 g2.1 g3 hA (fun cA => rfl) hneg hcl (by show n.toNat * componentBytes .long ≤ _; rw [show componentBytes .long = 8 from rfl]; omega) h2c h2s hdc (fun q c1 H1 b0 b1 b2 b3 => ?_)
    have := cA_of (fun C e => by cases e) hK (t0 := 1) rfl b0
    subst this
    exact K q H1 b1 b2 b3
  · refine va_newa (atype := .byte) (a0 := (n.toNat, .inl fun _ => 0)) hx hb (hTa .byte (by simp)) rfl hK g1 g2.1 g3 hA (fun cA => rfl) hneg hcl (by show n.toNat * componentBytes .byte ≤ _; rw [show componentBytes .byte = 1 from rfl]; omega) h2c h2s hdc (fun q c1 H1 b0 b1 b2 b3 => ?_)
    have := cA_of (fun C e => by cases e) hK (t0 := 2) rfl b0
    subst this
    exact K q H1 b1 b2 b3
  · refine va_newa (atype := .boolean) (a0 := (n.toNat, .inl fun _ => 0)) hx hb (hTa .boolean (by simp)) rfl hK g1 g2.1 g3 hA (fun cA => rfl) hneg hcl (by show n.toNat * componentBytes .boolean ≤ _; rw [show componentBytes .boolean = 1 from rfl]; omega) h2c h2s hdc (fun q c1 H1 b0 b1 b2 b3 => ?_)
    have := cA_of (fun C e => by cases e) hK (t0 := 3) rfl b0
    subst this
    exact K q H1 b1 b2 b3
/-- what the table says of Object's constructor -/
def LO (Ts : List Cond) (own : String) (i : Nat) : Prop := Cond.methodLink own i Lib.objectInit ∈ Ts ∧ Cond.instanceMethod Lib.objectInit ∈ Ts ∧ Cond.code Lib.objectInit ⟨#[0xb1]⟩ 1 none ∈ Ts
theorem z_oinit (hx : p.tables.exec = Jvm.exec) (hb : c.code = cc) (hdec : DecOk dec cc) (hml : c.maxLocals = nL) (hown : s.vm.findClass own = some m.cls) (hts : ∀ w ∈ Ts, w.before args s = true) (hLO : ∀ i z, lk i = some (10, z) → LO Ts own i) (hR : 1 ≤ R.frames ∧ 20 ≤ R.locals) :
    ∀ pc i z kd o τ en (S : List (Nat × Int)) st, S = [] → dec pc = some (.invokespecial i, 3) → lk i = some (10, z) → 10 ≤ kd → JW p l e R s m args below meth c Q nL D cl cA A adW aT aS ck c0 d0 n0 ad0 (j_ult dec (pc + 3)) τ en S st → JW p l e R s m args below meth c Q nL D cl cA A adW aT aS ck c0 d0 n0 ad0 (j_ult dec pc) τ en ((kd, o) :: S) st := by
  intro pc i z kd o τ en S st hS0 hd hl hk kk
  subst hS0
  obtain ⟨hdc, hln⟩ := hdec _ _ _ hd
  obtain ⟨h1, h2, h3⟩ := hLO _ _ hl
  refine jw_st hx hb hdec kk (ult_ins hd rfl) (fun _ hS _ _ => (hd_ok hS).2) (fun hok hS _ _ ad H locs ls g1 _ g3 g4 cells slots K => ?_)
  refine W.objInit (g := F0 m pc ls _) (a := ad o.toNat) (rest := []) hx hb hown (hts _ h1) (hts _ h2) (hts _ h3) rfl ?_ ?_ hdc hR.1 ?_ K
  · show ls.size = _
    rw [hml]
    exact g4.1
  · show [w_v ad adW aT aS kd o] = _
    rw [w_v_ref (by omega)]
  · exact Nat.le_trans (Nat.le_of_ble_eq_true rfl) hR.2
end JW4
