section JWH
variable {p : Program} {l : Launch} {e : Env} {R : Room} {s : State} {m : MethodId} {args : Array Value} {below : List Frame} {meth : Method} {c : Code} {Q : State → Prop}
  {cc : ByteArray} {nL : Nat} {own : String} {Ts : List Cond} {D : va_G} {cl : List vw_C} {cA : Nat → ClassId} {A : Nat → Prop} {adW : Nat → Nat} {aT aS : Nat} {ck : Nat → List Nat} {c0 d0 n0 : Nat} {ad0 : Nat → Nat} {dec : XD} {lk lp : XK} {Zs : String → String → String → Value → Prop} {cW : Nat → Nat → Int} {xs : Nat → Int} {L K : Nat}
  {Y : Nat → MethodName} {CC : Nat → ByteArray} {ML : Nat → Nat} {RT : Nat → XRt} {M : Nat → XM} {PK RK : Nat → List Nat} {F : XP} {n : Nat} {thr : Nat → Bool} {THR RZ : Nat → Bool} {LK LP : Nat → XK} {DE : Nat → XD} {HND : Nat → Nat → Option (Nat × Nat)} {HH : Nat → List (Nat × Nat × Nat × Nat)}
/-- what the tables say of a handler: one entry, of the one class that is thrown -/
def HX (Ts : List Cond) (own : String) (dec : XD) (hh : List (Nat × Nat × Nat × Nat)) (hnd : Nat → Option (Nat × Nat)) : Prop := ∀ pc q k, hnd pc = some (q, k) → ∃ x : ExceptionTableEntry, tableOf hh = [x] ∧ covers x pc = true ∧ x.catchType ≠ 0 ∧ Cond.classLink own x.catchType nsee ∈ Ts ∧ Cond.castable nsee nsee ∈ Ts ∧ c_ins dec x.handlerPc a_store = some ((3, k), q)
theorem z_callx (hx : p.tables.exec = Jvm.exec) (hb : c.code = cc) (hdec : DecOk dec cc) (hml : c.maxLocals = nL) (hown : s.vm.findClass own = some m.cls) (hw0 : ∀ w ∈ Ts, w.before #[] s = true) (hts : ∀ w ∈ Ts, w.before args s = true) (hnice : ∀ w ∈ Ts, niceW w = true) (hK : va_K D cl (w_tys cA) s) (hSF : SF Zs adW aT aS cW xs L A s s.heap) (hA : ∀ q, s.heap.size ≤ q → A q)
    (hMFx : ∀ f, thr f = true → MF Ts Y CC ML RT RK f ∨ ∀ av st, F f av st = none) (hLC : ∀ i f how z, lk i = some (6, f, how, z) → LC Ts cl own Y RT PK i f how) (hvirt : ∀ i f how z, lk i = some (6, f, how, z) → thr f = true → how = 0) (hCT : ∀ f, thr f = true → CTx l Ts D cl cA A adW aT aS ck Zs cW xs L Y CC ML RT PK RK F n f) (hR : n + 11 ≤ R.frames ∧ 60 * n + 360 ≤ R.locals)
    (hFm : ∀ f av (st : XT) c r (st' : XT), F f av st = some (c, r, st') → st.1.2.1 ≤ st'.1.2.1 ∧ st.1.2.2 ≤ st'.1.2.2 ∧ Kp st.1.1 st'.1.1) (hFl : ∀ f av st r st', F f av st = some (1, r, st') → r.length = (RK f).length)
    {hh : List (Nat × Nat × Nat × Nat)} {hnd : Nat → Option (Nat × Nat)} (htab : c.exceptionTable.toList = tableOf hh) (hHX : HX Ts own dec hh hnd) :
    ∀ pc f av r τ en S st k st' q kk, c_ins dec pc (a_call lk) = some (f, pc + 3) → thr f = true → hnd pc = some (q, kk) → τ.getD kk 0 = 0 → k_fit τ kk 3 = true → F f av st = some (k, r, st') → av.length = (PK f).length → k_cats (S.map (·.1)) ≤ 8 → (k = 1 → JW p l e R s m args below meth c Q nL D cl cA A adW aT aS ck c0 d0 n0 ad0 (j_ult dec (pc + 3)) τ en (((RK f).zip r).reverse ++ S) st') → (k = 4 → JW p l e R s m args below meth c Q nL D cl cA A adW aT aS ck c0 d0 n0 ad0 (j_ult dec q) τ en [] st') → (k = 1 ∨ k = 4) → JW p l e R s m args below meth c Q nL D cl cA A adW aT aS ck c0 d0 n0 ad0 (j_ult dec pc) τ en (((PK f).zip av).reverse ++ S) st := by
  intro pc f av r τ en S st k st' q kk h hthr hhnd hτk hfit hF hlen hcat kk1 kk4 hk14
  obtain ⟨ii, hd, hf⟩ := c_ins1 h
  obtain ⟨hdc, hln⟩ := hdec _ _ _ hd
  have hu := ult_ins hd (ng hf (fun _ => rfl))
  rw [hu]
  have k1 := fun h => jw_ult hx hb hdec (kk1 h)
  have k4 := fun h => jw_ult hx hb hdec (kk4 h)
  obtain ⟨m1, m2, m3⟩ := hFm _ _ _ _ _ _ hF
  have hlim : st'.1.2.1 ≤ c0 + R.cells ∧ st'.1.2.2 ≤ d0 + R.slots := by
    rcases hk14 with h | h
    · exact (k1 h).1
    · exact (k4 h).1
  refine ⟨⟨Nat.le_trans m1 hlim.1, Nat.le_trans m2 hlim.2⟩, fun hok hS hL h4 h5 h6 ad H locs ls g1 g2 g3 g4 => ?_⟩
  have hSa : ∀ q ∈ (PK f).zip av, OkV st.1.1 q.1 q.2 := fun q hq => hS q (List.mem_append_left _ (List.mem_reverse.mpr hq))
  have hSr : ∀ q ∈ S, OkV st.1.1 q.1 q.2 := fun q hq => hS q (List.mem_append_right _ hq)
  have hM := hCT f hthr av st k r st' ad hF hok hSa hlen
  obtain ⟨f1, f2, f3, f4, f5⟩ : MF Ts Y CC ML RT RK f := by
    rcases hMFx f hthr with h | h
    · exact h
    · rw [h] at hF
      cases hF
  have hG : GoodIn Ts [cwd (Y f) (CC f) (ML f) (RT f)] := fun w hw => by
    rw [List.mem_singleton.mp hw]
    refine ⟨f1, ?_⟩
    unfold cwd
    split <;> exact Or.inl rfl
  have hB : ∀ U : State, U.heap = H → s.WarmedH U.vm → WB Ts D cl cA A adW aT aS Zs cW xs L st ad U := fun U hU hW => by
    refine ⟨by rw [hU]; exact g1, g2.1, fun w hw => nw_at (hnice w hw) hW (hw0 w hw), va_K.moved hW.alike hK, ?_, fun q hq => hA q (Nat.le_trans g3.1 (by rw [← hU]; exact hq))⟩
    rw [hU]
    exact SF.moved hW.alike (hSF.kept g3.1 g3.2.1)
  have hbl : FrameBlind (va_Pc (((PK f).zip av).map fun q => w_v ad adW aT aS q.1 q.2) (WB Ts D cl cA A adW aT aS Zs cW xs L st ad)) := WB.blind hnice
  have hRr := rm_ok (a := st'.1.2.1 - st.1.2.1) (b := st'.1.2.2 - st.1.2.2) hR.1 hR.2 f4
  have hlim1 := hlim.1
  have hlim2 := hlim.2
  have hc0 := h4.1
  have hcs : st.1.2.1 - c0 + (st'.1.2.1 - st.1.2.1) ≤ R.cells ∧ st.1.2.2 - d0 + (st'.1.2.2 - st.1.2.2) ≤ R.slots := by omega
  have hroom : 2 * (F0 m pc ls ((((PK f).zip av).reverse ++ S).map fun q => w_v ad adW aT aS q.1 q.2)).monitorRoom + ((S.map fun q => w_v ad adW aT aS q.1 q.2).map fun v => v.category).sum ≤ 8 := by
    rw [cats_map]
    show 2 * 0 + _ ≤ 8
    omega
  have e1 : st'.1.2.1 - c0 = st.1.2.1 - c0 + (st'.1.2.1 - st.1.2.1) := by omega
  have e2 : st'.1.2.2 - d0 = st.1.2.2 - d0 + (st'.1.2.2 - st.1.2.2) := by omega
  have hfix : CallFix p m c cc nL s args Ts own := ⟨hx, hb, hml, hown, hts⟩
  have hini := hts _ f2
  -- what goes on behind the call, thrown or not
  have goOn : ∀ a, vx_Run p l e R s m args below meth c H locs (st.1.2.1 - c0) (st.1.2.2 - d0) (st'.1.2.1 - st.1.2.1) (st'.1.2.2 - st.1.2.2) (F0 m pc ls ((((PK f).zip av).reverse ++ S).map fun q => w_v ad adW aT aS q.1 q.2)) (S.map fun q => w_v ad adW aT aS q.1 q.2) (fun s0 o t => k = 1 ∧ QB D cl cA A adW aT aS ck (RK f) r st.1.1.length ad st' a s0 o t) (fun E s0 t => k = 4 ∧ QX D cl cA A ck st.1.1.length ad st' E s0 t) A →
      W p l e R s m args below meth c H locs (st.1.2.1 - c0) (st.1.2.2 - d0) Q (F0 m pc ls ((((PK f).zip av).reverse ++ S).map fun q => w_v ad adW aT aS q.1 q.2)) := by
    intro a hr T hT X
    rcases hr T hT X with ⟨v, st₀, t, T', LL, h0, X', hLL, q1, q2, ⟨hk, ad', b2, b3, b4, b5, b6, b7, hz, hkp⟩, stp⟩ | ⟨q9, st₀, t, T', LL, E, ce, h0, X', hLL, q1, q2, ⟨hk, rfl, ad', b2, b4, b6, b7, hz, hkp⟩, hce, hcv, hcc, stp⟩
    · rw [h0] at hz hkp
      have hv : v = w_ret ad' adW aT aS (RK f) r := by
        injection b3
      subst hv
      have hS' : ∀ q ∈ ((RK f).zip r).reverse ++ S, OkV st'.1.1 q.1 q.2 := fun q hq => by
        rcases List.mem_append.mp hq with hq | hq
        · exact b5 q (List.mem_reverse.mp hq)
        · exact m3.V (hSr q hq)
      have K := (k1 hk).2 b4 hS' (fun i hi => m3.V (hL i hi)) ⟨by omega, Nat.le_trans h4.2 m3.1⟩ (by omega) h6 ad' T'.heap (locs ++ LL) ls (by rw [q1]; exact b6) ⟨b7, fun k hk => (b2 k (Nat.lt_of_lt_of_le hk h4.2)).trans (g2.2 k hk)⟩ ⟨Nat.le_trans g3.1 (by rw [q1]; exact hz), fun q h1 h2 => by rw [q1, hkp q (Nat.lt_of_lt_of_le h1 g3.1) h2]; exact g3.2.1 q h1 h2, fun q hq => by
        rcases List.mem_append.mp hq with h | h
        · exact g3.2.2 q h
        · exact hLL q h⟩ (lv_mono g4 (w_l_ad hL b2))
      subst hk
      rw [zip_map_cons (hFl _ _ _ _ _ hF) f5, w_S_ad hSr b2, e1, e2] at K
      obtain ⟨t2, c1, c2⟩ := K T' rfl X'
      exact ⟨t2, stp t2 c1, c2⟩
    · rw [h0] at hz hkp
      obtain ⟨x, x1, x2, x3, x4, x5, x6⟩ := hHX _ _ _ hhnd
      obtain ⟨i9, n9, hd9, hf9, hq9⟩ := c_ins_spec x6
      obtain ⟨hdc9, hln9⟩ := hdec _ _ _ hd9
      obtain ⟨fi1, fi2, fi3, fi4, fi5⟩ := k_fit_spec hfit
      have hS4 : va_S A s.heap T'.heap (locs ++ LL) := ⟨Nat.le_trans g3.1 (by rw [q1]; exact hz), fun q h1 h2 => by rw [q1, hkp q (Nat.lt_of_lt_of_le h1 g3.1) h2]; exact g3.2.1 q h1 h2, fun q hq => by
        rcases List.mem_append.mp hq with h | h
        · exact g3.2.2 q h
        · exact hLL q h⟩
      have K := fun ls' h' => (k4 hk).2 b4 (fun q hq => by cases hq) (fun i hi => m3.V (hL i hi)) ⟨by omega, Nat.le_trans h4.2 m3.1⟩ (by omega) h6 ad' T'.heap (locs ++ LL) ls' (by rw [q1]; exact b6) ⟨b7, fun k hk => (b2 k (Nat.lt_of_lt_of_le hk h4.2)).trans (g2.2 k hk)⟩ hS4 h'
      rw [e1, e2] at K
      have hsub : ∀ y ∈ w_l ad' adW aT aS τ en, y ∈ (kk, Value.ref q9) :: (w_l ad adW aT aS τ en).filter (fun q => !(q.1 == kk) && !(q.1 + 1 == kk && q.2.category == 2)) := by
        intro y hy
        have hy2 := w_l_ad hL b2 y hy
        obtain ⟨y1, y2, y3⟩ := w_l_mem.mp hy2
        refine List.mem_cons_of_mem _ (List.mem_filter.mpr ⟨hy2, ?_⟩)
        simp only [Bool.and_eq_true, Bool.not_eq_true', beq_eq_false_iff_ne, ne_eq, Bool.and_eq_false_iff]
        refine ⟨fun e => y2 (by rw [e]; exact hτk), ?_⟩
        by_cases e2 : y.1 + 1 = kk
        · right
          rw [y3, w_cat]
          rcases fi4 with fi4 | fi4
          · omega
          · have : kk - 1 = y.1 := by omega
            rw [this] at fi4
            unfold k_cat
            rw [if_neg fi4]
            decide
        · exact Or.inl e2
      have W9 : W p l e R s m args below meth c T'.heap (locs ++ LL) (st.1.2.1 - c0 + (st'.1.2.1 - st.1.2.1)) (st.1.2.2 - d0 + (st'.1.2.2 - st.1.2.2)) Q (F0 m x.handlerPc ls [.ref q9]) := by
        have hkl : kk < nL := by omega
        unfold a_store at hf9
        split at hf9 <;> first | (cases hf9; done) | skip
        all_goals cases hf9
        · have : n9 = 2 := hln9 (by simp [a_len])
          subst this
          rw [hq9] at K
          exact lv_astore hx hb hdc9 g4 hkl rfl (fun ls' h' => K ls' (lv_mono h' hsub))
        · have : n9 = 1 := hln9 (by simp [a_len])
          subst this
          rw [hq9] at K
          exact lv_astore_n hx hb hdc9 rfl g4 hkl rfl (fun ls' h' => K ls' (lv_mono h' hsub))
      have W8 := vx_catch (p := p) (l := l) (e := e) (R := R) (s := s) (m := m) (args := args) (below := below) (meth := meth) (c := c) (Q := Q) (pc := pc) (rest := S.map fun q => w_v ad adW aT aS q.1 q.2) hown [] x [] (by rw [htab, x1]; rfl) (fun z hz => by cases hz) x2 x3 (hts _ x4) (hts _ x5) (by rw [q1]; exact hce) hcv hcc W9
      obtain ⟨t2, c1, c2⟩ := W8 T' rfl X'
      exact ⟨t2, stp.trans c1, c2⟩
  unfold a_call at hf
  split at hf
  · split at hf
    · rename_i i f' z hl
      cases hf
      obtain ⟨p0, p1, p2, p3, p4, ci, T, N, ks, p5, p6⟩ := hLC _ _ _ _ hl
      rw [cwd_nil p0] at hM hG
      obtain ⟨o, vs, rfl⟩ : ∃ o vs, av = o :: vs := by
        cases av with
        | nil => rw [p5] at hlen; cases hlen
        | cons o vs => exact ⟨o, vs, rfl⟩
      rw [p5] at hM hSa hlen p1 hroom goOn ⊢
      rw [p5] at hbl
      have ho := hSa (10 + ci, o) List.mem_cons_self
      obtain ⟨q, w1, w2, w3, w4⟩ := obj_at (cA := cA) (ad := ad) hok ho
      have href : w_v ad adW aT aS (10 + ci) o = .ref (ad o.toNat) := w_v_ref (by omega)
      have hlv : (((ks.zip vs).map fun q => w_v ad adW aT aS q.1 q.2)).length = ks.length := by
        simp at hlen
        simp [hlen]
      have e7 : (Value.ref (ad o.toNat) :: (ks.zip vs).map fun q => w_v ad adW aT aS q.1 q.2).toArray = (((10 + ci) :: ks).zip (o :: vs) |>.map fun q => w_v ad adW aT aS q.1 q.2).toArray := by
        show _ = (List.map _ ((10 + ci, o) :: ks.zip vs)).toArray
        rw [List.map_cons, href]
      have e8 : (F0 m pc ls (((((10 + ci) :: ks).zip (o :: vs)).reverse ++ S).map fun q => w_v ad adW aT aS q.1 q.2)).stack = ((ks.zip vs).map fun q => w_v ad adW aT aS q.1 q.2).reverse ++ .ref (ad o.toNat) :: (S.map fun q => w_v ad adW aT aS q.1 q.2) := by
        show List.map _ (((10 + ci, o) :: ks.zip vs).reverse ++ S) = _
        rw [List.map_append, List.reverse_cons, List.map_append, List.map_reverse, List.append_assoc]
        show _ ++ ([w_v ad adW aT aS (10 + ci) o] ++ _) = _
        rw [href]
        rfl
      have hpv : PreV s H (Y f).cls (ad o.toNat) (va_Pc ((((10 + ci) :: ks).zip (o :: vs)).map fun q => w_v ad adW aT aS q.1 q.2) (WB Ts D cl cA A adW aT aS Zs cW xs L st ad)) ((ks.zip vs).map fun q => w_v ad adW aT aS q.1 q.2) := ⟨hbl, va_recv hK g1 p6 w4, fun U hU hW => ⟨e7, hB U hU hW⟩⟩
      have hr := vx_runV (g := F0 m pc ls (((((10 + ci) :: ks).zip (o :: vs)).reverse ++ S).map fun q => w_v ad adW aT aS q.1 q.2)) (H := H) (As := (ks.zip vs).map fun q => w_v ad adW aT aS q.1 q.2) (b := ad o.toNat) (C := (Y f).cls) (rest := S.map fun q => w_v ad adW aT aS q.1 q.2) (p := p) (l := l) (e := e) (R := R) (s := s) (m := m) (args := args) (below := below) (meth := meth) (c := c) (locs := locs) (cells := st.1.2.1 - c0) (slots := st.1.2.2 - d0) hfix hM ⟨callB_of ks.length hts hG rfl rfl rfl hini (hts _ p2) ⟨f3.1, f3.2, p1⟩ hRr, hts _ p3, hts _ p4⟩ hpv rfl hlv g4.1 e8 hroom hdc hcs
      exact goOn _ hr
    · cases hf
  · split at hf
    · rename_i i f' z hl
      cases hf
      have := hvirt _ _ _ _ hl hthr
      cases this
    · cases hf
  · split at hf
    · rename_i i f' z hl
      cases hf
      have := hvirt _ _ _ _ hl hthr
      cases this
    · cases hf
  · cases hf
end JWH
