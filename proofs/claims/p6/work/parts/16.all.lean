section JWZ
variable {p : Program} {l : Launch} {e : Env} {R : Room} {s : State} {m : MethodId} {args : Array Value} {below : List Frame} {meth : Method} {c : Code} {Q : State → Prop}
  {cc : ByteArray} {nL : Nat} {own : String} {Ts : List Cond} {D : va_G} {cl : List vw_C} {cA : Nat → ClassId} {A : Nat → Prop} {adW : Nat → Nat} {aT aS : Nat} {ck : Nat → List Nat} {c0 d0 n0 : Nat} {ad0 : Nat → Nat} {dec : XD} {lk lp : XK} {Zs : String → String → String → Value → Prop} {cW : Nat → Nat → Int} {xs : Nat → Int} {L : Nat}
  {Y : Nat → MethodName} {CC : Nat → ByteArray} {ML : Nat → Nat} {RT : Nat → XRt} {PK RK : Nat → List Nat} {F : XP} {n : Nat} {thr : Nat → Bool} {rt : List Nat} {rz : Bool} {hnd : Nat → Option (Nat × Nat)} {RR : List Int → XT → Prop} {XX : XT → Prop}
/-- what the tables say of a method's own code -/
def FO (Ts : List Cond) (cl : List vw_C) (ck : Nat → List Nat) (adW : Nat → Nat) (aT : Nat) (Zs : String → String → String → Value → Prop) (Y : Nat → MethodName) (RT : Nat → XRt) (PK : Nat → List Nat) (own name : String) (lk lp : XK) : Prop :=
  (∀ i q, lk i = some q → LF Ts cl own ck adW aT Zs i q) ∧
  (∀ i q, lp i = some q → LF Ts cl own ck adW aT Zs i q ∧ (q.1 = 0 → ∀ C T N, cl[q.2.1]? = some (C, T, N) → (T q.2.2.1).2.2.2 = true → (T q.2.2.1).1 = own ∧ Cond.fieldLink own i (T q.2.2.1).1 (T q.2.2.1).2.1 (T q.2.2.1).2.2.1 ∈ Ts ∧ name = "<init>")) ∧
  (∀ i f how z, lk i = some (6, f, how, z) → LC Ts cl own Y RT PK i f how) ∧ (∀ i z, lk i = some (10, z) → LO Ts own i)
theorem clo (hx : p.tables.exec = Jvm.exec) (hb : c.code = cc) (hdec : DecOk dec cc) (hml : c.maxLocals = nL) (hown : s.vm.findClass own = some m.cls) (hw0 : ∀ w ∈ Ts, w.before #[] s = true) (hts : ∀ w ∈ Ts, w.before args s = true) (hnice : ∀ w ∈ Ts, niceW w = true) (hCF : CF Ts cl ck) (hK : va_K D cl (w_tys cA) s) (hSF : SF Zs adW aT aS cW xs L A s s.heap) (hA : ∀ q, s.heap.size ≤ q → A q) (hWi : ∀ i j : Nat, i < 24 → j < 24 → adW i = adW j → i = j)
    (hTa : ∀ ty, (ty = .int ∨ ty = .long ∨ ty = .byte ∨ ty = .boolean) → Cond.arrayClass ty ∈ Ts)
    (hFO : FO Ts cl ck adW aT Zs Y RT PK own meth.name lk lp)
    (hMF : ∀ f, MF Ts Y CC ML RT RK f ∨ thr f = true) (hCT : ∀ f, thr f = false → CTm l Ts D cl cA A adW aT aS ck Zs cW xs L Y CC ML RT PK RK F n f) (hR : n + 11 ≤ R.frames ∧ 60 * n + 360 ≤ R.locals)
    (hFm : ∀ f av (st : XT) c r (st' : XT), F f av st = some (c, r, st') → st.1.2.1 ≤ st'.1.2.1 ∧ st.1.2.2 ≤ st'.1.2.2 ∧ Kp st.1.1 st'.1.1) (hFl : ∀ f av st r st', F f av st = some (1, r, st') → r.length = (RK f).length)
    (hret : ∀ pc kd v τ en st, rt = [kd] → rz = false → kd ≠ 0 → c_op0 dec pc (10 + k_cl kd) = true → RR [v] st → JW p l e R s m args below meth c Q nL D cl cA A adW aT aS ck c0 d0 n0 ad0 (j_ult dec pc) τ en [(kd, v)] st)
    (hretv : ∀ pc τ en st, rt = [] → c_op0 dec pc 14 = true → RR [] st → JW p l e R s m args below meth c Q nL D cl cA A adW aT aS ck c0 d0 n0 ad0 (j_ult dec pc) τ en [] st)
    (hthr : ∀ pc τ en (st : XT), c_throw dec lk pc = true → XX ((st.1.1, st.1.2.1 + 1, st.1.2.2 + 6), st.2) → JW p l e R s m args below meth c Q nL D cl cA A adW aT aS ck c0 d0 n0 ad0 (j_ult dec pc) τ en [] st)
    (hcx : ∀ pc f av r τ en S st k st' q kk, c_ins dec pc (a_call lk) = some (f, pc + 3) → thr f = true → hnd pc = some (q, kk) → τ.getD kk 0 = 0 → k_fit τ kk 3 = true → F f av st = some (k, r, st') → av.length = (PK f).length → k_cats (S.map (·.1)) ≤ 8 → (k = 1 → JW p l e R s m args below meth c Q nL D cl cA A adW aT aS ck c0 d0 n0 ad0 (j_ult dec (pc + 3)) τ en (((RK f).zip r).reverse ++ S) st') → (k = 4 → JW p l e R s m args below meth c Q nL D cl cA A adW aT aS ck c0 d0 n0 ad0 (j_ult dec q) τ en [] st') → (k = 1 ∨ k = 4) → JW p l e R s m args below meth c Q nL D cl cA A adW aT aS ck c0 d0 n0 ad0 (j_ult dec pc) τ en (((PK f).zip av).reverse ++ S) st)
    (hretz : ∀ pc v τ en st, rt = [1] → rz = true → c_op0 dec pc 11 = true → (v = 0 ∨ v = 1) → RR [v] st → JW p l e R s m args below meth c Q nL D cl cA A adW aT aS ck c0 d0 n0 ad0 (j_ult dec pc) τ en [(1, v)] st) :
    XClo dec lk lp PK RK thr rt rz xs L ck F cW hnd RR XX (JW p l e R s m args below meth c Q nL D cl cA A adW aT aS ck c0 d0 n0 ad0) := by
  obtain ⟨hLK, hLP, hLC, hLO⟩ := hFO
  have hta : ∀ ty, (ty = .int ∨ ty = .long ∨ ty = .byte ∨ ty = .boolean) → (Cond.arrayClass ty).before args s = true := fun ty h => hts _ (hTa ty h)
  refine ⟨z_const hx hb hdec hLK hown hts hSF.1, z_load hx hb hdec, z_store hx hb hdec, z_iinc hx hb hdec, z_getf hx hb hdec hLK hown hts hCF hK, z_getr hx hb hdec hLK hown hts hCF hK, z_aload hx hb hdec hK, z_sload hx hb hdec hSF, z_wload hx hb hdec hSF, z_alen hx hb hdec hK, z_slen hx hb hdec hSF, z_wlen hx hb hdec hSF, z_wf hx hb hdec hLK hown hts hSF,
    z_iop hx hb hdec, z_lop hx hb hdec, z_lsh hx hb hdec, z_div hx hb hdec, z_un hx hb hdec, z_icmp hx hb hdec, z_if hx hb hdec, z_lcmp hx hb hdec, z_acmp hx hb hdec hWi, z_call hx hb hdec hml hown hw0 hts hnice hK hSF hA hMF hLC hCT hR hFm hFl, z_new hx hb hdec hLK hown hts hCF hK hA, z_newa hx hb hdec hts hK hA hta, z_dup hx hb hdec, z_dup2 hx hb hdec, z_pop hx hb hdec, ?_, z_putr hx hb hdec hown hts hCF hK hLP, z_astore hx hb hdec hK,
    hret, hretv, hthr, z_oinit hx hb hdec hml hown hts hLO ⟨by omega, by omega⟩, z_sw hx hb hdec, z_mono, fun f av r st st' h => hFl f av st r st' h, hcx, ?_, hretz⟩
  · intro pc ci k kd o v τ en S st h hk kk
    have := jw_putf hx hb hdec hown hts hCF hK hLP h (v := v) (o := o) (by rcases hk with h | h; exact Or.inl h; exact Or.inr (Or.inl h)) kk
    have e : j_kd kd = kd.toNat := by rcases hk with rfl | rfl <;> rfl
    rw [e] at this
    exact this
  · intro pc ci k o v τ en S st h hv kk
    exact jw_putf hx hb hdec hown hts hCF hK hLP h (v := v) (o := o) (Or.inr (Or.inr ⟨rfl, hv⟩)) kk
end JWZ
theorem Met_ofF {l : Launch} {y : MethodName} {ws ws' : List Cond} {rm : Room} {Pc : Array Value → State → Prop} {Qc : Array Value → State → Outcome → State → Prop} {mc ms : Nat} {free : Addr → Prop} {cc : ByteArray} {maxL : Nat} {ret : Option FieldType}
    (hy : plainFor y = true) (hw : ws = Cond.code y cc maxL ret :: ws')
    (body : ∀ p e s m args below meth c s₁, BodyLoose p l y (headSpec ws rm) cc maxL ret e s m args below meth c s₁ → c.maxLocals = maxL → Pc args s →
      W p l e (headSpec ws rm).room s m args below meth c s.heap [] 0 0 (MQ below Qc args s mc ms free) (entryFrame m args maxL)) : Met l y ws rm Pc Qc mc ms free := by
  refine MetFree.of_bodySF (code := cc) (maxLocals := maxL) (ret := ret) hy ?_ ?_
  · intro args s m h hn
    obtain ⟨meth, c, h1, h2, h3, h4, h5, h6, -, -⟩ := Cond.code_spec hn (atoms_spec (ws := ws) h _ (by rw [hw]; exact List.mem_cons_self))
    exact ⟨meth, c, h1, h2, h3, h4, h5, h6⟩
  · intro p e s m args below meth c s₁ B hml hP _
    have hh0 : s₁.heap = s.heap := by rw [B.state]; rfl
    obtain ⟨t, a1, o, b1, b2, b3⟩ := body p e s m args below meth c s₁ B hml hP s₁ hh0 (Stand.of_body B)
    exact ⟨t, o, a1, b1, b2, ⟨b3.1, b3.2⟩⟩
section JWM
variable {l : Launch} {Ts : List Cond} {D : va_G} {cl : List vw_C} {cA : Nat → ClassId} {A : Nat → Prop} {adW : Nat → Nat} {aT aS : Nat} {ck : Nat → List Nat} {Zs : String → String → String → Value → Prop} {cW : Nat → Nat → Int} {xs : Nat → Int} {L K : Nat}
  {Y : Nat → MethodName} {CC : Nat → ByteArray} {RT : Nat → XRt} {M : Nat → XM} {THR RZ : Nat → Bool} {DEC LK LP : Nat → XK} {DE : Nat → XD} {HND : Nat → Nat → Option (Nat × Nat)}
def m_L (M : Nat → XM) (f : Nat) : Nat := (M f).2.1
def m_P (M : Nat → XM) (f : Nat) : List Nat := (M f).2.2.1
def m_R (M : Nat → XM) (f : Nat) : List Nat := (M f).2.2.2.1
def m_B (M : Nat → XM) (f : Nat) : SX := (M f).2.2.2.2
/-- the tree of a method stands the check -/
def CK (M : Nat → XM) (DE : Nat → XD) (LK LP : Nat → XK) (THR RZ : Nat → Bool) (HND : Nat → Nat → Option (Nat × Nat)) (f : Nat) : Prop :=
  (chS (DE f) (LK f) (m_P M) (m_R M) THR (LP f) (m_R M f) (RZ f) (HND f) (m_B M f) (j_pad 0 (m_L M f) (j_layT (m_P M f))) [] [] 0).map (fun r => r.2.2) = some (false, [], []) ∧ k_ok (j_pad 0 (m_L M f) (j_layT (m_P M f))) = true ∧ (j_layT (m_P M f)).length ≤ m_L M f
theorem CK.run {f : Nat} (h : CK M DE LK LP THR RZ HND f) : ∃ τ' pc', chS (DE f) (LK f) (m_P M) (m_R M) THR (LP f) (m_R M f) (RZ f) (HND f) (m_B M f) (j_pad 0 (m_L M f) (j_layT (m_P M f))) [] [] 0 = some (τ', pc', false, [], []) := by
  have h1 := h.1
  rw [Option.map_eq_some_iff] at h1
  obtain ⟨⟨τ', pc', z⟩, h2, h3⟩ := h1
  dsimp only at h3
  subst h3
  exact ⟨τ', pc', h2⟩
theorem pad_len {α : Type} {z : α} {n : Nat} {l : List α} (h : l.length ≤ n) : (j_pad z n l).length = n := by
  unfold j_pad
  rw [List.length_append, List.length_replicate]
  omega
theorem evF_some {n f : Nat} {av : List Int} {st st' : XT} {k : Nat} {r : List Int} (h : evF xs L ck K cW M (n + 1) f av st = some (k, r, st')) :
    ∃ en', evS xs L ck (evF xs L ck K cW M n) K cW (m_B M f) (j_pad 0 (m_L M f) (j_lay (m_P M f) av)) st = some (k, r, en', st') ∧ (k = 1 ∨ k = 4) ∧ st.1.2.1 ≤ st'.1.2.1 ∧ st.1.2.2 ≤ st'.1.2.2 ∧ Kp st.1.1 st'.1.1 := by
  obtain ⟨⟨k1, r1, en1, s1⟩, h1, h⟩ := j_bd h
  obtain ⟨⟨g1, g2, g3, g4⟩, h⟩ := j_if h
  cases h
  exact ⟨en1, h1, g1, g2, g3, Kp.of g4⟩
theorem evF_mono : ∀ (n f : Nat) (av : List Int) (st : XT) (k : Nat) (r : List Int) (st' : XT), evF xs L ck K cW M n f av st = some (k, r, st') → st.1.2.1 ≤ st'.1.2.1 ∧ st.1.2.2 ≤ st'.1.2.2 ∧ Kp st.1.1 st'.1.1
  | 0, _, _, _, _, _, _, h => by cases h
  | n + 1, _, _, _, _, _, _, h => by
    obtain ⟨en', -, -, h1, h2, h3⟩ := evF_some h
    exact ⟨h1, h2, h3⟩
theorem XClo.triv {dec : XD} {lk lp : XK} {pk rk : Nat → List Nat} {thr : Nat → Bool} {rt : List Nat} {rz : Bool} {F : XP} {hnd : Nat → Option (Nat × Nat)} (h : ∀ f av st r st', F f av st = some (1, r, st') → r.length = (rk f).length) :
    XClo dec lk lp pk rk thr rt rz xs L ck F cW hnd (fun _ _ => True) (fun _ => True) (fun _ _ _ _ _ => True) := by
  refine ⟨?_, ?_, ?_, ?_, ?_, ?_, ?_, ?_, ?_, ?_, ?_, ?_, ?_, ?_, ?_, ?_, ?_, ?_, ?_, ?_, ?_, ?_, ?_, ?_, ?_, ?_, ?_, ?_, ?_, ?_, ?_, ?_, ?_, ?_, ?_, ?_, ?_, fun f av r st st' q => h f av st r st' q, ?_, ?_, ?_⟩ <;> intros <;> trivial
theorem lay_le : ∀ (pk : List Nat) (av : List Int), (j_lay pk av).length ≤ (j_layT pk).length
  | [], av => by cases av <;> exact Nat.le_refl _
  | k :: pk, [] => Nat.zero_le _
  | k :: pk, v :: av => by
    have h' := lay_le pk av
    by_cases hk : k = 2
    · subst hk
      rw [layT2, lay2]
      simpa using h'
    · rw [layT1 hk, lay1 hk]
      simpa using h'
theorem lg_len {ad : Nat → Nat} : ∀ (pk : List Nat) (av : List Int), av.length = pk.length → (lg_sl ((pk.zip av).map fun q => w_v ad adW aT aS q.1 q.2)).length = (j_layT pk).length
  | [], [], _ => rfl
  | [], _ :: _, h => by cases h
  | k :: pk, [], h => by cases h
  | k :: pk, v :: av, h => by
    have h' := lg_len (ad := ad) pk av (by simpa using h)
    have e : lg_sl (((k :: pk).zip (v :: av)).map fun q => w_v ad adW aT aS q.1 q.2) = (if (w_v ad adW aT aS k v).category = 2 then [.val (w_v ad adW aT aS k v), .second] else [.val (w_v ad adW aT aS k v)]) ++ lg_sl ((pk.zip av).map fun q => w_v ad adW aT aS q.1 q.2) := rfl
    rw [e, List.length_append, h', w_cat]
    unfold k_cat
    by_cases hk : k = 2
    · subst hk
      rw [layT2]
      simp
      omega
    · rw [layT1 hk, if_neg hk]
      simp
      omega
theorem evF_len (hCK : ∀ f, CK M DE LK LP THR RZ HND f ∨ m_B M f = .var 0) : ∀ (n f : Nat) (av : List Int) (st : XT) (r : List Int) (st' : XT), evF xs L ck K cW M n f av st = some (1, r, st') → r.length = (m_R M f).length
  | 0, _, _, _, _, _, h => by cases h
  | n + 1, f, av, st, r, st', h => by
    obtain ⟨en', h1, -⟩ := evF_some h
    rcases hCK f with hc | hc
    · obtain ⟨τ', pc', hc1⟩ := hc.run
      have HC := XClo.triv (dec := DE f) (lk := LK f) (lp := LP f) (pk := m_P M) (rk := m_R M) (thr := THR) (rt := m_R M f) (rz := RZ f) (xs := xs) (L := L) (ck := ck) (cW := cW) (hnd := HND f) (evF_len hCK n)
      have := (snd_S (K := K) HC (m_B M f)).1 _ _ _ _ _ _ _ _ _ _ _ _ _ _ _ hc1 hc.2.1 (by rw [pad_len (Nat.le_trans (lay_le _ _) hc.2.2), pad_len hc.2.2]) h1
      exact this.2.2.2.1 rfl
    · rw [hc] at h1
      cases h1
/-- all that is said of a method that throws nothing -/
def FA (Ts : List Cond) (cl : List vw_C) (ck : Nat → List Nat) (adW : Nat → Nat) (aT : Nat) (Zs : String → String → String → Value → Prop) (Y : Nat → MethodName) (CC : Nat → ByteArray) (RT : Nat → XRt) (M : Nat → XM) (THR RZ : Nat → Bool) (LK LP : Nat → XK) (DE : Nat → XD) (HND : Nat → Nat → Option (Nat × Nat)) (f : Nat) : Prop :=
  MF Ts Y CC (m_L M) RT (m_R M) f ∧ FO Ts cl ck adW aT Zs Y RT (m_P M) (Y f).cls (Y f).name (LK f) (LP f) ∧ DecOk (DE f) (CC f) ∧ RTok (m_R M f) (RZ f) (RT f).1 ∧ plainFor (Y f) = true ∧ CK M DE LK LP THR RZ HND f
theorem meth_ok (hnice : ∀ w ∈ Ts, niceW w = true) (hCF : CF Ts cl ck) (hWi : ∀ i j : Nat, i < 24 → j < 24 → adW i = adW j → i = j) (hTa : ∀ ty, (ty = .int ∨ ty = .long ∨ ty = .byte ∨ ty = .boolean) → Cond.arrayClass ty ∈ Ts)
    (hMF : ∀ f, MF Ts Y CC (m_L M) RT (m_R M) f ∨ THR f = true) (hCK : ∀ f, CK M DE LK LP THR RZ HND f ∨ m_B M f = .var 0) {n f : Nat} (hz : (RT f).2 = []) (hFA : FA Ts cl ck adW aT Zs Y CC RT M THR RZ LK LP DE HND f) (hh : ∀ pc, HND f pc = none)
    (hCT : ∀ g, THR g = false → CTm l Ts D cl cA A adW aT aS ck Zs cW xs L Y CC (m_L M) RT (m_P M) (m_R M) (evF xs L ck K cW M n) n g) : CTm l Ts D cl cA A adW aT aS ck Zs cW xs L Y CC (m_L M) RT (m_P M) (m_R M) (evF xs L ck K cW M (n + 1)) (n + 1) f := by
  intro av st r st' ad hF hok hav hlen
  obtain ⟨en', h1, h2, h3, h4, h5⟩ := evF_some hF
  obtain ⟨hMFf, hFO, hDE, hRT, hpl, hc⟩ := hFA
  obtain ⟨τ', pc', hc1⟩ := hc.run
  rw [cwd_nil hz]
  refine Met_ofF (cc := CC f) (maxL := m_L M f) (ret := (RT f).1) hpl rfl ?_
  intro p e s m args below meth c s₁ B hml hv
  obtain ⟨rfl, w1, w2, w3, w4, w5, w6⟩ := hv
  have hx := B.exec
  have hb := B.bytes
  have hown : s.vm.findClass (Y f).cls = some m.cls := findClass_of_methodNamed B.named
  have hname : meth.name = (Y f).name := (name_of_methodNamed B.named B.method).1
  have hts : ∀ w ∈ Ts, w.before ((((m_P M f).zip av).map fun q => w_v ad adW aT aS q.1 q.2).toArray) s = true := fun w hw => nw_at (hnice w hw) (show s.WarmedH s.vm from State.WarmedH.refl s) (w3 w hw)
  have hR : n + 11 ≤ (headSpec [Cond.code (Y f) (CC f) (m_L M f) (RT f).1] (rm_n (n + 1) (st'.1.2.1 - st.1.2.1) (st'.1.2.2 - st.1.2.2))).room.frames ∧ 60 * n + 360 ≤ (headSpec [Cond.code (Y f) (CC f) (m_L M f) (RT f).1] (rm_n (n + 1) (st'.1.2.1 - st.1.2.1) (st'.1.2.2 - st.1.2.2))).room.locals := by
    show n + 11 ≤ (rm_n (n + 1) _ _).frames ∧ 60 * n + 360 ≤ (rm_n (n + 1) _ _).locals
    rw [rm_f, rm_l]
    exact ⟨by omega, by omega⟩
  have HC := clo (p := p) (l := l) (e := e) (R := (headSpec [Cond.code (Y f) (CC f) (m_L M f) (RT f).1] (rm_n (n + 1) (st'.1.2.1 - st.1.2.1) (st'.1.2.2 - st.1.2.2))).room) (s := s) (m := m) (below := below) (meth := meth) (c := c) (nL := m_L M f) (D := D) (cl := cl) (cA := cA) (A := A) (adW := adW) (aT := aT) (aS := aS) (ck := ck) (c0 := st.1.2.1) (d0 := st.1.2.2) (n0 := st.1.1.length) (ad0 := ad) (dec := DE f) (lk := LK f) (lp := LP f) (Zs := Zs) (cW := cW) (xs := xs) (L := L) (Y := Y) (CC := CC) (ML := m_L M) (RT := RT) (PK := m_P M) (RK := m_R M) (F := evF xs L ck K cW M n) (n := n) (thr := THR) (rt := m_R M f) (rz := RZ f) (hnd := HND f)
    (Q := MQ below (QB D cl cA A adW aT aS ck (m_R M f) r st.1.1.length ad st') ((((m_P M f).zip av).map fun q => w_v ad adW aT aS q.1 q.2).toArray) s (st'.1.2.1 - st.1.2.1) (st'.1.2.2 - st.1.2.2) A)
    (RR := fun v z => v = r ∧ z = st') (XX := fun _ => False) (args := (((m_P M f).zip av).map fun q => w_v ad adW aT aS q.1 q.2).toArray) (own := (Y f).cls) (Ts := Ts) (cc := CC f)
    hx hb hDE hml hown w3 hts hnice hCF w4 w5 w6 hWi hTa (by rw [hname]; exact hFO) hMF hCT hR (evF_mono n) (evF_len hCK n)
    (z_ret hx hb hDE B.returns hRT B.notSynchronized ⟨rfl, rfl⟩) (z_retv hx hb hDE B.returns hRT B.notSynchronized ⟨rfl, rfl⟩) (fun _ _ _ _ _ h => h.elim) (fun pc _ _ _ _ _ _ _ _ _ _ _ _ _ h => by rw [hh pc] at h; cases h) (z_retz hx hb hDE B.returns hRT B.notSynchronized ⟨rfl, rfl⟩)
  have key := (snd_S (K := K) HC (m_B M f)).1 _ _ _ _ _ _ _ _ _ _ _ _ _ _ _ hc1 hc.2.1 (by rw [pad_len (Nat.le_trans (lay_le _ _) hc.2.2), pad_len hc.2.2]) h1
  have J0 := key.2.2.2.2.2 (fun h => by cases h) (fun _ => ⟨rfl, rfl⟩) (fun h => by cases h) (fun h => by cases h) (fun h => by cases h)
  have J1 := jw_ult hx hb hDE J0
  have hτ : (j_pad 0 (m_L M f) (j_layT (m_P M f))).length = m_L M f := pad_len hc.2.2
  have hlo := lv_entry (((m_P M f).zip av).map fun q => w_v ad adW aT aS q.1 q.2) (n := m_L M f) (by rw [lg_len _ _ hlen]; exact hc.2.2)
  have W0 := J1.2 hok (fun q hq => by cases hq) (fun i hi => by rw [pad_getD] at hi ⊢; rw [pad_getD]; exact lay_ok _ _ _ hlen hav hi) ⟨Nat.le_refl _, Nat.le_refl _⟩ (Nat.le_refl _) hτ ad s.heap [] _ w1 ⟨w2, fun _ _ => rfl⟩ va_S.rf (lv_mono hlo (fun q hq => by
    obtain ⟨a1, a2, a3⟩ := w_l_mem.mp hq
    rw [pad_getD] at a2 a3
    rw [pad_getD] at a3
    have := lay_args (ad := ad) (adW := adW) (aT := aT) (aS := aS) (m_P M f) av 0 q.1 hlen a2
    rw [Nat.zero_add, ← a3] at this
    exact this))
  rw [Nat.sub_self, Nat.sub_self] at W0
  rw [lg_entry_eq]
  exact W0
end JWM
