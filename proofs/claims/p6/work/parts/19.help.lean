section JWU
variable {l : Launch} 
  {cc : ByteArray} {nL : Nat} {own : String} {Ts : List Cond} {D : va_G} {cl : List vw_C} {cA : Nat → ClassId} {A : Nat → Prop} {adW : Nat → Nat} {aT aS : Nat} {ck : Nat → List Nat} {c0 d0 n0 : Nat} {ad0 : Nat → Nat} {dec : XD} {lk lp : XK} {Zs : String → String → String → Value → Prop} {cW : Nat → Nat → Int} {xs : Nat → Int} {L K : Nat}
  {Y : Nat → MethodName} {CC : Nat → ByteArray} {RT : Nat → XRt} {M : Nat → XM} {THR RZ : Nat → Bool} {LK LP : Nat → XK} {DE : Nat → XD} {HND : Nat → Nat → Option (Nat × Nat)}
theorem evF_non {f : Nat} (h : m_B M f = .var 0) : ∀ {n : Nat} {av : List Int} {st : XT}, evF xs L ck K cW M n f av st = none
  | 0, _, _ => rfl
  | n + 1, av, st => by
    cases hE : evF xs L ck K cW M (n + 1) f av st with
    | none => rfl
    | some q =>
      obtain ⟨k, r, st'⟩ := q
      obtain ⟨en', h1, -⟩ := evF_some hE
      rw [h] at h1
      cases h1
theorem Met_ofWH {y : MethodName} {ws ws' : List Cond} {rm : Room} {Pc : Array Value → State → Prop} {Qc : Array Value → State → Outcome → State → Prop} {mc ms : Nat} {free : Addr → Prop} {cc : ByteArray} {maxL : Nat} {ret : Option FieldType} {hh : List (Nat × Nat × Nat × Nat)}
    (hy : plainFor y = true) (hw : ws = Cond.codeWith y cc maxL ret hh :: ws')
    (body : ∀ p e s m args below meth c s₁, BodyLoose p l y (headSpec ws rm) cc maxL ret e s m args below meth c s₁ → c.maxLocals = maxL → Pc args s →
      W p l e (headSpec ws rm).room s m args below meth c s.heap [] 0 0 (MQ below Qc args s mc ms free) (entryFrame m args maxL)) : Met l y ws rm Pc Qc mc ms free := by
  refine MetFree.of_bodySF (code := cc) (maxLocals := maxL) (ret := ret) hy ?_ ?_
  · intro args s m h hn
    obtain ⟨m9, meth, c, hn9, h1, h2, h3, h4, -, h5, h6, -⟩ := Cond.codeWith_spec (atoms_spec (ws := ws) h _ (by rw [hw]; exact List.mem_cons_self))
    cases hn.symm.trans hn9
    exact ⟨meth, c, h1, h2, h3, h4, h5, h6⟩
  · intro p e s m args below meth c s₁ B hml hP _
    have hh0 : s₁.heap = s.heap := by rw [B.state]; rfl
    obtain ⟨t, a1, o, b1, b2, b3⟩ := body p e s m args below meth c s₁ B hml hP s₁ hh0 (Stand.of_body B)
    exact ⟨t, o, a1, b1, b2, ⟨b3.1, b3.2⟩⟩
theorem methh_ok (hnice : ∀ w ∈ Ts, niceW w = true) (hCF : CF Ts cl ck) (hWi : ∀ i j : Nat, i < 24 → j < 24 → adW i = adW j → i = j) (hTa : ∀ ty, (ty = .int ∨ ty = .long ∨ ty = .byte ∨ ty = .boolean) → Cond.arrayClass ty ∈ Ts)
    (hMF : ∀ f, MF Ts Y CC (m_L M) RT (m_R M) f ∨ THR f = true) (hCK : ∀ f, CK M DE LK LP THR RZ HND f ∨ m_B M f = .var 0) {n f : Nat} (hz : (RT f).2 ≠ []) (hFA : FA Ts cl ck adW aT Zs Y CC RT M THR RZ LK LP DE HND f) (hHX : HX Ts (Y f).cls (DE f) (RT f).2 (HND f)) (hMFx : ∀ g, THR g = true → MF Ts Y CC (m_L M) RT (m_R M) g ∨ m_B M g = .var 0) (hvirt : ∀ i g how z, LK f i = some (6, g, how, z) → THR g = true → how = 0) (hCX : ∀ g, THR g = true → CTx l Ts D cl cA A adW aT aS ck Zs cW xs L Y CC (m_L M) RT (m_P M) (m_R M) (evF xs L ck K cW M n) n g)
    (hCT : ∀ g, THR g = false → CTm l Ts D cl cA A adW aT aS ck Zs cW xs L Y CC (m_L M) RT (m_P M) (m_R M) (evF xs L ck K cW M n) n g) : CTm l Ts D cl cA A adW aT aS ck Zs cW xs L Y CC (m_L M) RT (m_P M) (m_R M) (evF xs L ck K cW M (n + 1)) (n + 1) f := by
  intro av st r st' ad hF hok hav hlen
  obtain ⟨en', h1, h2, h3, h4, h5⟩ := evF_some hF
  obtain ⟨hMFf, hFO, hDE, hRT, hpl, hc⟩ := hFA
  obtain ⟨τ', pc', hc1⟩ := hc.run
  rw [cwd_cons hz]
  refine Met_ofWH (cc := CC f) (maxL := m_L M f) (ret := (RT f).1) (hh := (RT f).2) hpl rfl ?_
  intro p e s m args below meth c s₁ B hml hv
  obtain ⟨rfl, w1, w2, w3, w4, w5, w6⟩ := hv
  have hx := B.exec
  have hb := B.bytes
  have hown : s.vm.findClass (Y f).cls = some m.cls := findClass_of_methodNamed B.named
  have hname : meth.name = (Y f).name := (name_of_methodNamed B.named B.method).1
  have hts : ∀ w ∈ Ts, w.before ((((m_P M f).zip av).map fun q => w_v ad adW aT aS q.1 q.2).toArray) s = true := fun w hw => nw_at (hnice w hw) (show s.WarmedH s.vm from State.WarmedH.refl s) (w3 w hw)
  have hR : n + 11 ≤ (headSpec [Cond.codeWith (Y f) (CC f) (m_L M f) (RT f).1 (RT f).2] (rm_n (n + 1) (st'.1.2.1 - st.1.2.1) (st'.1.2.2 - st.1.2.2))).room.frames ∧ 60 * n + 360 ≤ (headSpec [Cond.codeWith (Y f) (CC f) (m_L M f) (RT f).1 (RT f).2] (rm_n (n + 1) (st'.1.2.1 - st.1.2.1) (st'.1.2.2 - st.1.2.2))).room.locals := by
    show n + 11 ≤ (rm_n (n + 1) _ _).frames ∧ 60 * n + 360 ≤ (rm_n (n + 1) _ _).locals
    rw [rm_f, rm_l]
    exact ⟨by omega, by omega⟩
  have hMFz : ∀ g, THR g = true → MF Ts Y CC (m_L M) RT (m_R M) g ∨ ∀ av st, evF xs L ck K cW M n g av st = none := fun g hg => by
    rcases hMFx g hg with h | h
    · exact Or.inl h
    · exact Or.inr fun av st => evF_non h
  have htb : c.exceptionTable.toList = tableOf (RT f).2 := by
    have h := hts _ hMFf.1
    rw [cwd_cons hz] at h
    exact vx_table (x := Y f) B h
  have HC := clo (p := p) (l := l) (e := e) (R := (headSpec [Cond.codeWith (Y f) (CC f) (m_L M f) (RT f).1 (RT f).2] (rm_n (n + 1) (st'.1.2.1 - st.1.2.1) (st'.1.2.2 - st.1.2.2))).room) (s := s) (m := m) (below := below) (meth := meth) (c := c) (nL := m_L M f) (D := D) (cl := cl) (cA := cA) (A := A) (adW := adW) (aT := aT) (aS := aS) (ck := ck) (c0 := st.1.2.1) (d0 := st.1.2.2) (n0 := st.1.1.length) (ad0 := ad) (dec := DE f) (lk := LK f) (lp := LP f) (Zs := Zs) (cW := cW) (xs := xs) (L := L) (Y := Y) (CC := CC) (ML := m_L M) (RT := RT) (PK := m_P M) (RK := m_R M) (F := evF xs L ck K cW M n) (n := n) (thr := THR) (rt := m_R M f) (rz := RZ f) (hnd := HND f)
    (Q := MQ below (QB D cl cA A adW aT aS ck (m_R M f) r st.1.1.length ad st') ((((m_P M f).zip av).map fun q => w_v ad adW aT aS q.1 q.2).toArray) s (st'.1.2.1 - st.1.2.1) (st'.1.2.2 - st.1.2.2) A)
    (RR := fun v z => v = r ∧ z = st') (XX := fun _ => False) (args := (((m_P M f).zip av).map fun q => w_v ad adW aT aS q.1 q.2).toArray) (own := (Y f).cls) (Ts := Ts) (cc := CC f)
    hx hb hDE hml hown w3 hts hnice hCF w4 w5 w6 hWi hTa (by rw [hname]; exact hFO) hMF hCT hR (evF_mono n) (evF_len hCK n)
    (z_ret hx hb hDE B.returns hRT B.notSynchronized ⟨rfl, rfl⟩) (z_retv hx hb hDE B.returns hRT B.notSynchronized ⟨rfl, rfl⟩) (fun _ _ _ _ _ h => h.elim) (z_callx hx hb hDE hml hown w3 hts hnice w4 w5 w6 hMFz hFO.2.2.1 hvirt hCX hR (evF_mono n) (evF_len hCK n) htb hHX) (z_retz hx hb hDE B.returns hRT B.notSynchronized ⟨rfl, rfl⟩)
  have key := (snd_S (K := K) HC (m_B M f)).1 _ _ _ _ _ _ _ _ _ _ _ _ _ _ _ hc1 hc.2.1 (by rw [pad_len (Nat.le_trans (lay_le _ _) hc.2.2), pad_len hc.2.2]) h1
  have J0 := key.2.2.2.2.2 (fun h => by cases h) (fun _ => ⟨rfl, rfl⟩) (fun h => by cases h) (fun h => by cases h) (fun h => by cases h)
  have J1 := jw_ult hx hb hDE J0
  have hτ : (j_pad 0 (m_L M f) (j_layT (m_P M f))).length = m_L M f := pad_len hc.2.2
  have hlo := lv_entry (((m_P M f).zip av).map fun q => w_v ad adW aT aS q.1 q.2) (n := m_L M f) (by rw [lg_len _ _ hlen]; exact hc.2.2)
  have W0 := J1.2 hok (fun q hq => by cases hq) (fun i hi => by rw [pad_getD] at hi ⊢; rw [pad_getD]; exact lay_ok _ _ _ hlen hav hi) ⟨Nat.le_refl _, Nat.le_refl _⟩ (Nat.le_refl _) hτ ad s.heap [] _ w1 ⟨w2, fun _ _ => rfl⟩ va_S.rf (lv_mono hlo (fun q hq => by
    obtain ⟨a1, a2, a3⟩ := w_l_mem.mp hq
    rw [pad_getD] at a2 a3
    rw [pad_getD] at a3
    have := lay_args (ad := ad) (adW := adW) (aT := aT) (aS := aS) (m_P M f) av 0 q.1 hlen a2
    rw [Nat.zero_add, ← a3] at this
    exact this))
  rw [Nat.sub_self, Nat.sub_self] at W0
  rw [lg_entry_eq]
  exact W0
end JWU
