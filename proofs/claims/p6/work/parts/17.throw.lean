section JWT
variable {p : Program} {l : Launch} {e : Env} {R : Room} {s : State} {m : MethodId} {args : Array Value} {below : List Frame} {meth : Method} {c : Code} {Q : State → Prop}
  {cc : ByteArray} {nL : Nat} {own : String} {Ts : List Cond} {D : va_G} {cl : List vw_C} {cA : Nat → ClassId} {A : Nat → Prop} {adW : Nat → Nat} {aT aS : Nat} {ck : Nat → List Nat} {c0 d0 n0 : Nat} {ad0 : Nat → Nat} {dec : XD} {lk lp : XK} {Zs : String → String → String → Value → Prop} {cW : Nat → Nat → Int} {xs : Nat → Int} {L K : Nat}
  {Y : Nat → MethodName} {CC : Nat → ByteArray} {RT : Nat → XRt} {M : Nat → XM} {THR RZ : Nat → Bool} {LK LP : Nat → XK} {DE : Nat → XD} {HND : Nat → Nat → Option (Nat × Nat)}
theorem w_mono {H : Heap} {locs : List Loc} {cells slots : Nat} {Q1 Q2 : State → Prop} {g : JFrame} (h : ∀ t, Q1 t → Q2 t) (k : W p l e R s m args below meth c H locs cells slots Q1 g) : W p l e R s m args below meth c H locs cells slots Q2 g := fun T hT X => by
  obtain ⟨t, a, b⟩ := k T hT X
  exact ⟨t, a, h t b⟩
theorem jw_Q {Q1 Q2 : State → Prop} (h : ∀ t, Q1 t → Q2 t) {pc : Nat} {τ : List Nat} {en : List Int} {S : List (Nat × Int)} {st : XT} (k : JW p l e R s m args below meth c Q1 nL D cl cA A adW aT aS ck c0 d0 n0 ad0 pc τ en S st) : JW p l e R s m args below meth c Q2 nL D cl cA A adW aT aS ck c0 d0 n0 ad0 pc τ en S st :=
  ⟨k.1, fun h1 h2 h3 h4 h5 h6 ad H locs ls g1 g2 g3 g4 => w_mono h (k.2 h1 h2 h3 h4 h5 h6 ad H locs ls g1 g2 g3 g4)⟩
/-- a contract of a method that may throw -/
def CTx (l : Launch) (Ts : List Cond) (D : va_G) (cl : List vw_C) (cA : Nat → ClassId) (A : Nat → Prop) (adW : Nat → Nat) (aT aS : Nat) (ck : Nat → List Nat) (Zs : String → String → String → Value → Prop) (cW : Nat → Nat → Int) (xs : Nat → Int) (L : Nat) (Y : Nat → MethodName) (CC : Nat → ByteArray) (ML : Nat → Nat) (RT : Nat → XRt) (PK RK : Nat → List Nat) (F : XP) (n f : Nat) : Prop :=
  ∀ av st k r st' ad, F f av st = some (k, r, st') → OkS ck st → (∀ q ∈ (PK f).zip av, OkV st.1.1 q.1 q.2) → av.length = (PK f).length →
    vx_Met l (Y f) [cwd (Y f) (CC f) (ML f) (RT f)] (rm_n n (st'.1.2.1 - st.1.2.1) (st'.1.2.2 - st.1.2.2)) (va_Pc (((PK f).zip av).map fun q => w_v ad adW aT aS q.1 q.2) (WB Ts D cl cA A adW aT aS Zs cW xs L st ad)) (fun a s0 o t => k = 1 ∧ QB D cl cA A adW aT aS ck (RK f) r st.1.1.length ad st' a s0 o t) (fun E s0 t => k = 4 ∧ QX D cl cA A ck st.1.1.length ad st' E s0 t) (st'.1.2.1 - st.1.2.1) (st'.1.2.2 - st.1.2.2) A
theorem methx_ok (hl : l.stackTraces = false) (hnice : ∀ w ∈ Ts, niceW w = true) (hCF : CF Ts cl ck) (hWi : ∀ i j : Nat, i < 24 → j < 24 → adW i = adW j → i = j) (hTa : ∀ ty, (ty = .int ∨ ty = .long ∨ ty = .byte ∨ ty = .boolean) → Cond.arrayClass ty ∈ Ts)
    (hMF : ∀ f, MF Ts Y CC (m_L M) RT (m_R M) f ∨ THR f = true) (hCK : ∀ f, CK M DE LK LP THR RZ HND f ∨ m_B M f = .var 0) {n f : Nat} (hz : (RT f).2 = []) (hFA : FA Ts cl ck adW aT Zs Y CC RT M THR RZ LK LP DE HND f) (hLT : LT Ts (Y f).cls (LK f)) (hh : ∀ pc, HND f pc = none)
    (hCT : ∀ g, THR g = false → CTm l Ts D cl cA A adW aT aS ck Zs cW xs L Y CC (m_L M) RT (m_P M) (m_R M) (evF xs L ck K cW M n) n g) : CTx l Ts D cl cA A adW aT aS ck Zs cW xs L Y CC (m_L M) RT (m_P M) (m_R M) (evF xs L ck K cW M (n + 1)) (n + 1) f := by
  intro av st k r st' ad hF hok hav hlen
  obtain ⟨en', h1, h2, h3, h4, h5⟩ := evF_some hF
  obtain ⟨hMFf, hFO, hDE, hRT, hpl, hc⟩ := hFA
  obtain ⟨τ', pc', hc1⟩ := hc.run
  rw [cwd_nil hz]
  refine vx_ofW (cc := CC f) (maxL := m_L M f) (ret := (RT f).1) hpl rfl ?_
  intro p e s m args below meth c s₁ B hml hexc hv
  obtain ⟨rfl, w1, w2, w3, w4, w5, w6⟩ := hv
  have hx := B.exec
  have hb := B.bytes
  have hown : s.vm.findClass (Y f).cls = some m.cls := findClass_of_methodNamed B.named
  have hname : meth.name = (Y f).name := (name_of_methodNamed B.named B.method).1
  have hts : ∀ w ∈ Ts, w.before ((((m_P M f).zip av).map fun q => w_v ad adW aT aS q.1 q.2).toArray) s = true := fun w hw => nw_at (hnice w hw) (show s.WarmedH s.vm from State.WarmedH.refl s) (w3 w hw)
  have hR : n + 11 ≤ (headSpec [Cond.code (Y f) (CC f) (m_L M f) (RT f).1] (rm_n (n + 1) (st'.1.2.1 - st.1.2.1) (st'.1.2.2 - st.1.2.2))).room.frames ∧ 60 * n + 360 ≤ (headSpec [Cond.code (Y f) (CC f) (m_L M f) (RT f).1] (rm_n (n + 1) (st'.1.2.1 - st.1.2.1) (st'.1.2.2 - st.1.2.2))).room.locals := by
    show n + 11 ≤ (rm_n (n + 1) _ _).frames ∧ 60 * n + 360 ≤ (rm_n (n + 1) _ _).locals
    rw [rm_f, rm_l]
    exact ⟨by omega, by omega⟩
  have toX : k = 1 → ∀ t, MQ below (QB D cl cA A adW aT aS ck (m_R M f) r st.1.1.length ad st') ((((m_P M f).zip av).map fun q => w_v ad adW aT aS q.1 q.2).toArray) s (st'.1.2.1 - st.1.2.1) (st'.1.2.2 - st.1.2.2) A t → vx_MQ below (fun a s0 o t => k = 1 ∧ QB D cl cA A adW aT aS ck (m_R M f) r st.1.1.length ad st' a s0 o t) (fun E s0 t => k = 4 ∧ QX D cl cA A ck st.1.1.length ad st' E s0 t) ((((m_P M f).zip av).map fun q => w_v ad adW aT aS q.1 q.2).toArray) s (st'.1.2.1 - st.1.2.1) (st'.1.2.2 - st.1.2.2) A t := by
    rintro hk t ⟨o, b1, b2, b3, b4⟩
    exact ⟨o, b1, b2, Or.inl ⟨⟨hk, b3⟩, b4⟩⟩
  have HC := clo (p := p) (l := l) (e := e) (R := (headSpec [Cond.code (Y f) (CC f) (m_L M f) (RT f).1] (rm_n (n + 1) (st'.1.2.1 - st.1.2.1) (st'.1.2.2 - st.1.2.2))).room) (s := s) (m := m) (below := below) (meth := meth) (c := c) (nL := m_L M f) (D := D) (cl := cl) (cA := cA) (A := A) (adW := adW) (aT := aT) (aS := aS) (ck := ck) (c0 := st.1.2.1) (d0 := st.1.2.2) (n0 := st.1.1.length) (ad0 := ad) (dec := DE f) (lk := LK f) (lp := LP f) (Zs := Zs) (cW := cW) (xs := xs) (L := L) (Y := Y) (CC := CC) (ML := m_L M) (RT := RT) (PK := m_P M) (RK := m_R M) (F := evF xs L ck K cW M n) (n := n) (thr := THR) (rt := m_R M f) (rz := RZ f) (hnd := HND f)
    (Q := vx_MQ below (fun a s0 o t => k = 1 ∧ QB D cl cA A adW aT aS ck (m_R M f) r st.1.1.length ad st' a s0 o t) (fun E s0 t => k = 4 ∧ QX D cl cA A ck st.1.1.length ad st' E s0 t) ((((m_P M f).zip av).map fun q => w_v ad adW aT aS q.1 q.2).toArray) s (st'.1.2.1 - st.1.2.1) (st'.1.2.2 - st.1.2.2) A)
    (RR := fun v z => k = 1 ∧ v = r ∧ z = st') (XX := fun z => k = 4 ∧ z = st') (args := (((m_P M f).zip av).map fun q => w_v ad adW aT aS q.1 q.2).toArray) (own := (Y f).cls) (Ts := Ts) (cc := CC f)
    hx hb hDE hml hown w3 hts hnice hCF w4 w5 w6 hWi hTa (by rw [hname]; exact hFO) hMF hCT hR (evF_mono n) (evF_len hCK n)
    (fun pc kd v τ en z a1 a2 a3 a4 a5 => jw_Q (toX a5.1) (z_ret hx hb hDE B.returns hRT B.notSynchronized ⟨rfl, rfl⟩ pc kd v τ en z a1 a2 a3 a4 a5.2)) (fun pc τ en z a1 a2 a5 => jw_Q (toX a5.1) (z_retv hx hb hDE B.returns hRT B.notSynchronized ⟨rfl, rfl⟩ pc τ en z a1 a2 a5.2))
    (fun pc τ en z a1 a2 => z_throw (fun E s0 t q => ⟨a2.1, q⟩) hx hb hDE hml hl hown hts hLT w5 B.notSynchronized hexc ⟨rfl, rfl, by show 10 ≤ (rm_n (n + 1) _ _).frames; rw [rm_f]; omega, by show 120 ≤ (rm_n (n + 1) _ _).locals; rw [rm_l]; omega⟩ pc τ en z a1 a2.2)
    (fun pc _ _ _ _ _ _ _ _ _ _ _ _ _ h => by rw [hh pc] at h; cases h) (fun pc v τ en z a1 a2 a3 a4 a5 => jw_Q (toX a5.1) (z_retz hx hb hDE B.returns hRT B.notSynchronized ⟨rfl, rfl⟩ pc v τ en z a1 a2 a3 a4 a5.2))
  have key := (snd_S (K := K) HC (m_B M f)).1 _ _ _ _ _ _ _ _ _ _ _ _ _ _ _ hc1 hc.2.1 (by rw [pad_len (Nat.le_trans (lay_le _ _) hc.2.2), pad_len hc.2.2]) h1
  have J0 := key.2.2.2.2.2 (fun h => by rcases h2 with q | q <;> rw [q] at h <;> cases h) (fun h => ⟨h, rfl, rfl⟩) (fun h => by rcases h2 with q | q <;> rw [q] at h <;> cases h) (fun h => by rcases h2 with q | q <;> rw [q] at h <;> cases h) (fun h => ⟨h, rfl⟩)
  have J1 := jw_ult hx hb hDE J0
  have hτ : (j_pad 0 (m_L M f) (j_layT (m_P M f))).length = m_L M f := pad_len hc.2.2
  have hlo := lv_entry (((m_P M f).zip av).map fun q => w_v ad adW aT aS q.1 q.2) (n := m_L M f) (by rw [lg_len _ _ hlen]; exact hc.2.2)
  have W0 := J1.2 hok (fun q hq => by cases hq) (fun i hi => by rw [pad_getD] at hi ⊢; rw [pad_getD]; exact lay_ok _ _ _ hlen hav hi) ⟨Nat.le_refl _, Nat.le_refl _⟩ (Nat.le_refl _) hτ ad s.heap [] _ w1 ⟨w2, fun _ _ => rfl⟩ va_S.rf (lv_mono hlo (fun q hq => by
    obtain ⟨a1, a2, a3⟩ := w_l_mem.mp hq
    rw [pad_getD] at a2 a3
    rw [pad_getD] at a3
    have := lay_args (ad := ad) (adW := adW) (aT := aT) (aS := aS) (m_P M f) av 0 q.1 hlen a2
    rw [Nat.zero_add, ← a3] at this
    exact this))
  rw [Nat.sub_self, Nat.sub_self] at W0
  rw [lg_entry_eq]
  exact W0
end JWT
