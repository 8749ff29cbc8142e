section
/-! ===== BEGIN words of one list among another's, by their places ===== -/
theorem goodIn_r {big : List Cond} (ws : List Cond) (ps : List Nat) (hp : ws = ps.filterMap (fun i => big[i]?)) (h : ws.all goodWord = true) : GoodIn big ws := by
  intro w hw
  have h1 := List.all_eq_true.mp h w hw
  rw [hp] at hw
  obtain ⟨i, -, hi⟩ := List.mem_filterMap.mp hw
  have hm : w ∈ big := by first | exact List.mem_of_getElem? hi | exact List.getElem?_mem hi
  exact ⟨hm, good_of_word h1⟩
theorem goodIn_app {big a b : List Cond} (ha : GoodIn big a) (hb : GoodIn big b) : GoodIn big (a ++ b) := fun w h => (List.mem_append.mp h).elim (ha w) (hb w)
theorem goodIn_ca {big a b : List Cond} {c : Cond} (ha : GoodIn big (c :: a)) (hb : GoodIn big b) : GoodIn big (c :: (a ++ b)) := fun w h => (List.mem_cons.mp h).elim (fun e => ha w (List.mem_cons.mpr (Or.inl e))) (fun h => (List.mem_append.mp h).elim (fun h => ha w (List.mem_cons.mpr (Or.inr h))) (hb w))
theorem goodIn_sub {big ws : List Cond} (hm : ∀ w ∈ ws, w ∈ big) (h : ws.all goodWord = true) : GoodIn big ws := fun w hw => ⟨hm w hw, good_of_word (List.all_eq_true.mp h w hw)⟩
/-! ===== END ===== -/
/-! ===== BEGIN exceptions that leave a method, and their catching by the caller (launches without stack traces) ===== -/
section VXA
/-! The laws vx_back, vx_callV, vx_callS, vx_callSW, vx_throw0, vx_throwS follow proofs of the library, with one case more: JvmDerived/Free/Laws.lean (Back.of_free), Shelf42/LK1.lean (callV, callS), Shelf/KitTraced.lean (throwNew0V, throwNewS). -/
/-- where a method has thrown q: the class by its name, the cell, what was written, the world -/
def vx_T (XC : String → State → State → Prop) (st : State) (q : Addr) (t : State) (mc ms : Nat) (free : Addr → Prop) : Prop :=
  ∃ (E : String) (ce : Cell) (L : List Loc), XC E st t ∧ t.heap[q]? = some ce ∧ ce.vm = .none ∧ st.vm.findClass E = some ce.cls ∧ st.WarmedH t.vm ∧ st.sameButNew ({ t with vm := st.vm } : State) L mc ms ∧ ∀ z ∈ L, free z.base
def vx_Q (Qc : Array Value → State → Outcome → State → Prop) (XC : String → State → State → Prop) (mc ms : Nat) (free : Addr → Prop) : Array Value → State → Outcome → State → Prop := fun a st o t =>
  (Qc a st o t ∧ ∃ L, FrameEnd st o t L mc ms ∧ ∀ q ∈ L, free q.base) ∨ ∃ q, o = .threw q ∧ vx_T XC st q t mc ms free
/-- a callee that returns or throws -/
def vx_Met (l : Launch) (y : MethodName) (ws : List Cond) (rm : Room) (Pc : Array Value → State → Prop) (Qc : Array Value → State → Outcome → State → Prop) (XC : String → State → State → Prop) (mc ms : Nat) (free : Addr → Prop) : Prop :=
  MetFree l y (headSpec ws rm) Pc (fun _ _ _ _ _ => True) (vx_Q Qc XC mc ms free)
def vx_Post (XC : String → State → State → Prop) (mc ms : Nat) (free : Addr → Prop) : Pt → Array Value → Addr → Pt → Prop := fun A a q B =>
  ∃ (g : JFrame) (mk : MethodId) (t : State) (L : List Loc) (E : String) (ce : Cell), B.U.heap = t.heap ∧ B.U.vm = t.vm ∧ XC E (A.U.calling g mk a) t ∧ t.heap[q]? = some ce ∧ ce.vm = .none ∧ A.U.vm.findClass E = some ce.cls ∧ B.locs = A.locs ++ L ∧ (∀ z ∈ L, free z.base) ∧ B.cells = A.cells + mc ∧ B.slots = A.slots + ms
def vx_Back (l : Launch) (R : Room) (p : Program) (e : Env) (below : List Frame) (s : State) (sargs : Array Value) (y : MethodName) (len W9 : Nat)
    (Pre : Pt → Array Value → Prop) (Post : Pt → Array Value → Option Value → Pt → Prop) (PostX : Pt → Array Value → Addr → Pt → Prop) : Prop :=
  ∀ (m : MethodId) (meth : Method) (c : Code) (A : Pt) (g : JFrame) (ig : Instr) (mk : MethodId) (a : Array Value),
    Stand p l e R s m sargs below meth c A.U A.locs A.cells A.slots → g.method = m → g.locals.size = c.maxLocals → decode c.code g.pc = .ok (ig, len) →
    2 * g.monitorRoom + (g.stack.map fun v => v.category).sum ≤ W9 → A.U.methodNamed? y = some mk → Pre A a →
    (∃ (v : Option Value) (B : Pt), Stand p l e R s m sargs below meth c B.U B.locs B.cells B.slots ∧ Post A a v B ∧
      Steps p.tables e below (doInvoke e (A.U.setTop g) [] mk a).1 (B.U.setTop { g with pc := g.pc + len, stack := v.toList ++ g.stack })) ∨
    (∃ (q : Addr) (B : Pt), Stand p l e R s m sargs below meth c B.U B.locs B.cells B.slots ∧ PostX A a q B ∧
      Steps p.tables e below (doInvoke e (A.U.setTop g) [] mk a).1 ((B.U.setTop g).pushFrame (.throwing q)))
section Payer
variable {l : Launch} {R : Room} {p : Program} {e : Env} {below : List Frame} {s : State} {sargs : Array Value} {y : MethodName} {len W9 : Nat}
theorem vx_back {ws : List Cond} {rm : Room} {Pc : Array Value → State → Prop} {Qc : Array Value → State → Outcome → State → Prop} {XC : String → State → State → Prop} {mc ms : Nat} {free : Addr → Prop} {bytes : ByteArray} {maxL : Nat} {ret : Option FieldType}
    (hM : vx_Met l y ws rm Pc Qc XC mc ms free) (hblind : FrameBlind Pc) (hrc : rm.cells = mc) (hrs : rm.slots = ms)
    (hframes : rm.frames + 1 ≤ R.frames) (hlocals : W9 + (maxL + 11) + rm.locals ≤ R.locals)
    (hws : ∀ w ∈ ws, ∀ a' U, s.WarmedH U.vm → w.before a' U = true) (hcode : Cond.code y bytes maxL ret ∈ ws) (hinit : ∀ a' U, s.WarmedH U.vm → (Cond.initialized y.cls).before a' U = true) :
    vx_Back l R p e below s sargs y len W9 (PreOf R mc ms Pc) (PostOf Qc mc ms free) (vx_Post XC mc ms free) := by
  intro m meth c A g ig mk a X hg hsize hdg hW hn hp
  have h1 : (headSpec ws rm).pre.before a A.U = true := atoms_intro fun w hw => hws w hw _ _ X.warmed
  have h2 : (Cond.code y bytes maxL ret).before a A.U = true := hws _ hcode _ _ X.warmed
  have h3 : (Cond.initialized y.cls).before a A.U = true := hinit _ _ X.warmed
  have h4 : A.cells + (headSpec ws rm).room.cells ≤ R.cells := by rw [show (headSpec ws rm).room.cells = mc from hrc]; exact hp.1
  have h5 : A.slots + (headSpec ws rm).room.slots ≤ R.slots := by rw [show (headSpec ws rm).room.slots = ms from hrs]; exact hp.2.1
  have hPc : Pc a (A.U.calling g mk a) := hblind _ _ _ _ hp.2.2
  obtain ⟨U, Ls, c0, s0⟩ := A
  dsimp only [Pt.U, Pt.locs, Pt.cells, Pt.slots] at h1 h2 h3 h4 h5 X hn hPc ⊢
  obtain ⟨methY, cY, hmY, hcY, -, hlY, -, -, -, -⟩ := Cond.code_spec hn h2
  obtain ⟨kY, hkY, -⟩ := className_of_methodNamed hn
  have hinitY : kY.init = .initialized := Cond.initialized_spec (findClass_of_methodNamed hn) hkY h3
  have h : At U g.method c below := by rw [hg]; exact X.here
  have hlocals9 : W9 + (maxL + 11) + (headSpec ws rm).room.locals ≤ R.locals := hlocals
  have happ : (headSpec ws rm).appliesLoose y e.platform (U.calling g mk a) = true :=
    Spec.appliesLoose_calling (g := g) h hdg hn hkY hinitY
      (X.room_calling (g := g) (R' := (headSpec ws rm).room) hsize hmY hcY hframes (by rw [hlY]; omega) h4 h5) h1
  obtain ⟨mid, hmid⟩ := h.above
  have hfr : (U.setTop g).frames = (.java g :: mid) ++ below := by rw [State.frames_setTop' g h.top, hmid]; rfl
  obtain ⟨o, s₂, hsteps, -, hend, hq⟩ := Steps.callFree hM p X.admits X.cas X.clock (acts := []) hfr happ hPc trivial
  have hq' : vx_Q Qc XC mc ms free a (U.calling g mk a) o s₂ := hq
  rw [State.frames_setTop' g h.top] at hend
  obtain ⟨g₀, hg0⟩ := Option.isSome_iff_exists.mp h.top
  obtain ⟨r, hr⟩ := State.topJava?_eq_some.mp hg0
  have hr' : (({ U with heap := s₂.heap, slotsUsed := s₂.slotsUsed } : State).setVm s₂.vm).frames = .java g₀ :: r := hr
  rcases hq' with ⟨hqc, L, hfe, hL⟩ | ⟨q, rfl, E, ce, L, hx, hce, hcv, hcl, hW₂, hsm, hL⟩
  · obtain ⟨⟨v, rfl⟩, hW₂, e2, q2, q3, q4, q5, q6⟩ := id hfe
    have e3 : s₂ = ({ (U.calling g mk a).setFrames s₂.frames with heap := s₂.heap, slotsUsed := s₂.slotsUsed } : State).setVm s₂.vm := by
      have : s₂ = ({ s₂ with vm := (U.calling g mk a).vm } : State).setVm s₂.vm := rfl
      rw [e2] at this
      exact this
    obtain ⟨c₂, i₂, len₂, hc₂, hd₂, hf₂⟩ := hend
    have hW' : U.WarmedH s₂.vm := hW₂
    have hcc : c₂ = c := by
      have h1 : s₂.code? g.method = U.code? g.method := by
        rw [State.code?_eq, State.code?_eq, hW'.alike.method?]
      exact Option.some.inj (hc₂.symm.trans (h1.trans h.code))
    subst hcc
    have hlen : len₂ = len := by rw [hdg] at hd₂; cases hd₂; rfl
    subst hlen
    have hs₂ : s₂ = (({ U with heap := s₂.heap, slotsUsed := s₂.slotsUsed } : State).setVm s₂.vm).setTop { g with pc := g.pc + len₂, stack := v.toList ++ g.stack } := by
      refine e3.trans ?_
      rw [hf₂, State.calling_eq h.top, State.setFrames_setFrames, State.setTop_of_frames _ hr', hr]
      rfl
    have hsame : U.sameButNew ({ U with heap := s₂.heap, slotsUsed := s₂.slotsUsed } : State) L mc ms := by
      refine ⟨?_, q2, q3, q4, q5, q6⟩
      obtain ⟨t, ht, -⟩ := State.frames_cons hr
      show ({ U with heap := s₂.heap, slotsUsed := s₂.slotsUsed } : State) = { U.setFrames U.frames with heap := s₂.heap, slotsUsed := s₂.slotsUsed }
      rw [State.setFrames_self ht]
    subst hg
    refine Or.inl ⟨v, ⟨(({ U with heap := s₂.heap, slotsUsed := s₂.slotsUsed } : State).setVm s₂.vm), Ls ++ L, c0 + mc, s0 + ms⟩,
      ⟨X.admits, X.cas, X.clock, X.frames, X.room, X.hears, X.method, X.code, (X.here.setHeapUsed s₂.heap s₂.slotsUsed).setVm hW'.alike, X.tail, State.WarmedH.trans X.warmed hW', X.limits, X.bytes, X.same.trans (hsame.setVm s.vm)⟩,
      ⟨g, mk, s₂, L, rfl, rfl, hqc, rfl, hL, rfl, rfl⟩, ?_⟩
    show Steps p.tables e below _ ((({ U with heap := s₂.heap, slotsUsed := s₂.slotsUsed } : State).setVm s₂.vm).setTop { g with pc := g.pc + len₂, stack := v.toList ++ g.stack })
    rw [← hs₂]
    exact hsteps
  · obtain ⟨e2, q2, q3, q4, q5, q6⟩ := id hsm
    have e3 : s₂ = ({ (U.calling g mk a).setFrames s₂.frames with heap := s₂.heap, slotsUsed := s₂.slotsUsed } : State).setVm s₂.vm := by
      have : s₂ = ({ s₂ with vm := (U.calling g mk a).vm } : State).setVm s₂.vm := rfl
      rw [e2] at this
      exact this
    have hf₂ : s₂.frames = .throwing q :: .java g :: U.frames.tail := hend
    have hW' : U.WarmedH s₂.vm := hW₂
    have hs₂ : s₂ = ((({ U with heap := s₂.heap, slotsUsed := s₂.slotsUsed } : State).setVm s₂.vm).setTop g).pushFrame (.throwing q) := by
      refine e3.trans ?_
      rw [hf₂, State.calling_eq h.top, State.setFrames_setFrames, State.pushFrame, State.frames_setTop _ hr', State.setTop_of_frames _ hr', State.setFrames_setFrames, hr]
      rfl
    have hsame : U.sameButNew ({ U with heap := s₂.heap, slotsUsed := s₂.slotsUsed } : State) L mc ms := by
      refine ⟨?_, q2, q3, q4, q5, q6⟩
      obtain ⟨t, ht, -⟩ := State.frames_cons hr
      show ({ U with heap := s₂.heap, slotsUsed := s₂.slotsUsed } : State) = { U.setFrames U.frames with heap := s₂.heap, slotsUsed := s₂.slotsUsed }
      rw [State.setFrames_self ht]
    subst hg
    refine Or.inr ⟨q, ⟨(({ U with heap := s₂.heap, slotsUsed := s₂.slotsUsed } : State).setVm s₂.vm), Ls ++ L, c0 + mc, s0 + ms⟩,
      ⟨X.admits, X.cas, X.clock, X.frames, X.room, X.hears, X.method, X.code, (X.here.setHeapUsed s₂.heap s₂.slotsUsed).setVm hW'.alike, X.tail, State.WarmedH.trans X.warmed hW', X.limits, X.bytes, X.same.trans (hsame.setVm s.vm)⟩,
      ⟨g, mk, s₂, L, E, ce, rfl, rfl, hx, hce, hcv, hcl, rfl, hL, rfl, rfl⟩, ?_⟩
    show Steps p.tables e below _ (((({ U with heap := s₂.heap, slotsUsed := s₂.slotsUsed } : State).setVm s₂.vm).setTop g).pushFrame (.throwing q))
    rw [← hs₂]
    exact hsteps
end Payer
section Calls
variable {p : Program} {l : Launch} {e : Env} {R : Room} {s : State} {m : MethodId} {args : Array Value} {below : List Frame} {meth : Method} {c : Code} {T : State} {locs : List Loc} {cells slots : Nat}
theorem vx_callV (X : Stand p l e R s m args below meth c T locs cells slots) (hexec : p.tables.exec = Jvm.exec) {own C : String} {index : Nat} {y : MethodName} {bytes : ByteArray} {maxL : Nat} {ret : Option FieldType}
    (hown : s.vm.findClass own = some m.cls) (hlink : (Cond.methodLink own index y).before args s = true) (hinst : (Cond.instanceMethod y).before args s = true) (hsel : (Cond.selects C y y).before args s = true)
    (hcode : (Cond.code y bytes maxL ret).before args s = true) (hy : y.cls ≠ "java/lang/invoke/MethodHandle" ∧ y.cls ≠ "java/lang/invoke/VarHandle")
    {W9 : Nat} {Pre : Pt → Array Value → Prop} {Post : Pt → Array Value → Option Value → Pt → Prop} {PostX : Pt → Array Value → Addr → Pt → Prop} (hK : vx_Back l R p e below s args y 3 W9 Pre Post PostX)
    {b : Addr} {cellB : Cell} (hcell : T.heap[b]? = some cellB) (hobj : cellB.vm.isStatics = false) (hcls : s.vm.findClass C = some cellB.cls)
    {g : JFrame} (hg : g.method = m) (hsize : g.locals.size = c.maxLocals) {argsL rest : List Value} (hlen : ∀ sig, parseMethodDescriptor y.desc = some sig → argsL.length = sig.parameters.length)
    (hstack : g.stack = argsL.reverse ++ .ref b :: rest) (hW : 2 * g.monitorRoom + (rest.map fun v => v.category).sum ≤ W9) (hdg : decode c.code g.pc = .ok (.invokevirtual index, 3))
    (hpre : ∀ vm₁, s.WarmedH vm₁ → Pre ⟨T.setVm vm₁, locs, cells, slots⟩ (Value.ref b :: argsL).toArray) :
    (∃ (v : Option Value) (vm₁ : Vm) (B : Pt), s.WarmedH vm₁ ∧ Stand p l e R s m args below meth c B.U B.locs B.cells B.slots ∧ Post ⟨T.setVm vm₁, locs, cells, slots⟩ (Value.ref b :: argsL).toArray v B ∧
      ∀ target, Steps p.tables e below (B.U.setTop { g with pc := g.pc + 3, stack := v.toList ++ rest }) target → Steps p.tables e below (T.setTop g) target) ∨
    (∃ (q : Addr) (vm₁ : Vm) (B : Pt), s.WarmedH vm₁ ∧ Stand p l e R s m args below meth c B.U B.locs B.cells B.slots ∧ PostX ⟨T.setVm vm₁, locs, cells, slots⟩ (Value.ref b :: argsL).toArray q B ∧
      Steps p.tables e below (T.setTop g) ((B.U.setTop { g with stack := rest }).pushFrame (.throwing q))) := by
  obtain ⟨mk, methM, hnamed, hmethM, hstM, habM⟩ := Cond.instanceMethod_spec hinst
  obtain ⟨methM', cM, hmethM', -, -, -, -, -, -, hsigM⟩ := Cond.code_spec hnamed hcode
  cases hmethM.symm.trans hmethM'
  obtain ⟨c2, r2, m2, q1, q2, q3, q4, kP, hkP, hkPi⟩ := Cond.selects_spec hsel
  cases hcls.symm.trans q1
  cases (State.methodFound?_of_named hnamed hy).symm.trans q2
  cases hnamed.symm.trans q3
  have hselP : selectMethod e.platform s.vm cellB.cls mk = .method mk := by rw [Launch.admits_selectMethod X.admits]; exact q4
  obtain ⟨vm₁, X₁, hstep₁⟩ := X.invokevirtual hexec hown hlink hnamed hmethM hstM hkP hkPi hy (a := b) (cell := cellB) hcell
    (fun z h => by rw [h] at hobj; cases hobj) hselP hmethM habM hkP hkPi (g := g) hg (argsL := argsL) (rest := rest) (hlen _ hsigM) hstack hdg
  rcases hK m meth c ⟨T.setVm vm₁, locs, cells, slots⟩ { g with stack := rest } (.invokevirtual index) mk (Value.ref b :: argsL).toArray X₁ hg hsize hdg hW (X₁.named hnamed) (hpre vm₁ X₁.warmed) with ⟨v, B, X', hpost, hsteps⟩ | ⟨q, B, X', hpost, hsteps⟩
  · exact Or.inl ⟨v, vm₁, B, X₁.warmed, X', hpost, fun target h => hstep₁ _ fun acts => by rw [doInvoke_state]; exact hsteps.trans h⟩
  · exact Or.inr ⟨q, vm₁, B, X₁.warmed, X', hpost, hstep₁ _ fun acts => by rw [doInvoke_state]; exact hsteps⟩
theorem vx_callS (X : Stand p l e R s m args below meth c T locs cells slots) (hexec : p.tables.exec = Jvm.exec) {own : String} {index : Nat} {y : MethodName} {bytes : ByteArray} {maxL : Nat} {ret : Option FieldType}
    (hown : s.vm.findClass own = some m.cls) (hlink : (Cond.methodLink own index y).before args s = true) (hstat : (Cond.static y).before args s = true) (hinit : (Cond.initialized y.cls).before args s = true)
    (hcode : (Cond.code y bytes maxL ret).before args s = true) (hy : y.cls ≠ "java/lang/invoke/MethodHandle" ∧ y.cls ≠ "java/lang/invoke/VarHandle")
    {W9 : Nat} {Pre : Pt → Array Value → Prop} {Post : Pt → Array Value → Option Value → Pt → Prop} {PostX : Pt → Array Value → Addr → Pt → Prop} (hK : vx_Back l R p e below s args y 3 W9 Pre Post PostX)
    {g : JFrame} (hg : g.method = m) (hsize : g.locals.size = c.maxLocals) {argsL rest : List Value} (hlen : ∀ sig, parseMethodDescriptor y.desc = some sig → argsL.length = sig.parameters.length)
    (hstack : g.stack = argsL.reverse ++ rest) (hW : 2 * g.monitorRoom + (rest.map fun v => v.category).sum ≤ W9) (hdg : decode c.code g.pc = .ok (.invokestatic index, 3))
    (hpre : ∀ vm₁, s.WarmedH vm₁ → Pre ⟨T.setVm vm₁, locs, cells, slots⟩ argsL.toArray) :
    (∃ (v : Option Value) (vm₁ : Vm) (B : Pt), s.WarmedH vm₁ ∧ Stand p l e R s m args below meth c B.U B.locs B.cells B.slots ∧ Post ⟨T.setVm vm₁, locs, cells, slots⟩ argsL.toArray v B ∧
      ∀ target, Steps p.tables e below (B.U.setTop { g with pc := g.pc + 3, stack := v.toList ++ rest }) target → Steps p.tables e below (T.setTop g) target) ∨
    (∃ (q : Addr) (vm₁ : Vm) (B : Pt), s.WarmedH vm₁ ∧ Stand p l e R s m args below meth c B.U B.locs B.cells B.slots ∧ PostX ⟨T.setVm vm₁, locs, cells, slots⟩ argsL.toArray q B ∧
      Steps p.tables e below (T.setTop g) ((B.U.setTop { g with stack := rest }).pushFrame (.throwing q))) := by
  obtain ⟨mk, hnamed⟩ := Cond.code_named hcode
  obtain ⟨methM, cM, hmethM, -, -, -, -, -, -, hsigM⟩ := Cond.code_spec hnamed hcode
  have hstatic : methM.isStatic = true := Cond.static_spec hnamed hmethM hstat
  obtain ⟨kP, hkP, -⟩ := className_of_methodNamed hnamed
  have hinitP : kP.init = .initialized := Cond.initialized_spec (findClass_of_methodNamed hnamed) hkP hinit
  obtain ⟨vm₁, X₁, hstep₁⟩ := X.invokestatic hexec hown hlink hnamed hmethM hstatic hkP hinitP hy (g := g) hg (argsL := argsL) (rest := rest) (hlen _ hsigM) hstack hdg
  rcases hK m meth c ⟨T.setVm vm₁, locs, cells, slots⟩ { g with stack := rest } (.invokestatic index) mk argsL.toArray X₁ hg hsize hdg hW (X₁.named hnamed) (hpre vm₁ X₁.warmed) with ⟨v, B, X', hpost, hsteps⟩ | ⟨q, B, X', hpost, hsteps⟩
  · exact Or.inl ⟨v, vm₁, B, X₁.warmed, X', hpost, fun target h => hstep₁ _ fun acts => by rw [doInvoke_state]; exact hsteps.trans h⟩
  · exact Or.inr ⟨q, vm₁, B, X₁.warmed, X', hpost, hstep₁ _ fun acts => by rw [doInvoke_state]; exact hsteps⟩
end Calls
theorem vx_cls {s : State} {T : State} {vm₁ : Vm} {E : String} {k : ClassId} (hW : s.WarmedH vm₁) (h : (T.setVm vm₁).vm.findClass E = some k) : s.vm.findClass E = some k := by
  have h1 : vm₁.findClass E = some k := h
  rw [hW.alike.findClass] at h1
  exact h1
/-- the method's frame g, with q thrown over it -/
def vx_W (p : Program) (l : Launch) (e : Env) (R : Room) (s : State) (m : MethodId) (args : Array Value) (below : List Frame) (meth : Method) (c : Code) (H : Heap) (locs : List Loc) (cells slots : Nat) (Q : State → Prop) (g : JFrame) (q : Addr) : Prop :=
  ∀ T : State, T.heap = H → Stand p l e R s m args below meth c T locs cells slots → ∃ t, Steps p.tables e below ((T.setTop g).pushFrame (.throwing q)) t ∧ Q t
def vx_Run (p : Program) (l : Launch) (e : Env) (R : Room) (s : State) (m : MethodId) (args : Array Value) (below : List Frame) (meth : Method) (c : Code) (H : Heap) (locs : List Loc) (cells slots mc ms : Nat) (g : JFrame) (rest : List Value) (Qa : State → Outcome → State → Prop) (XC : String → State → State → Prop) (free : Addr → Prop) : Prop :=
  ∀ T : State, T.heap = H → Stand p l e R s m args below meth c T locs cells slots →
    (∃ (v : Option Value) (st₀ t T' : State) (L : List Loc), st₀.heap = H ∧ Stand p l e R s m args below meth c T' (locs ++ L) (cells + mc) (slots + ms) ∧ (∀ q ∈ L, free q.base) ∧ T'.heap = t.heap ∧ T'.vm = t.vm ∧ Qa st₀ (.returned v) t ∧
      Goes p e below T g T' { g with pc := g.pc + 3, stack := v.toList ++ rest }) ∨
    (∃ (q : Addr) (st₀ t T' : State) (L : List Loc) (E : String) (ce : Cell), st₀.heap = H ∧ Stand p l e R s m args below meth c T' (locs ++ L) (cells + mc) (slots + ms) ∧ (∀ z ∈ L, free z.base) ∧ T'.heap = t.heap ∧ T'.vm = t.vm ∧ XC E st₀ t ∧ t.heap[q]? = some ce ∧ ce.vm = .none ∧ s.vm.findClass E = some ce.cls ∧
      Steps p.tables e below (T.setTop g) ((T'.setTop { g with stack := rest }).pushFrame (.throwing q)))
def vx_X {S : Type} (px : S → Prop) (B : String → S → State → Prop) (A : Nat → Prop) : String → State → State → Prop := fun E st t => ∃ u : S, px u ∧ B E u t ∧ va_F A st t
section Runs
variable {p : Program} {l : Launch} {e : Env} {R : Room} {s : State} {m : MethodId} {args : Array Value} {below : List Frame} {meth : Method} {c : Code} {H : Heap} {locs : List Loc} {cells slots : Nat}
variable {y : MethodName} {bytes cc : ByteArray} {maxL nL mc ms n index : Nat} {ret : Option FieldType} {ws : List Cond} {rm : Room} {Pc : Array Value → State → Prop} {Qc : Array Value → State → Outcome → State → Prop} {XC : String → State → State → Prop} {free : Addr → Prop} {Ts : List Cond} {own C : String} {b : Addr} {As rest : List Value} {g : JFrame}
theorem vx_callBack (cb : CallB R s args own index y bytes maxL ret ws rm mc ms n) (hM : vx_Met l y ws rm Pc Qc XC mc ms free) (hbl : FrameBlind Pc) : vx_Back l R p e below s args y 3 8 (PreOf R mc ms Pc) (PostOf Qc mc ms free) (vx_Post XC mc ms free) := by
  obtain ⟨hrc, hrs, hfr, hlo, hws, hcw, -, hini, -⟩ := cb
  exact vx_back (bytes := bytes) (maxL := maxL) (ret := ret) hM hbl hrc hrs hfr hlo hws hcw (fun a' U hW => word_at hW (Or.inl (by first | rfl | simp [Cond.onTables, Cond.keeps, Cond.steady])) hini)
theorem vx_runV (S : CallFix p m c cc nL s args Ts own) (hM : vx_Met l y ws rm Pc Qc XC mc ms free) (cw : CallW R s args own C index y bytes maxL ret ws rm mc ms n) (hp : PreV s H C b Pc As)
    (hg : g.method = m) (hn : As.length = n) (hsize : g.locals.size = nL) (hstack : g.stack = As.reverse ++ .ref b :: rest) (hW : 2 * g.monitorRoom + (rest.map fun v => v.category).sum ≤ 8) (hdg : decode cc g.pc = .ok (.invokevirtual index, 3)) (hf : cells + mc ≤ R.cells ∧ slots + ms ≤ R.slots) :
    vx_Run p l e R s m args below meth c H locs cells slots mc ms g rest (Qc (Value.ref b :: As).toArray) XC free := by
  have hK : vx_Back l R p e below s args y 3 8 (PreOf R mc ms Pc) (PostOf Qc mc ms free) (vx_Post XC mc ms free) := vx_callBack cw.1 hM hp.1
  obtain ⟨⟨-, -, -, -, -, -, hcode, -, hy, hlen, hl⟩, hin, hse⟩ := cw
  obtain ⟨hx, hb, hml, ho, -⟩ := S
  obtain ⟨-, ⟨cellB, hcB, hoB, hclB⟩, hPc⟩ := hp
  intro T hT X
  rcases vx_callV X hx (C := C) (bytes := bytes) (maxL := maxL) (ret := ret) ho hl hin hse hcode hy hK (by rw [hT]; exact hcB) hoB hclB hg (hsize.trans hml.symm) (argsL := As) (rest := rest) (fun sig h => hn.trans (hlen sig h)) hstack hW (by rw [hb]; exact hdg)
    (fun vm₁ hW₁ => ⟨hf.1, hf.2, hPc (T.setVm vm₁) hT hW₁⟩) with ⟨v, vm₁, ⟨U', l2, c2, s2⟩, hW₁, X', ⟨g', mk, t, L, e1, e2, hq, h1, hL, h2, h3⟩, st⟩ | ⟨q, vm₁, ⟨U', l2, c2, s2⟩, hW₁, X', ⟨g', mk, t, L, E, ce, e1, e2, hq, hce, hcv, hcl, h1, hL, h2, h3⟩, st⟩
  · dsimp only [Pt.U, Pt.locs, Pt.cells, Pt.slots] at X' e1 e2 h1 h2 h3 st
    subst h1; subst h2; subst h3
    exact Or.inl ⟨v, (T.setVm vm₁).calling g' mk (Value.ref b :: As).toArray, t, U', L, hT, X', hL, e1, e2, hq, st⟩
  · dsimp only [Pt.U, Pt.locs, Pt.cells, Pt.slots] at X' e1 e2 h1 h2 h3 st hcl
    subst h1; subst h2; subst h3
    exact Or.inr ⟨q, (T.setVm vm₁).calling g' mk (Value.ref b :: As).toArray, t, U', L, E, ce, hT, X', hL, e1, e2, hq, hce, hcv, vx_cls hW₁ hcl, st⟩
theorem vx_runS (S : CallFix p m c cc nL s args Ts own) (hM : vx_Met l y ws rm Pc Qc XC mc ms free) (cw : CallB R s args own index y bytes maxL ret ws rm mc ms n ∧ (Cond.static y).before args s = true) (hp : PreS s H Pc As)
    (hg : g.method = m) (hn : As.length = n) (hsize : g.locals.size = nL) (hstack : g.stack = As.reverse ++ rest) (hW : 2 * g.monitorRoom + (rest.map fun v => v.category).sum ≤ 8) (hdg : decode cc g.pc = .ok (.invokestatic index, 3)) (hf : cells + mc ≤ R.cells ∧ slots + ms ≤ R.slots) :
    vx_Run p l e R s m args below meth c H locs cells slots mc ms g rest (Qc As.toArray) XC free := by
  have hK : vx_Back l R p e below s args y 3 8 (PreOf R mc ms Pc) (PostOf Qc mc ms free) (vx_Post XC mc ms free) := vx_callBack cw.1 hM hp.1
  obtain ⟨⟨-, -, -, -, -, -, hcode, hini, hy, hlen, hl⟩, hstt⟩ := cw
  obtain ⟨hx, hb, hml, ho, -⟩ := S
  intro T hT X
  rcases vx_callS X hx (bytes := bytes) (maxL := maxL) (ret := ret) ho hl hstt hini hcode hy hK hg (hsize.trans hml.symm) (argsL := As) (rest := rest) (fun sig h => hn.trans (hlen sig h)) hstack hW (by rw [hb]; exact hdg)
    (fun vm₁ hW₁ => ⟨hf.1, hf.2, hp.2 (T.setVm vm₁) hT hW₁⟩) with ⟨v, vm₁, ⟨U', l2, c2, s2⟩, hW₁, X', ⟨g', mk, t, L, e1, e2, hq, h1, hL, h2, h3⟩, st⟩ | ⟨q, vm₁, ⟨U', l2, c2, s2⟩, hW₁, X', ⟨g', mk, t, L, E, ce, e1, e2, hq, hce, hcv, hcl, h1, hL, h2, h3⟩, st⟩
  · dsimp only [Pt.U, Pt.locs, Pt.cells, Pt.slots] at X' e1 e2 h1 h2 h3 st
    subst h1; subst h2; subst h3
    exact Or.inl ⟨v, (T.setVm vm₁).calling g' mk As.toArray, t, U', L, hT, X', hL, e1, e2, hq, st⟩
  · dsimp only [Pt.U, Pt.locs, Pt.cells, Pt.slots] at X' e1 e2 h1 h2 h3 st hcl
    subst h1; subst h2; subst h3
    exact Or.inr ⟨q, (T.setVm vm₁).calling g' mk As.toArray, t, U', L, E, ce, hT, X', hL, e1, e2, hq, hce, hcv, vx_cls hW₁ hcl, st⟩
end Runs
section Rows
variable {p : Program} {l : Launch} {e : Env} {R : Room} {s : State} {m : MethodId} {args : Array Value} {below : List Frame} {meth : Method} {c : Code} {H : Heap} {locs : List Loc} {cells slots : Nat} {Q : State → Prop}
variable {mc ms : Nat} {free : Addr → Prop} {A0 A1 : Nat → Prop} {H0 : Heap} {a : Array Value} {pc : Nat} {ls : Array Slot} {st0 rest : List Value}
theorem vx_keep {st₀ t T' : State} {L : List Loc} (h0 : st₀.heap = H) (e1 : T'.heap = t.heap) (hS : va_S A0 H0 H locs) (hA : ∀ q, q < H.size → A1 q → A0 q) (hf : ∀ q, free q → A0 q) (hL : ∀ q ∈ L, free q.base) (hF : va_F A1 st₀ t) :
    H.size ≤ T'.heap.size ∧ (∀ q : Nat, q < H.size → ¬ A1 q → T'.heap[q]? = H[q]?) ∧ va_S A0 H0 T'.heap (locs ++ L) := by
  obtain ⟨hz, hk⟩ := hF
  rw [h0] at hz hk
  exact ⟨by rw [e1]; exact hz, fun q h1 h2 => by rw [e1]; exact hk q h1 h2,
    ⟨Nat.le_trans hS.1 (by rw [e1]; exact hz), fun q h1 h2 => by rw [e1, hk q (Nat.lt_of_lt_of_le h1 hS.1) (fun z => h2 (hA q (Nat.lt_of_lt_of_le h1 hS.1) z))]; exact hS.2.1 q h1 h2, fun q hq => by
      rcases List.mem_append.mp hq with h | h
      · exact hS.2.2 q h
      · exact hf _ (hL q h)⟩⟩
theorem vx_calli {S SX : Type} {post : Int32 → S → Prop} {px : SX → Prop} {B : S → State → Prop} {BX : String → SX → State → Prop} {AX : Nat → Prop} (hr : vx_Run p l e R s m args below meth c H locs cells slots mc ms (F0 m pc ls st0) rest (va_Qi post B A1 a) (vx_X px BX AX) free) (hS : va_S A0 H0 H locs) (hA : ∀ q, q < H.size → A1 q → A0 q) (hf : ∀ q, free q → A0 q) (hAX : ∀ q, q < H.size → AX q → A0 q)
    (kx : ∀ (E : String) (ce : Cell) (q9 : Addr) (u : SX) (t : State) (H1 : Heap) (locs1 : List Loc), t.heap = H1 → s.vm.Alike t.vm → px u → BX E u t → H.size ≤ H1.size → (∀ q : Nat, q < H.size → ¬ AX q → H1[q]? = H[q]?) → va_S A0 H0 H1 locs1 → H1[q9]? = some ce → ce.vm = .none → s.vm.findClass E = some ce.cls → vx_W p l e R s m args below meth c H1 locs1 (cells + mc) (slots + ms) Q (F0 m pc ls rest) q9)
    (kk : ∀ (r : Int32) (u : S) (t : State) (H1 : Heap) (locs1 : List Loc), t.heap = H1 → s.vm.Alike t.vm → post r u → B u t → H.size ≤ H1.size → (∀ q : Nat, q < H.size → ¬ A1 q → H1[q]? = H[q]?) → va_S A0 H0 H1 locs1 → W p l e R s m args below meth c H1 locs1 (cells + mc) (slots + ms) Q (F0 m (pc + 3) ls (.int r :: rest))) : W p l e R s m args below meth c H locs cells slots Q (F0 m pc ls st0) := by
  intro T hT X
  rcases hr T hT X with ⟨v, st₀, t, T', L, h0, X', hL, e1, e2, ⟨⟨r, u, hv, hp, hb⟩, hF⟩, st⟩ | ⟨q, st₀, t, T', L, E, ce, h0, X', hL, e1, e2, ⟨u, hp, hb, hF⟩, hce, hcv, hcl, st⟩
  · cases hv
    obtain ⟨k1, k2, k3⟩ := vx_keep h0 e1 hS hA hf hL hF
    obtain ⟨t2, a1, b1⟩ := kk r u t T'.heap (locs ++ L) e1.symm (by rw [← e2]; exact X'.warmed.alike) hp hb k1 k2 k3 T' rfl X'
    exact ⟨t2, st t2 a1, b1⟩
  · obtain ⟨k1, k2, k3⟩ := vx_keep h0 e1 hS hAX hf hL hF
    obtain ⟨t2, a1, b1⟩ := kx E ce q u t T'.heap (locs ++ L) e1.symm (by rw [← e2]; exact X'.warmed.alike) hp hb k1 k2 k3 (by rw [e1]; exact hce) hcv hcl T' rfl X'
    exact ⟨t2, st.trans a1, b1⟩
theorem vx_calll {S SX : Type} {post : Int64 → S → Prop} {px : SX → Prop} {B : S → State → Prop} {BX : String → SX → State → Prop} {AX : Nat → Prop} (hr : vx_Run p l e R s m args below meth c H locs cells slots mc ms (F0 m pc ls st0) rest (va_Ql post B A1 a) (vx_X px BX AX) free) (hS : va_S A0 H0 H locs) (hA : ∀ q, q < H.size → A1 q → A0 q) (hf : ∀ q, free q → A0 q) (hAX : ∀ q, q < H.size → AX q → A0 q)
    (kx : ∀ (E : String) (ce : Cell) (q9 : Addr) (u : SX) (t : State) (H1 : Heap) (locs1 : List Loc), t.heap = H1 → s.vm.Alike t.vm → px u → BX E u t → H.size ≤ H1.size → (∀ q : Nat, q < H.size → ¬ AX q → H1[q]? = H[q]?) → va_S A0 H0 H1 locs1 → H1[q9]? = some ce → ce.vm = .none → s.vm.findClass E = some ce.cls → vx_W p l e R s m args below meth c H1 locs1 (cells + mc) (slots + ms) Q (F0 m pc ls rest) q9)
    (kk : ∀ (r : Int64) (u : S) (t : State) (H1 : Heap) (locs1 : List Loc), t.heap = H1 → s.vm.Alike t.vm → post r u → B u t → H.size ≤ H1.size → (∀ q : Nat, q < H.size → ¬ A1 q → H1[q]? = H[q]?) → va_S A0 H0 H1 locs1 → W p l e R s m args below meth c H1 locs1 (cells + mc) (slots + ms) Q (F0 m (pc + 3) ls (.long r :: rest))) : W p l e R s m args below meth c H locs cells slots Q (F0 m pc ls st0) := by
  intro T hT X
  rcases hr T hT X with ⟨v, st₀, t, T', L, h0, X', hL, e1, e2, ⟨⟨r, u, hv, hp, hb⟩, hF⟩, st⟩ | ⟨q, st₀, t, T', L, E, ce, h0, X', hL, e1, e2, ⟨u, hp, hb, hF⟩, hce, hcv, hcl, st⟩
  · cases hv
    obtain ⟨k1, k2, k3⟩ := vx_keep h0 e1 hS hA hf hL hF
    obtain ⟨t2, a1, b1⟩ := kk r u t T'.heap (locs ++ L) e1.symm (by rw [← e2]; exact X'.warmed.alike) hp hb k1 k2 k3 T' rfl X'
    exact ⟨t2, st t2 a1, b1⟩
  · obtain ⟨k1, k2, k3⟩ := vx_keep h0 e1 hS hAX hf hL hF
    obtain ⟨t2, a1, b1⟩ := kx E ce q u t T'.heap (locs ++ L) e1.symm (by rw [← e2]; exact X'.warmed.alike) hp hb k1 k2 k3 (by rw [e1]; exact hce) hcv hcl T' rfl X'
    exact ⟨t2, st.trans a1, b1⟩
theorem vx_callf {S SX : Type} {post : UInt32 → S → Prop} {px : SX → Prop} {B : S → State → Prop} {BX : String → SX → State → Prop} {AX : Nat → Prop} (hr : vx_Run p l e R s m args below meth c H locs cells slots mc ms (F0 m pc ls st0) rest (va_Qf post B A1 a) (vx_X px BX AX) free) (hS : va_S A0 H0 H locs) (hA : ∀ q, q < H.size → A1 q → A0 q) (hf : ∀ q, free q → A0 q) (hAX : ∀ q, q < H.size → AX q → A0 q)
    (kx : ∀ (E : String) (ce : Cell) (q9 : Addr) (u : SX) (t : State) (H1 : Heap) (locs1 : List Loc), t.heap = H1 → s.vm.Alike t.vm → px u → BX E u t → H.size ≤ H1.size → (∀ q : Nat, q < H.size → ¬ AX q → H1[q]? = H[q]?) → va_S A0 H0 H1 locs1 → H1[q9]? = some ce → ce.vm = .none → s.vm.findClass E = some ce.cls → vx_W p l e R s m args below meth c H1 locs1 (cells + mc) (slots + ms) Q (F0 m pc ls rest) q9)
    (kk : ∀ (r : UInt32) (u : S) (t : State) (H1 : Heap) (locs1 : List Loc), t.heap = H1 → s.vm.Alike t.vm → post r u → B u t → H.size ≤ H1.size → (∀ q : Nat, q < H.size → ¬ A1 q → H1[q]? = H[q]?) → va_S A0 H0 H1 locs1 → W p l e R s m args below meth c H1 locs1 (cells + mc) (slots + ms) Q (F0 m (pc + 3) ls (.float r :: rest))) : W p l e R s m args below meth c H locs cells slots Q (F0 m pc ls st0) := by
  intro T hT X
  rcases hr T hT X with ⟨v, st₀, t, T', L, h0, X', hL, e1, e2, ⟨⟨r, u, hv, hp, hb⟩, hF⟩, st⟩ | ⟨q, st₀, t, T', L, E, ce, h0, X', hL, e1, e2, ⟨u, hp, hb, hF⟩, hce, hcv, hcl, st⟩
  · cases hv
    obtain ⟨k1, k2, k3⟩ := vx_keep h0 e1 hS hA hf hL hF
    obtain ⟨t2, a1, b1⟩ := kk r u t T'.heap (locs ++ L) e1.symm (by rw [← e2]; exact X'.warmed.alike) hp hb k1 k2 k3 T' rfl X'
    exact ⟨t2, st t2 a1, b1⟩
  · obtain ⟨k1, k2, k3⟩ := vx_keep h0 e1 hS hAX hf hL hF
    obtain ⟨t2, a1, b1⟩ := kx E ce q u t T'.heap (locs ++ L) e1.symm (by rw [← e2]; exact X'.warmed.alike) hp hb k1 k2 k3 (by rw [e1]; exact hce) hcv hcl T' rfl X'
    exact ⟨t2, st.trans a1, b1⟩
theorem vx_calld {S SX : Type} {post : UInt64 → S → Prop} {px : SX → Prop} {B : S → State → Prop} {BX : String → SX → State → Prop} {AX : Nat → Prop} (hr : vx_Run p l e R s m args below meth c H locs cells slots mc ms (F0 m pc ls st0) rest (va_Qd post B A1 a) (vx_X px BX AX) free) (hS : va_S A0 H0 H locs) (hA : ∀ q, q < H.size → A1 q → A0 q) (hf : ∀ q, free q → A0 q) (hAX : ∀ q, q < H.size → AX q → A0 q)
    (kx : ∀ (E : String) (ce : Cell) (q9 : Addr) (u : SX) (t : State) (H1 : Heap) (locs1 : List Loc), t.heap = H1 → s.vm.Alike t.vm → px u → BX E u t → H.size ≤ H1.size → (∀ q : Nat, q < H.size → ¬ AX q → H1[q]? = H[q]?) → va_S A0 H0 H1 locs1 → H1[q9]? = some ce → ce.vm = .none → s.vm.findClass E = some ce.cls → vx_W p l e R s m args below meth c H1 locs1 (cells + mc) (slots + ms) Q (F0 m pc ls rest) q9)
    (kk : ∀ (r : UInt64) (u : S) (t : State) (H1 : Heap) (locs1 : List Loc), t.heap = H1 → s.vm.Alike t.vm → post r u → B u t → H.size ≤ H1.size → (∀ q : Nat, q < H.size → ¬ A1 q → H1[q]? = H[q]?) → va_S A0 H0 H1 locs1 → W p l e R s m args below meth c H1 locs1 (cells + mc) (slots + ms) Q (F0 m (pc + 3) ls (.double r :: rest))) : W p l e R s m args below meth c H locs cells slots Q (F0 m pc ls st0) := by
  intro T hT X
  rcases hr T hT X with ⟨v, st₀, t, T', L, h0, X', hL, e1, e2, ⟨⟨r, u, hv, hp, hb⟩, hF⟩, st⟩ | ⟨q, st₀, t, T', L, E, ce, h0, X', hL, e1, e2, ⟨u, hp, hb, hF⟩, hce, hcv, hcl, st⟩
  · cases hv
    obtain ⟨k1, k2, k3⟩ := vx_keep h0 e1 hS hA hf hL hF
    obtain ⟨t2, a1, b1⟩ := kk r u t T'.heap (locs ++ L) e1.symm (by rw [← e2]; exact X'.warmed.alike) hp hb k1 k2 k3 T' rfl X'
    exact ⟨t2, st t2 a1, b1⟩
  · obtain ⟨k1, k2, k3⟩ := vx_keep h0 e1 hS hAX hf hL hF
    obtain ⟨t2, a1, b1⟩ := kx E ce q u t T'.heap (locs ++ L) e1.symm (by rw [← e2]; exact X'.warmed.alike) hp hb k1 k2 k3 (by rw [e1]; exact hce) hcv hcl T' rfl X'
    exact ⟨t2, st.trans a1, b1⟩
theorem vx_callv {S SX : Type} {post : S → Prop} {px : SX → Prop} {B : S → State → Prop} {BX : String → SX → State → Prop} {AX : Nat → Prop} (hr : vx_Run p l e R s m args below meth c H locs cells slots mc ms (F0 m pc ls st0) rest (va_Qv post B A1 a) (vx_X px BX AX) free) (hS : va_S A0 H0 H locs) (hA : ∀ q, q < H.size → A1 q → A0 q) (hf : ∀ q, free q → A0 q) (hAX : ∀ q, q < H.size → AX q → A0 q)
    (kx : ∀ (E : String) (ce : Cell) (q9 : Addr) (u : SX) (t : State) (H1 : Heap) (locs1 : List Loc), t.heap = H1 → s.vm.Alike t.vm → px u → BX E u t → H.size ≤ H1.size → (∀ q : Nat, q < H.size → ¬ AX q → H1[q]? = H[q]?) → va_S A0 H0 H1 locs1 → H1[q9]? = some ce → ce.vm = .none → s.vm.findClass E = some ce.cls → vx_W p l e R s m args below meth c H1 locs1 (cells + mc) (slots + ms) Q (F0 m pc ls rest) q9)
    (kk : ∀ (u : S) (t : State) (H1 : Heap) (locs1 : List Loc), t.heap = H1 → s.vm.Alike t.vm → post u → B u t → H.size ≤ H1.size → (∀ q : Nat, q < H.size → ¬ A1 q → H1[q]? = H[q]?) → va_S A0 H0 H1 locs1 → W p l e R s m args below meth c H1 locs1 (cells + mc) (slots + ms) Q (F0 m (pc + 3) ls (rest))) : W p l e R s m args below meth c H locs cells slots Q (F0 m pc ls st0) := by
  intro T hT X
  rcases hr T hT X with ⟨v, st₀, t, T', L, h0, X', hL, e1, e2, ⟨⟨u, hv, hp, hb⟩, hF⟩, st⟩ | ⟨q, st₀, t, T', L, E, ce, h0, X', hL, e1, e2, ⟨u, hp, hb, hF⟩, hce, hcv, hcl, st⟩
  · cases hv
    obtain ⟨k1, k2, k3⟩ := vx_keep h0 e1 hS hA hf hL hF
    obtain ⟨t2, a1, b1⟩ := kk u t T'.heap (locs ++ L) e1.symm (by rw [← e2]; exact X'.warmed.alike) hp hb k1 k2 k3 T' rfl X'
    exact ⟨t2, st t2 a1, b1⟩
  · obtain ⟨k1, k2, k3⟩ := vx_keep h0 e1 hS hAX hf hL hF
    obtain ⟨t2, a1, b1⟩ := kx E ce q u t T'.heap (locs ++ L) e1.symm (by rw [← e2]; exact X'.warmed.alike) hp hb k1 k2 k3 (by rw [e1]; exact hce) hcv hcl T' rfl X'
    exact ⟨t2, st.trans a1, b1⟩
/-- caught by the row x of this method's table; the rows ahead don't take it -/
theorem vx_catch {own name : String} {E : String} {ce : Cell} {q : Addr} (hown : s.vm.findClass own = some m.cls) (pre : List ExceptionTableEntry) (x : ExceptionTableEntry) (suf : List ExceptionTableEntry) (hsplit : c.exceptionTable.toList = pre ++ x :: suf)
    (hpass : ∀ z ∈ pre, covers z pc = false ∨ (z.catchType ≠ 0 ∧ ∃ nm : String, (Cond.classLink own z.catchType nm).before args s = true ∧ va_Nc E nm s)) (hx : covers x pc = true) (h0 : x.catchType ≠ 0)
    (hlink : (Cond.classLink own x.catchType name).before args s = true) (hcast : (Cond.castable E name).before args s = true) (hcell : H[q]? = some ce) (hv : ce.vm = .none) (hcl : s.vm.findClass E = some ce.cls)
    (kk : W p l e R s m args below meth c H locs cells slots Q (F0 m x.handlerPc ls [.ref q])) : vx_W p l e R s m args below meth c H locs cells slots Q (F0 m pc ls rest) q := by
  intro T hT X
  have hpl : e.platform.magicAccessors = ({} : Platform).magicAccessors := by rw [X.admits.platform]
  obtain ⟨c3, c4, hc3, hc4, hasg⟩ := Cond.castable_spec hcast
  cases Option.some.inj (hc3.symm.trans hcl)
  obtain ⟨c5, hc5, hcl5⟩ := Cond.classLink_spec hown hlink e.platform hpl
  cases Option.some.inj (hc4.symm.trans hc5)
  obtain ⟨vm', X', st⟩ := X.thenCaughtThrough q (g := F0 m pc ls rest) rfl (Steps.refl _) (by rw [hT]; exact hcell) (by rw [hv]; rfl) (by obtain ⟨k9, h9, -⟩ := Vm.findClass_spec hcl; exact ⟨k9, h9⟩) pre x suf hsplit
    (fun z hz => by
      rcases hpass z hz with h | ⟨hz0, nm, hl1, hn1⟩
      · exact Or.inl h
      · obtain ⟨c6, hc6, hcl6⟩ := Cond.classLink_spec hown hl1 e.platform hpl
        obtain ⟨a8, b8, h1, h2, h3⟩ := hn1
        cases Option.some.inj (h1.symm.trans hcl)
        cases Option.some.inj (h2.symm.trans hc6)
        exact Or.inr ⟨hz0, _, hcl6, h3⟩) hx (Or.inr ⟨h0, c4, hcl5, hasg⟩)
  obtain ⟨t, a1, b1⟩ := kk (T.setVm vm') hT X'
  exact ⟨t, st.trans a1, b1⟩
end Rows
section Ends
variable {p : Program} {l : Launch} {e : Env} {R : Room} {s : State} {m : MethodId} {args : Array Value} {below : List Frame} {meth : Method} {c : Code} {H : Heap} {locs : List Loc} {cells slots : Nat} {Q : State → Prop}
variable {mc ms : Nat} {free : Addr → Prop} {A0 A1 : Nat → Prop} {H0 : Heap} {a : Array Value} {ls : Array Slot} {st0 rest : List Value}
variable {Qc : Array Value → State → Outcome → State → Prop} {XC : String → State → State → Prop}
/-- what a body that may throw owes at its end -/
def vx_MQ (below : List Frame) (Qc : Array Value → State → Outcome → State → Prop) (XC : String → State → State → Prop) (a : Array Value) (s : State) (mc ms : Nat) (free : Addr → Prop) : State → Prop := fun t =>
  ∃ o, t.status = .running ∧ Ended t below o ∧ vx_Q Qc XC mc ms free a s o t
theorem vx_ret {g : JFrame} {mc ms : Nat} (k : W p l e R s m args below meth c H locs cells slots (MQ below Qc args s mc ms free) g) : W p l e R s m args below meth c H locs cells slots (vx_MQ below Qc XC args s mc ms free) g := by
  intro T hT X
  obtain ⟨t, a1, o, b1, b2, b3, b4⟩ := k T hT X
  exact ⟨t, a1, o, b1, b2, Or.inl ⟨b3, b4⟩⟩
/-- not caught here: it goes on to the caller -/
theorem vx_widen {g : JFrame} {q : Addr} {k n : Nat} (h1 : cells ≤ k) (h2 : slots ≤ n) (kk : vx_W p l e R s m args below meth c H locs k n Q g q) : vx_W p l e R s m args below meth c H locs cells slots Q g q := fun T hT X => kk T hT (stand_widen X h1 h2)
theorem vx_out {pc : Nat} {E : String} {ce : Cell} {q : Addr} {mc ms : Nat} (hout : ∀ x ∈ c.exceptionTable.toList, covers x pc = false) (hlocks : meth.locks = false) (hcell : H[q]? = some ce) (hv : ce.vm = .none) (hcl : s.vm.findClass E = some ce.cls)
    (hx : ∀ t : State, t.heap = H → s.vm.Alike t.vm → XC E s t) (hf : ∀ z ∈ locs, free z.base) (hc : cells ≤ mc) (hs : slots ≤ ms) :
    vx_W p l e R s m args below meth c H locs cells slots (vx_MQ below Qc XC args s mc ms free) (F0 m pc ls rest) q := by
  intro T hT X
  obtain ⟨st1, hrun, hend, hW, hsm⟩ := X.leaveThrown q (g := F0 m pc ls rest) rfl rfl rfl hout hlocks
  have hcell9 : (T.setFrames (.throwing q :: below)).heap[q]? = some ce := by
    show T.heap[q]? = some ce
    rw [hT]; exact hcell
  exact ⟨_, st1, .threw q, hrun, hend, Or.inr ⟨q, rfl, E, ce, locs, hx _ hT hW.alike, hcell9, hv, hcl, hW, hsm.mono hc hs, hf⟩⟩
theorem vx_frame {U : State} {k n : Nat} (h : s.sameButNew ({ U with vm := s.vm } : State) locs k n) : s.heap.size ≤ U.heap.size ∧ ∀ q : Nat, q < s.heap.size → (∀ z ∈ locs, z.base ≠ q) → U.heap[q]? = s.heap[q]? := by
  obtain ⟨-, h2, -, -, -, h6⟩ := h
  refine ⟨h2, fun q hq hz => ?_⟩
  obtain ⟨c9, e1, e2, e3, e4⟩ := h6 q _ (Array.getElem?_eq_getElem hq)
  have hs : c9.slots = (s.heap[q]).slots := Array.ext_getElem? fun i => e4 i fun hm => hz _ hm rfl
  have h9 : c9 = s.heap[q] := by
    rw [hs] at e2
    exact e2
  have e5 : U.heap[q]? = some c9 := e1
  rw [e5, h9, Array.getElem?_eq_getElem hq]
/-- the words of a throw but the four that speak of the heap -/
def vx_no (w : Cond) : Bool := decide (w ≠ .isRef (.static Bundle.tN "UNASSIGNED_STACK" Bundle.steD)) && decide (w ≠ .isRef (.static Bundle.tN "SUPPRESSED_SENTINEL" Bundle.listD)) && decide (w ≠ .laysStatic Bundle.tN "UNASSIGNED_STACK" Bundle.steD) && decide (w ≠ .laysStatic Bundle.tN "SUPPRESSED_SENTINEL" Bundle.listD)
def vx_at0 (own : String) (ic : Nat) (X : String) (names : List String) : List Cond := (Bundle.ownAtoms0 own ic X names).filter vx_no
def vx_atS (own : String) (ic : Nat) (X : String) (names : List String) : List Cond := (Bundle.ownAtoms own ic X names).filter vx_no
/-- a word that the tables alone decide, or a good one -/
def vx_ot (w : Cond) : Bool := w.onTables || goodWord w
theorem vx_ot_at {args a' : Array Value} {s U : State} {w : Cond} (hW : s.WarmedH U.vm) (hvm : s.vm = U.vm) (hg : vx_ot w = true) (h : w.before args s = true) : w.before a' U = true := by
  simp only [vx_ot, Bool.or_eq_true] at hg
  rcases hg with hg | hg
  · exact va_tabs hg hvm h
  · exact word_at hW (good_of_word hg) h
/-- a list's words: the good ones out of the method's own list, the others by premises of their own -/
theorem vx_hat {args : Array Value} {s : State} {L B : List Cond} (h1 : ∀ w ∈ L.filter goodWord, w.before args s = true) (h2 : ∀ w ∈ L.filter (fun w => !goodWord w), w ∈ B) (h3 : ∀ w ∈ B, w.before args s = true) : ∀ w ∈ L, w.before args s = true := by
  intro w hw
  by_cases g : goodWord w = true
  · exact h1 w (List.mem_filter.mpr ⟨hw, g⟩)
  · refine h3 w (h2 w (List.mem_filter.mpr ⟨hw, ?_⟩))
    show (!goodWord w) = true
    cases hgw : goodWord w
    · rfl
    · exact absurd hgw g
theorem vx_c {args : Array Value} {s : State} {w : Cond} {B : List Cond} (h : w.before args s = true) (t : ∀ w ∈ B, w.before args s = true) : ∀ w' ∈ w :: B, w'.before args s = true := fun w' h' => (List.mem_cons.mp h').elim (fun e => by rw [e]; exact h) (t w')
theorem vx_n {args : Array Value} {s : State} : ∀ w ∈ ([] : List Cond), w.before args s = true := fun _ h => nomatch h
theorem vx_own {args : Array Value} {s : State} {L : List Cond} (h1 : ∀ w ∈ L.filter vx_no, w.before args s = true)
    (hU : (Cond.isRef (.static Bundle.tN "UNASSIGNED_STACK" Bundle.steD)).before args s = true) (hN : (Cond.isRef (.static Bundle.tN "SUPPRESSED_SENTINEL" Bundle.listD)).before args s = true)
    (lU : (Cond.laysStatic Bundle.tN "UNASSIGNED_STACK" Bundle.steD).before args s = true) (lN : (Cond.laysStatic Bundle.tN "SUPPRESSED_SENTINEL" Bundle.listD).before args s = true) : ∀ w ∈ L, w.before args s = true := by
  intro w hw
  by_cases e1 : w = .isRef (.static Bundle.tN "UNASSIGNED_STACK" Bundle.steD)
  · rw [e1]; exact hU
  · by_cases e2 : w = .isRef (.static Bundle.tN "SUPPRESSED_SENTINEL" Bundle.listD)
    · rw [e2]; exact hN
    · by_cases e3 : w = .laysStatic Bundle.tN "UNASSIGNED_STACK" Bundle.steD
      · rw [e3]; exact lU
      · by_cases e4 : w = .laysStatic Bundle.tN "SUPPRESSED_SENTINEL" Bundle.listD
        · rw [e4]; exact lN
        · exact h1 w (List.mem_filter.mpr ⟨hw, by unfold vx_no; rw [decide_eq_true e1, decide_eq_true e2, decide_eq_true e3, decide_eq_true e4]; rfl⟩)
/-- where a static field lies, its class's statics cell in H -/
def vx_L (C n d : String) (A : Nat → Prop) (U : State) (H : Heap) : Prop := ∃ (c : ClassId) (k : Class) (i : Nat) (f : Field) (a : Nat) (cell : Cell), U.vm.findClass C = some c ∧ U.fieldFound? C n d = some (c, k, i, f) ∧ f.isStatic = true ∧ k.statics = some a ∧ H[a]? = some cell ∧ cell.vm.isStatics = true ∧ cell.cls = c ∧ f.slot < cell.slots.size ∧ k.staticTypes[f.slot]? = some f.type ∧ ¬ A a
theorem vx_L.moved {C n d : String} {A : Nat → Prop} {u U : State} {H : Heap} (hvm : u.vm.Alike U.vm) (h : vx_L C n d A u H) : vx_L C n d A U H := by
  obtain ⟨c, k, i, f, a, cell, h1, h2, h3, h4, h5, h6, h7, h8, h9, h10⟩ := h
  obtain ⟨k', hi', he⟩ := State.fieldFound?_setVm hvm h2
  exact ⟨c, k', i, f, a, cell, by rw [hvm.findClass]; exact h1, hi', h3, by rw [he]; exact h4, h5, h6, h7, h8, by rw [he]; exact h9, h10⟩
theorem vx_L.kept {C n d : String} {A : Nat → Prop} {U : State} {H H1 : Heap} (h : vx_L C n d A U H) (hq : ∀ a : Nat, a < H.size → ¬ A a → H1[a]? = H[a]?) : vx_L C n d A U H1 := by
  obtain ⟨c, k, i, f, a, cell, h1, h2, h3, h4, h5, h6, h7, h8, h9, h10⟩ := h
  exact ⟨c, k, i, f, a, cell, h1, h2, h3, h4, by rw [hq a (Array.getElem?_eq_some_iff.mp h5).1 h10]; exact h5, h6, h7, h8, h9, h10⟩
theorem vx_L.narrow {C n d : String} {A B : Nat → Prop} {U : State} {H : Heap} (h : vx_L C n d A U H) (hAB : ∀ q, B q → A q) : vx_L C n d B U H := by
  obtain ⟨c, k, i, f, a, cell, h1, h2, h3, h4, h5, h6, h7, h8, h9, h10⟩ := h
  exact ⟨c, k, i, f, a, cell, h1, h2, h3, h4, h5, h6, h7, h8, h9, fun z => h10 (hAB _ z)⟩
theorem vx_L.word {C n d : String} {A : Nat → Prop} {s : State} {args : Array Value} (h : vx_L C n d A s s.heap) : (Cond.laysStatic C n d).before args s = true := by
  obtain ⟨c, k, i, f, a, cell, h1, h2, h3, h4, h5, h6, h7, h8, h9, -⟩ := h
  show (Cond.laysStatic C n d).holds args s none s [] = true
  exact Cond.laysStatic_of h1 h2 h3 h4 h5 h6 h7 h8 h9
/-- .. and what it holds: null or some reference -/
def vx_Zq (C n d : String) (A : Nat → Prop) (U : State) (H : Heap) : Prop := va_Zq C n d A U H ∧ vx_L C n d A U H
theorem vx_Zq.moved {C n d : String} {A : Nat → Prop} {u U : State} {H : Heap} (hvm : u.vm.Alike U.vm) (h : vx_Zq C n d A u H) : vx_Zq C n d A U H := ⟨va_Zq.moved hvm h.1, vx_L.moved hvm h.2⟩
theorem vx_Zq.kept {C n d : String} {A : Nat → Prop} {U : State} {H H1 : Heap} (h : vx_Zq C n d A U H) (hq : ∀ a : Nat, a < H.size → ¬ A a → H1[a]? = H[a]?) : vx_Zq C n d A U H1 := ⟨va_Zq.kept h.1 hq, vx_L.kept h.2 hq⟩
theorem vx_Zq.narrow {C n d : String} {A B : Nat → Prop} {U : State} {H : Heap} (h : vx_Zq C n d A U H) (hAB : ∀ q, B q → A q) : vx_Zq C n d B U H := ⟨va_Zq.narrow h.1 hAB, vx_L.narrow h.2 hAB⟩
theorem vx_Zqof {args : Array Value} {s : State} {C n d : String} {A : Nat → Prop} (hl : (Cond.laysStatic C n d).before args s = true) (hini : (Cond.initialized C).before args s = true) (h : (Cond.isRef (.static C n d)).before args s = true) (hA : ∀ a : Nat, a < s.heap.size → ¬ A a) : vx_Zq C n d A s s.heap := by
  refine ⟨va_Zqof hl hini h hA, ?_⟩
  obtain ⟨c, k, i, f, a, cell, h1, h2, h3, h4, h5, h6, h7, h8, h9⟩ := Cond.laysStatic_spec hl
  exact ⟨c, k, i, f, a, cell, h1, h2, h3, h4, h5, h6, h7, h8, h9, hA a (Array.getElem?_eq_some_iff.mp h5).1⟩
theorem vx_isRef {C n d : String} {v : Value} {A : Nat → Prop} {s : State} {args : Array Value} (h : va_Z C n d v A s s.heap) (hv : v.isRef = true) : (Cond.isRef (.static C n d)).before args s = true := by
  obtain ⟨cf, kf, fi, f, a, cell, h1, h2, h3, h4, h5, h6, h7, -⟩ := h
  have he : (Term.static C n d).eval args s none [] s = some v := by
    simp [Term.eval, State.fieldNamed?, h1, h2, h4, h5, h6, h7]
  simp only [Cond.before, Cond.holds, Cond.value, he]
  cases v <;> simp_all [Value.isRef]
theorem vx_isRefq {C n d : String} {A : Nat → Prop} {s : State} {args : Array Value} (h : va_Zq C n d A s s.heap) : (Cond.isRef (.static C n d)).before args s = true := by
  rcases h with h | ⟨t, h⟩
  · exact vx_isRef h rfl
  · exact vx_isRef h rfl
/-- the same frame, seen from here: as if the method were called anew in this heap -/
theorem vx_rebase {T : State} (X : Stand p l e R s m args below meth c T locs cells slots) {R' : Room} (hf : R'.frames ≤ R.frames) (hl : R'.locals ≤ R.locals) (hc : cells + R'.cells ≤ R.cells) (hs : slots + R'.slots ≤ R.slots) :
    Stand p l e R' ((T.setVm s.vm).setFrames (.invoking m args :: below)) m args below meth c T [] 0 0 := by
  have htop : (T.setVm s.vm).topJava?.isSome := X.here.top
  have hF : ((T.setVm s.vm).setFrames (.invoking m args :: below)).frames = .invoking m args :: below := State.frames_setFrames _ (State.cur_lt_of_top htop)
  obtain ⟨g₀, hg0⟩ := Option.isSome_iff_exists.mp htop
  obtain ⟨r, hr⟩ := State.topJava?_eq_some.mp hg0
  have hl9 : e.platform.stackLimits (T.setVm s.vm).me = e.platform.stackLimits s.me := X.limits
  have hb9 : (T.setVm s.vm).me.stackBytes = s.me.stackBytes := X.bytes
  refine ⟨X.admits, X.cas, X.clock, hF, ?_, X.hears, X.method, X.code, X.here, X.tail, X.warmed, ?_, ?_, ?_⟩
  · have h := X.room
    have hU : ((T.setVm s.vm).setFrames (.invoking m args :: below)).localsInUse = s.localsInUse := by
      rw [State.localsInUse_invoking hF (meth := meth) (c := c) X.method X.code, State.localsInUse_invoking X.frames X.method X.code]
    simp only [State.hasRoom, Bool.and_eq_true, decide_eq_true_eq] at h ⊢
    obtain ⟨⟨⟨⟨h1, h2, h3, h4, h5, h6⟩, h7⟩, h8⟩, h9⟩ := h
    rw [X.frames, List.length_cons] at h2 h3
    have q1 := X.heapSize
    have q2 := X.used
    simp only [hF, hU, List.length_cons, State.stackLimits_setFrames, State.stackBytes_setFrames, hl9, hb9]
    refine ⟨⟨⟨⟨by omega, by omega, by omega, by omega, by omega, h6⟩, ?_⟩, ?_⟩, X.book⟩
    · show T.heap.size + R'.cells ≤ e.platform.maxCells
      omega
    · show T.slotsUsed + R'.slots ≤ e.platform.maxSlots
      omega
  · rw [State.stackLimits_setFrames]; rfl
  · rw [State.stackBytes_setFrames]; rfl
  · refine ⟨?_, Nat.le_refl _, Nat.le_refl _, ?_, ?_, fun a c9 h9 => ⟨c9, h9, rfl, rfl, fun _ _ => rfl⟩⟩
    · obtain ⟨t, ht, -⟩ := State.frames_cons hr
      show T.setVm s.vm = { ((T.setVm s.vm).setFrames (.invoking m args :: below)).setFrames (T.setVm s.vm).frames with heap := T.heap, slotsUsed := T.slotsUsed }
      rw [State.setFrames_setFrames, State.setFrames_self ht]
      rfl
    · show T.slotsUsed = T.slotsUsed + ((T.heap.toList.drop T.heap.size).map (·.slots.size)).sum
      rw [List.drop_eq_nil_of_le (Nat.le_of_eq Array.length_toList)]
      rfl
    · show ((T.heap.toList.drop T.heap.size).map (·.slots.size)).sum ≤ 0
      rw [List.drop_eq_nil_of_le (Nat.le_of_eq Array.length_toList)]
      exact Nat.le_refl _
/-- 'throw new E()': new; dup; invokespecial; athrow -/
theorem vx_throw0 {cc : ByteArray} {pc : Nat} (hexec : p.tables.exec = Jvm.exec) (hb : c.code = cc) (hl : l.stackTraces = false) {own cls : String} {names : List String} {ik ic mc ms : Nat} {A : Nat → Prop}
    (hown : s.vm.findClass own = some m.cls) (hcls : Bundle.fit cls = true) (hnames : ∀ n ∈ names, Bundle.fit n = true)
    (hk : (Cond.classLink own ik cls).before args s = true) (hini : (Cond.initialized cls).before args s = true) (hat : ∀ w ∈ vx_at0 own ic cls names, w.before args s = true)
    (hgood : ∀ w ∈ Cond.classLink own ik cls :: Cond.initialized cls :: vx_at0 own ic cls names, vx_ot w = true)
    (hU : vx_Zq Bundle.tN "UNASSIGNED_STACK" Bundle.steD A s s.heap) (hN : vx_Zq Bundle.tN "SUPPRESSED_SENTINEL" Bundle.listD A s s.heap) (hS : va_S A s.heap H locs) (hsize : ls.size = c.maxLocals)
    (d0 : decode cc pc = .ok (.new ik, 3)) (d3 : decode cc (pc + 3) = .ok (.dup, 1)) (d4 : decode cc (pc + 4) = .ok (.invokespecial ic, 3)) (d7 : decode cc (pc + 7) = .ok (.athrow, 1))
    (hout : ∀ x ∈ c.exceptionTable.toList, covers x (pc + 7) = false)
    (hRframes : names.length + 3 < R.frames) (hRlocals : (rest.map fun v => v.category).sum + (13 * (names.length + 1) + 42) ≤ R.locals) (hRcells : cells + 1 ≤ R.cells) (hRslots : slots + 6 ≤ R.slots) (hlocks : meth.locks = false)
    (hx : ∀ t : State, s.vm.Alike t.vm → H.size ≤ t.heap.size → (∀ q : Nat, q < H.size → t.heap[q]? = H[q]?) → XC cls s t)
    (hf : ∀ z ∈ locs, free z.base) (hc : cells + 1 ≤ mc) (hs : slots + 6 ≤ ms) :
    W p l e R s m args below meth c H locs cells slots (vx_MQ below Qc XC args s mc ms free) (F0 m pc ls rest) := by
  intro T hT X
  have htr : e.platform.stackTraces = false := (show e.platform.stackTraces = l.stackTraces by rw [X.admits.platform]).trans hl
  have Y := vx_rebase X (R' := { frames := R.frames, locals := R.locals, cells := 1, slots := 6 }) (Nat.le_refl _) (Nat.le_refl _) hRcells hRslots
  obtain ⟨s', hA⟩ : ∃ z, z = (T.setVm s.vm).setFrames (.invoking m args :: below) := ⟨_, rfl⟩
  rw [← hA] at Y
  have hvm : s'.vm = s.vm := by rw [hA]; rfl
  have hhp : s'.heap = H := by rw [hA]; exact hT
  have hW0 : s.WarmedH s'.vm := by rw [hvm]; exact State.WarmedH.refl s
  have hat' : ∀ w ∈ vx_at0 own ic cls names, w.before args s' = true := fun w hw => vx_ot_at hW0 hvm.symm (hgood w (List.mem_cons_of_mem _ (List.mem_cons_of_mem _ hw))) (hat w hw)
  have hk' : (Cond.classLink own ik cls).before args s' = true := vx_ot_at hW0 hvm.symm (hgood _ List.mem_cons_self) hk
  have hini' : (Cond.initialized cls).before args s' = true := vx_ot_at hW0 hvm.symm (hgood _ (List.mem_cons_of_mem _ List.mem_cons_self)) hini
  have hU' : vx_Zq Bundle.tN "UNASSIGNED_STACK" Bundle.steD A s' s'.heap := by rw [hhp]; exact vx_Zq.moved hW0.alike (hU.kept hS.2.1)
  have hN' : vx_Zq Bundle.tN "SUPPRESSED_SENTINEL" Bundle.listD A s' s'.heap := by rw [hhp]; exact vx_Zq.moved hW0.alike (hN.kept hS.2.1)
  have h : ∀ w ∈ Bundle.ownAtoms0 own ic cls names, w.before args s' = true := vx_own hat' (vx_isRefq hU'.1) (vx_isRefq hN'.1) hU'.2.word hN'.2.word
  have hown' : s'.vm.findClass own = some m.cls := by rw [hvm]; exact hown
  have hins : (Cond.instantiable cls 6).before args s' = true := h _ (by simp [Bundle.ownAtoms0])
  obtain ⟨vm₁, cX, kX, hfX, hkX, -, -, X₁, st1⟩ := Y.newCold hexec (own := own) (C := cls) (index := ik) (n := 6) hown' hk' hins hini'
    (g := F0 m pc ls rest) rfl (by rw [hb]; exact d0) (Nat.le_refl _) (Nat.le_refl _)
  generalize hT1 : (T.setVm vm₁).pushCell { cls := cX, slots := kX.instanceTypes.map defaultValue, vm := .none } = T1 at X₁ st1
  have hcat : (Value.ref T.heap.size).category = 1 := rfl
  have hcellA : T1.heap[T.heap.size]? = some (freshCell cX kX) := by rw [← hT1]; exact State.heap_pushCell_size _ _
  have d3' : decode c.code (pc + 3) = .ok (.dup, 1) := by rw [hb]; exact d3
  obtain ⟨U, hsteps, hrun, hend, hW, hsame, ce, hce, hO⟩ := X₁.ctorThrow0 hexec htr (own := own) (cls := cls) (names := names) (ic := ic) hown' hcls hnames h (fun x hx => nomatch hx) hfX hkX hcellA (by rw [hhp, hT]; exact Nat.le_refl _)
    (g := { method := m, pc := pc + 4, locals := ls, stack := .ref T.heap.size :: .ref T.heap.size :: rest, locked := none }) rfl hsize rfl rfl (rest := rest) rfl
    (by rw [hb]; exact d4) (by rw [hb]; exact d7) hout hRframes (by simp only [List.map_cons, List.sum_cons, hcat]; omega) hlocks
  obtain ⟨f1, f2⟩ := vx_frame hsame
  rw [hhp] at f1 f2
  have hWs : s.WarmedH U.vm := State.WarmedH.trans hW0 hW
  have hcl : s.vm.findClass cls = some ce.cls := by
    have h9 := hO.cls
    rw [hvm] at h9
    exact h9
  have hall : s.sameButNew ({ U with vm := s.vm } : State) locs mc ms := by
    subst hA
    obtain ⟨e1, e2⟩ := hsame
    rw [State.setFrames_setFrames] at e1
    have h2 : (T.setVm s.vm).sameButNew ({ U with vm := s.vm } : State) [] (0 + 1) (0 + 6) := ⟨e1, e2⟩
    have h3 := X.same.trans h2
    rw [List.append_nil] at h3
    exact h3.mono hc hs
  refine ⟨U, ?_, .threw T.heap.size, hrun, hend, Or.inr ⟨T.heap.size, rfl, cls, ce, locs, hx U hWs.alike f1 (fun q hq => f2 q hq (fun z hz => nomatch hz)), hce, hO.vm, hcl, hWs, hall, hf⟩⟩
  refine st1 _ ?_
  show Steps p.tables e below (T1.setTop { method := m, pc := pc + 3, locals := ls, stack := .ref T.heap.size :: rest, locked := none }) _
  jvm_step X₁.here [X₁.here.top, hexec, d3', Value.category]
  exact hsteps
/-- 'throw new E("text")': new; dup; ldc; invokespecial; athrow -/
theorem vx_throwS {cc : ByteArray} {pc : Nat} (hexec : p.tables.exec = Jvm.exec) (hb : c.code = cc) (hl : l.stackTraces = false) {own cls text : String} {names : List String} {ik is ic mc ms sa : Nat} {A : Nat → Prop}
    (hown : s.vm.findClass own = some m.cls) (hcls : Bundle.fit cls = true) (hnames : ∀ n ∈ names, Bundle.fit n = true)
    (hk : (Cond.classLink own ik cls).before args s = true) (hini : (Cond.initialized cls).before args s = true) (hstr : vk_R own is text sa s) (hat : ∀ w ∈ vx_atS own ic cls names, w.before args s = true)
    (hgood : ∀ w ∈ Cond.classLink own ik cls :: Cond.initialized cls :: vx_atS own ic cls names, vx_ot w = true)
    (hU : vx_Zq Bundle.tN "UNASSIGNED_STACK" Bundle.steD A s s.heap) (hN : vx_Zq Bundle.tN "SUPPRESSED_SENTINEL" Bundle.listD A s s.heap) (hS : va_S A s.heap H locs) (hsize : ls.size = c.maxLocals)
    (d0 : decode cc pc = .ok (.new ik, 3)) (d3 : decode cc (pc + 3) = .ok (.dup, 1)) (d4 : decode cc (pc + 4) = .ok (.ldc is, 2)) (d6 : decode cc (pc + 6) = .ok (.invokespecial ic, 3)) (d9 : decode cc (pc + 9) = .ok (.athrow, 1))
    (hout : ∀ x ∈ c.exceptionTable.toList, covers x (pc + 9) = false)
    (hRframes : names.length + 3 < R.frames) (hRlocals : (rest.map fun v => v.category).sum + (13 * (names.length + 1) + 43) ≤ R.locals) (hRcells : cells + 1 ≤ R.cells) (hRslots : slots + 6 ≤ R.slots) (hlocks : meth.locks = false)
    (hx : ∀ t : State, s.vm.Alike t.vm → H.size ≤ t.heap.size → (∀ q : Nat, q < H.size → t.heap[q]? = H[q]?) → XC cls s t)
    (hf : ∀ z ∈ locs, free z.base) (hc : cells + 1 ≤ mc) (hs : slots + 6 ≤ ms) :
    W p l e R s m args below meth c H locs cells slots (vx_MQ below Qc XC args s mc ms free) (F0 m pc ls rest) := by
  intro T hT X
  have htr : e.platform.stackTraces = false := (show e.platform.stackTraces = l.stackTraces by rw [X.admits.platform]).trans hl
  have Y := vx_rebase X (R' := { frames := R.frames, locals := R.locals, cells := 1, slots := 6 }) (Nat.le_refl _) (Nat.le_refl _) hRcells hRslots
  obtain ⟨s', hA⟩ : ∃ z, z = (T.setVm s.vm).setFrames (.invoking m args :: below) := ⟨_, rfl⟩
  rw [← hA] at Y
  have hvm : s'.vm = s.vm := by rw [hA]; rfl
  have hhp : s'.heap = H := by rw [hA]; exact hT
  have hW0 : s.WarmedH s'.vm := by rw [hvm]; exact State.WarmedH.refl s
  have hat' : ∀ w ∈ vx_atS own ic cls names, w.before args s' = true := fun w hw => vx_ot_at hW0 hvm.symm (hgood w (List.mem_cons_of_mem _ (List.mem_cons_of_mem _ hw))) (hat w hw)
  have hk' : (Cond.classLink own ik cls).before args s' = true := vx_ot_at hW0 hvm.symm (hgood _ List.mem_cons_self) hk
  have hini' : (Cond.initialized cls).before args s' = true := vx_ot_at hW0 hvm.symm (hgood _ (List.mem_cons_of_mem _ List.mem_cons_self)) hini
  have hU' : vx_Zq Bundle.tN "UNASSIGNED_STACK" Bundle.steD A s' s'.heap := by rw [hhp]; exact vx_Zq.moved hW0.alike (hU.kept hS.2.1)
  have hN' : vx_Zq Bundle.tN "SUPPRESSED_SENTINEL" Bundle.listD A s' s'.heap := by rw [hhp]; exact vx_Zq.moved hW0.alike (hN.kept hS.2.1)
  have h : ∀ w ∈ Bundle.ownAtoms own ic cls names, w.before args s' = true := vx_own hat' (vx_isRefq hU'.1) (vx_isRefq hN'.1) hU'.2.word hN'.2.word
  have hown' : s'.vm.findClass own = some m.cls := by rw [hvm]; exact hown
  have hins : (Cond.instantiable cls 6).before args s' = true := h _ (by simp [Bundle.ownAtoms])
  obtain ⟨vm₁, cX, kX, hfX, hkX, -, -, X₁, st1⟩ := Y.newCold hexec (own := own) (C := cls) (index := ik) (n := 6) hown' hk' hins hini'
    (g := F0 m pc ls rest) rfl (by rw [hb]; exact d0) (Nat.le_refl _) (Nat.le_refl _)
  generalize hT1 : (T.setVm vm₁).pushCell { cls := cX, slots := kX.instanceTypes.map defaultValue, vm := .none } = T1 at X₁ st1
  have hcat : (Value.ref T.heap.size).category = 1 := rfl
  have hcellA : T1.heap[T.heap.size]? = some (freshCell cX kX) := by rw [← hT1]; exact State.heap_pushCell_size _ _
  have d3' : decode c.code (pc + 3) = .ok (.dup, 1) := by rw [hb]; exact d3
  have d4' : decode c.code (pc + 4) = .ok (.ldc is, 2) := by rw [hb]; exact d4
  have hstr' : vk_R own is text sa s' := vk_R.warm hW0 hstr
  obtain ⟨U, hsteps, hrun, hend, hW, hsame, ce, hce, hO⟩ := X₁.ctorThrowS hexec htr (own := own) (cls := cls) (names := names) (ic := ic) hown' hcls hnames h (fun x hx => nomatch hx) hfX hkX hcellA (by rw [hhp, hT]; exact Nat.le_refl _) (msg := .ref sa) rfl
    (g := { method := m, pc := pc + 6, locals := ls, stack := .ref sa :: .ref T.heap.size :: .ref T.heap.size :: rest, locked := none }) rfl hsize rfl rfl (rest := rest) rfl
    (by rw [hb]; exact d6) (by rw [hb]; exact d9) hout hRframes (by simp only [List.map_cons, List.sum_cons, hcat]; omega) hlocks
  obtain ⟨f1, f2⟩ := vx_frame hsame
  rw [hhp] at f1 f2
  have hWs : s.WarmedH U.vm := State.WarmedH.trans hW0 hW
  have hcl : s.vm.findClass cls = some ce.cls := by
    have h9 := hO.cls
    rw [hvm] at h9
    exact h9
  have hall : s.sameButNew ({ U with vm := s.vm } : State) locs mc ms := by
    subst hA
    obtain ⟨e1, e2⟩ := hsame
    rw [State.setFrames_setFrames] at e1
    have h2 : (T.setVm s.vm).sameButNew ({ U with vm := s.vm } : State) [] (0 + 1) (0 + 6) := ⟨e1, e2⟩
    have h3 := X.same.trans h2
    rw [List.append_nil] at h3
    exact h3.mono hc hs
  refine ⟨U, ?_, .threw T.heap.size, hrun, hend, Or.inr ⟨T.heap.size, rfl, cls, ce, locs, hx U hWs.alike f1 (fun q hq => f2 q hq (fun z hz => nomatch hz)), hce, hO.vm, hcl, hWs, hall, hf⟩⟩
  refine st1 _ ?_
  show Steps p.tables e below (T1.setTop { method := m, pc := pc + 3, locals := ls, stack := .ref T.heap.size :: rest, locked := none }) _
  jvm_step X₁.here [X₁.here.top, hexec, d3', Value.category]
  exact X₁.ldcString hexec (own := own) (text := text) (index := is) (a := sa) hown' hstr'.1 hstr'.2
    (g := { method := m, pc := pc + 4, locals := ls, stack := .ref T.heap.size :: .ref T.heap.size :: rest, locked := none }) rfl d4' _ hsteps
/-- 'throw new E("text")', the text by a wide index -/
theorem vx_throwSW {cc : ByteArray} {pc : Nat} (hexec : p.tables.exec = Jvm.exec) (hb : c.code = cc) (hl : l.stackTraces = false) {own cls text : String} {names : List String} {ik is ic mc ms sa : Nat} {A : Nat → Prop}
    (hown : s.vm.findClass own = some m.cls) (hcls : Bundle.fit cls = true) (hnames : ∀ n ∈ names, Bundle.fit n = true)
    (hk : (Cond.classLink own ik cls).before args s = true) (hini : (Cond.initialized cls).before args s = true) (hstr : vk_R own is text sa s) (hat : ∀ w ∈ vx_atS own ic cls names, w.before args s = true)
    (hgood : ∀ w ∈ Cond.classLink own ik cls :: Cond.initialized cls :: vx_atS own ic cls names, vx_ot w = true)
    (hU : vx_Zq Bundle.tN "UNASSIGNED_STACK" Bundle.steD A s s.heap) (hN : vx_Zq Bundle.tN "SUPPRESSED_SENTINEL" Bundle.listD A s s.heap) (hS : va_S A s.heap H locs) (hsize : ls.size = c.maxLocals)
    (d0 : decode cc pc = .ok (.new ik, 3)) (d3 : decode cc (pc + 3) = .ok (.dup, 1)) (d4 : decode cc (pc + 4) = .ok (.ldc_w is, 3)) (d7 : decode cc (pc + 7) = .ok (.invokespecial ic, 3)) (d10 : decode cc (pc + 10) = .ok (.athrow, 1))
    (hout : ∀ x ∈ c.exceptionTable.toList, covers x (pc + 10) = false)
    (hRframes : names.length + 3 < R.frames) (hRlocals : (rest.map fun v => v.category).sum + (13 * (names.length + 1) + 43) ≤ R.locals) (hRcells : cells + 1 ≤ R.cells) (hRslots : slots + 6 ≤ R.slots) (hlocks : meth.locks = false)
    (hx : ∀ t : State, s.vm.Alike t.vm → H.size ≤ t.heap.size → (∀ q : Nat, q < H.size → t.heap[q]? = H[q]?) → XC cls s t)
    (hf : ∀ z ∈ locs, free z.base) (hc : cells + 1 ≤ mc) (hs : slots + 6 ≤ ms) :
    W p l e R s m args below meth c H locs cells slots (vx_MQ below Qc XC args s mc ms free) (F0 m pc ls rest) := by
  intro T hT X
  have htr : e.platform.stackTraces = false := (show e.platform.stackTraces = l.stackTraces by rw [X.admits.platform]).trans hl
  have Y := vx_rebase X (R' := { frames := R.frames, locals := R.locals, cells := 1, slots := 6 }) (Nat.le_refl _) (Nat.le_refl _) hRcells hRslots
  obtain ⟨s', hA⟩ : ∃ z, z = (T.setVm s.vm).setFrames (.invoking m args :: below) := ⟨_, rfl⟩
  rw [← hA] at Y
  have hvm : s'.vm = s.vm := by rw [hA]; rfl
  have hhp : s'.heap = H := by rw [hA]; exact hT
  have hW0 : s.WarmedH s'.vm := by rw [hvm]; exact State.WarmedH.refl s
  have hat' : ∀ w ∈ vx_atS own ic cls names, w.before args s' = true := fun w hw => vx_ot_at hW0 hvm.symm (hgood w (List.mem_cons_of_mem _ (List.mem_cons_of_mem _ hw))) (hat w hw)
  have hk' : (Cond.classLink own ik cls).before args s' = true := vx_ot_at hW0 hvm.symm (hgood _ List.mem_cons_self) hk
  have hini' : (Cond.initialized cls).before args s' = true := vx_ot_at hW0 hvm.symm (hgood _ (List.mem_cons_of_mem _ List.mem_cons_self)) hini
  have hU' : vx_Zq Bundle.tN "UNASSIGNED_STACK" Bundle.steD A s' s'.heap := by rw [hhp]; exact vx_Zq.moved hW0.alike (hU.kept hS.2.1)
  have hN' : vx_Zq Bundle.tN "SUPPRESSED_SENTINEL" Bundle.listD A s' s'.heap := by rw [hhp]; exact vx_Zq.moved hW0.alike (hN.kept hS.2.1)
  have h : ∀ w ∈ Bundle.ownAtoms own ic cls names, w.before args s' = true := vx_own hat' (vx_isRefq hU'.1) (vx_isRefq hN'.1) hU'.2.word hN'.2.word
  have hown' : s'.vm.findClass own = some m.cls := by rw [hvm]; exact hown
  have hins : (Cond.instantiable cls 6).before args s' = true := h _ (by simp [Bundle.ownAtoms])
  obtain ⟨vm₁, cX, kX, hfX, hkX, -, -, X₁, st1⟩ := Y.newCold hexec (own := own) (C := cls) (index := ik) (n := 6) hown' hk' hins hini'
    (g := F0 m pc ls rest) rfl (by rw [hb]; exact d0) (Nat.le_refl _) (Nat.le_refl _)
  generalize hT1 : (T.setVm vm₁).pushCell { cls := cX, slots := kX.instanceTypes.map defaultValue, vm := .none } = T1 at X₁ st1
  have hcat : (Value.ref T.heap.size).category = 1 := rfl
  have hcellA : T1.heap[T.heap.size]? = some (freshCell cX kX) := by rw [← hT1]; exact State.heap_pushCell_size _ _
  have d3' : decode c.code (pc + 3) = .ok (.dup, 1) := by rw [hb]; exact d3
  have d4' : decode c.code (pc + 4) = .ok (.ldc_w is, 3) := by rw [hb]; exact d4
  have hstr' : vk_R own is text sa s' := vk_R.warm hW0 hstr
  obtain ⟨U, hsteps, hrun, hend, hW, hsame, ce, hce, hO⟩ := X₁.ctorThrowS hexec htr (own := own) (cls := cls) (names := names) (ic := ic) hown' hcls hnames h (fun x hx => nomatch hx) hfX hkX hcellA (by rw [hhp, hT]; exact Nat.le_refl _) (msg := .ref sa) rfl
    (g := { method := m, pc := pc + 7, locals := ls, stack := .ref sa :: .ref T.heap.size :: .ref T.heap.size :: rest, locked := none }) rfl hsize rfl rfl (rest := rest) rfl
    (by rw [hb]; exact d7) (by rw [hb]; exact d10) hout hRframes (by simp only [List.map_cons, List.sum_cons, hcat]; omega) hlocks
  obtain ⟨f1, f2⟩ := vx_frame hsame
  rw [hhp] at f1 f2
  have hWs : s.WarmedH U.vm := State.WarmedH.trans hW0 hW
  have hcl : s.vm.findClass cls = some ce.cls := by
    have h9 := hO.cls
    rw [hvm] at h9
    exact h9
  have hall : s.sameButNew ({ U with vm := s.vm } : State) locs mc ms := by
    subst hA
    obtain ⟨e1, e2⟩ := hsame
    rw [State.setFrames_setFrames] at e1
    have h2 : (T.setVm s.vm).sameButNew ({ U with vm := s.vm } : State) [] (0 + 1) (0 + 6) := ⟨e1, e2⟩
    have h3 := X.same.trans h2
    rw [List.append_nil] at h3
    exact h3.mono hc hs
  refine ⟨U, ?_, .threw T.heap.size, hrun, hend, Or.inr ⟨T.heap.size, rfl, cls, ce, locs, hx U hWs.alike f1 (fun q hq => f2 q hq (fun z hz => nomatch hz)), hce, hO.vm, hcl, hWs, hall, hf⟩⟩
  refine st1 _ ?_
  show Steps p.tables e below (T1.setTop { method := m, pc := pc + 3, locals := ls, stack := .ref T.heap.size :: rest, locked := none }) _
  jvm_step X₁.here [X₁.here.top, hexec, d3', Value.category]
  exact X₁.ldcStringW hexec (own := own) (text := text) (index := is) (a := sa) hown' hstr'.1 hstr'.2
    (g := { method := m, pc := pc + 4, locals := ls, stack := .ref T.heap.size :: .ref T.heap.size :: rest, locked := none }) rfl d4' _ hsteps
end Ends
section Bodies
variable {l : Launch}
theorem vx_ofW {y : MethodName} {ws ws' : List Cond} {rm : Room} {Pc : Array Value → State → Prop} {Qc : Array Value → State → Outcome → State → Prop} {XC : String → State → State → Prop} {mc ms : Nat} {free : Addr → Prop} {cc : ByteArray} {maxL : Nat} {ret : Option FieldType}
    (hy : plainFor y = true) (hw : ws = Cond.code y cc maxL ret :: ws')
    (body : ∀ p e s m args below meth c s₁, BodyLoose p l y (headSpec ws rm) cc maxL ret e s m args below meth c s₁ → c.maxLocals = maxL → (∀ x ∈ c.exceptionTable.toList, False) → Pc args s →
      W p l e (headSpec ws rm).room s m args below meth c s.heap [] 0 0 (vx_MQ below Qc XC args s mc ms free) (entryFrame m args maxL)) : vx_Met l y ws rm Pc Qc XC mc ms free := by
  refine MetFree.of_bodySF (code := cc) (maxLocals := maxL) (ret := ret) hy ?_ ?_
  · intro args s m h hn
    obtain ⟨meth, c, h1, h2, h3, h4, h5, h6, -, -⟩ := Cond.code_spec hn (atoms_spec (ws := ws) h _ (by rw [hw]; exact List.mem_cons_self))
    exact ⟨meth, c, h1, h2, h3, h4, h5, h6⟩
  · intro p e s m args below meth c s₁ B hml hP _
    have hh0 : s₁.heap = s.heap := by rw [B.state]; rfl
    have ht : ∀ x ∈ c.exceptionTable.toList, False := by
      obtain ⟨meth9, c9, h1, h2, -, -, -, -, h7, -⟩ := Cond.code_spec B.named (atoms_spec (ws := ws) B.pre _ (by rw [hw]; exact List.mem_cons_self))
      cases Option.some.inj (h1.symm.trans B.method)
      cases Option.some.inj (h2.symm.trans (Stand.of_body B).code)
      intro x hx
      rw [Array.isEmpty_iff.mp h7] at hx
      cases hx
    obtain ⟨t, a1, o, b1, b2, b3⟩ := body p e s m args below meth c s₁ B hml ht hP s₁ hh0 (Stand.of_body B)
    exact ⟨t, o, a1, b1, b2, b3⟩
/-- the table of a body with handlers -/
theorem vx_table {p : Program} {x y : MethodName} {S : Spec} {cc bytes : ByteArray} {maxL maxL' : Nat} {ret ret' : Option FieldType} {e : Env} {s s₁ : State} {m : MethodId} {args : Array Value} {below : List Frame} {meth : Method} {c : Code} {hh : List (Nat × Nat × Nat × Nat)}
    (B : BodyLoose p l y S cc maxL ret e s m args below meth c s₁) (h : (Cond.codeWith y bytes maxL' ret' hh).before args s = true) : c.exceptionTable.toList = tableOf hh := by
  obtain ⟨m9, meth9, c9, hn9, h1, h2, -, -, h6, -⟩ := Cond.codeWith_spec h
  cases Option.some.inj (hn9.symm.trans B.named)
  cases Option.some.inj (h1.symm.trans B.method)
  cases Option.some.inj (h2.symm.trans (Stand.of_body B).code)
  rw [← h6, table_eq]
end Bodies
end VXA
/-! ===== END ===== -/
/-! ===== BEGIN a static call of a method with an exception table ===== -/
section VXS
variable {p : Program} {l : Launch} {e : Env} {R : Room} {s : State} {m : MethodId} {args : Array Value} {below : List Frame} {meth : Method} {c : Code} {T : State} {H : Heap} {locs : List Loc} {cells slots : Nat}
abbrev vx_CSW (R : Room) (s : State) (args : Array Value) (own : String) (index : Nat) (y : MethodName) (bytes : ByteArray) (maxL : Nat) (ret : Option FieldType) (hh : List (Nat × Nat × Nat × Nat)) (ws : List Cond) (rm : Room) (mc ms n : Nat) : Prop :=
  (rm.cells = mc ∧ rm.slots = ms ∧ rm.frames + 1 ≤ R.frames ∧ 8 + (maxL + 11) + rm.locals ≤ R.locals ∧ (∀ w ∈ ws, ∀ (a' : Array Value) (U : State), s.WarmedH U.vm → w.before a' U = true) ∧ Cond.codeWith y bytes maxL ret hh ∈ ws) ∧
  (Cond.codeWith y bytes maxL ret hh).before args s = true ∧ (Cond.initialized y.cls).before args s = true ∧ (y.cls ≠ "java/lang/invoke/MethodHandle" ∧ y.cls ≠ "java/lang/invoke/VarHandle") ∧
  (∀ sig, parseMethodDescriptor y.desc = some sig → n = sig.parameters.length) ∧ (Cond.methodLink own index y).before args s = true ∧ (Cond.static y).before args s = true
theorem vx_cwSW {own : String} {index maxL mc ms : Nat} {y : MethodName} {bytes : ByteArray} {ret : Option FieldType} {hh : List (Nat × Nat × Nat × Nat)} {Ts ws ws' : List Cond} {rm : Room} (n : Nat) (ht : ∀ w ∈ Ts, w.before args s = true) (hT : GoodIn Ts (va_wsS own index y ws)) (hw : ws = Cond.codeWith y bytes maxL ret hh :: ws') (hrc : rm.cells = mc) (hrs : rm.slots = ms)
    (hd : y.cls ≠ "java/lang/invoke/MethodHandle" ∧ y.cls ≠ "java/lang/invoke/VarHandle" ∧ (parseMethodDescriptor y.desc).map (fun d => d.parameters.length) = some n) (hR : rm.frames + 1 ≤ R.frames ∧ 8 + (maxL + 11) + rm.locals ≤ R.locals) :
    vx_CSW R s args own index y bytes maxL ret hh ws rm mc ms n := by
  have ok : ∀ w ∈ va_wsS own index y ws, w.before args s = true := fun w h => ht w (hT w h).1
  have hG : GoodIn Ts ws := fun w h => hT w (by unfold va_wsS; exact List.mem_append_right _ h)
  have hc : Cond.codeWith y bytes maxL ret hh ∈ ws := by rw [hw]; exact List.mem_cons_self
  refine ⟨⟨hrc, hrs, hR.1, hR.2, pay_in ht hG, hc⟩, ht _ (hG _ hc).1, ok _ (by simp [va_wsS]), ⟨hd.1, hd.2.1⟩, fun sig h => ?_, ok _ (by simp [va_wsS]), ok _ (by simp [va_wsS])⟩
  have h2 := hd.2.2
  rw [h] at h2
  exact (Option.some.inj h2).symm
theorem vx_callSW (X : Stand p l e R s m args below meth c T locs cells slots) (hexec : p.tables.exec = Jvm.exec) {own : String} {index : Nat} {y : MethodName} {bytes : ByteArray} {maxL : Nat} {ret : Option FieldType} {hh : List (Nat × Nat × Nat × Nat)}
    (hown : s.vm.findClass own = some m.cls) (hlink : (Cond.methodLink own index y).before args s = true) (hstat : (Cond.static y).before args s = true) (hinit : (Cond.initialized y.cls).before args s = true)
    (hcode : (Cond.codeWith y bytes maxL ret hh).before args s = true) (hy : y.cls ≠ "java/lang/invoke/MethodHandle" ∧ y.cls ≠ "java/lang/invoke/VarHandle")
    {W9 : Nat} {Pre : Pt → Array Value → Prop} {Post : Pt → Array Value → Option Value → Pt → Prop} (hK : Back l R p e below s args y 3 W9 Pre Post)
    {g : JFrame} (hg : g.method = m) (hsize : g.locals.size = c.maxLocals) {argsL rest : List Value} (hlen : ∀ sig, parseMethodDescriptor y.desc = some sig → argsL.length = sig.parameters.length)
    (hstack : g.stack = argsL.reverse ++ rest) (hW : 2 * g.monitorRoom + (rest.map fun v => v.category).sum ≤ W9) (hdg : decode c.code g.pc = .ok (.invokestatic index, 3))
    (hpre : ∀ vm₁, s.WarmedH vm₁ → Pre ⟨T.setVm vm₁, locs, cells, slots⟩ argsL.toArray) :
    ∃ (v : Option Value) (vm₁ : Vm) (B : Pt), s.WarmedH vm₁ ∧ Stand p l e R s m args below meth c B.U B.locs B.cells B.slots ∧ Post ⟨T.setVm vm₁, locs, cells, slots⟩ argsL.toArray v B ∧
      ∀ target, Steps p.tables e below (B.U.setTop { g with pc := g.pc + 3, stack := v.toList ++ rest }) target → Steps p.tables e below (T.setTop g) target := by
  obtain ⟨mk, methM, cM, hnamed, hmethM, -, -, -, -, -, -, hsigM⟩ := Cond.codeWith_spec hcode
  have hstatic : methM.isStatic = true := Cond.static_spec hnamed hmethM hstat
  obtain ⟨kP, hkP, -⟩ := className_of_methodNamed hnamed
  have hinitP : kP.init = .initialized := Cond.initialized_spec (findClass_of_methodNamed hnamed) hkP hinit
  obtain ⟨vm₁, X₁, hstep₁⟩ := X.invokestatic hexec hown hlink hnamed hmethM hstatic hkP hinitP hy (g := g) hg (argsL := argsL) (rest := rest) (hlen _ hsigM) hstack hdg
  obtain ⟨v, B, X', hpost, hsteps⟩ := hK m meth c ⟨T.setVm vm₁, locs, cells, slots⟩ { g with stack := rest } (.invokestatic index) mk argsL.toArray X₁ hg hsize hdg hW (X₁.named hnamed) (hpre vm₁ X₁.warmed)
  exact ⟨v, vm₁, B, X₁.warmed, X', hpost, fun target h => hstep₁ _ fun acts => by rw [doInvoke_state]; exact hsteps.trans h⟩
theorem vx_runSW {y : MethodName} {bytes cc : ByteArray} {maxL nL mc ms n index : Nat} {ret : Option FieldType} {hh : List (Nat × Nat × Nat × Nat)} {ws : List Cond} {rm : Room} {Pc : Array Value → State → Prop} {Qc : Array Value → State → Outcome → State → Prop} {free : Addr → Prop} {Ts : List Cond} {own : String} {As rest : List Value} {g : JFrame}
    (S : CallFix p m c cc nL s args Ts own) (hM : Met l y ws rm Pc Qc mc ms free) (cw : vx_CSW R s args own index y bytes maxL ret hh ws rm mc ms n) (hp : PreS s H Pc As)
    (hg : g.method = m) (hn : As.length = n) (hsize : g.locals.size = nL) (hstack : g.stack = As.reverse ++ rest) (hW : 2 * g.monitorRoom + (rest.map fun v => v.category).sum ≤ 8) (hdg : decode cc g.pc = .ok (.invokestatic index, 3)) (hf : cells + mc ≤ R.cells ∧ slots + ms ≤ R.slots) :
    va_Run p l e R s m args below meth c H locs cells slots mc ms g rest (Qc As.toArray) (free) := by
  obtain ⟨⟨hrc, hrs, hfr, hlo, hws, hcw⟩, hcode, hini, hy, hlen, hl, hstt⟩ := cw
  have hK : Back l R p e below s args y 3 8 (PreOf R mc ms Pc) (PostOf Qc mc ms free) := va_backW (hh := hh) (bytes := bytes) (maxL := maxL) (ret := ret) hM hp.1 hrc hrs hfr hlo hws hcw (fun a' U hW => word_at hW (Or.inl (by first | rfl | simp [Cond.onTables, Cond.keeps, Cond.steady])) hini)
  obtain ⟨hx, hb, hml, ho, -⟩ := S
  intro T hT X
  obtain ⟨v, vm₁, ⟨U', l2, c2, s2⟩, hW₁, X', ⟨g', mk, t, L, e1, e2, hq, h1, hL, h2, h3⟩, st⟩ := vx_callSW X hx (hh := hh) (bytes := bytes) (maxL := maxL) (ret := ret) ho hl hstt hini hcode hy hK hg (hsize.trans hml.symm) (argsL := As) (rest := rest) (fun sig h => hn.trans (hlen sig h)) hstack hW (by rw [hb]; exact hdg)
    (fun vm₁ hW₁ => ⟨hf.1, hf.2, hp.2 (T.setVm vm₁) hT hW₁⟩)
  dsimp only [Pt.U, Pt.locs, Pt.cells, Pt.slots] at X' e1 e2 h1 h2 h3 st
  subst h1; subst h2; subst h3
  exact ⟨v, (T.setVm vm₁).calling g' mk As.toArray, t, U', L, hT, X', hL, e1, e2, hq, st⟩
/-- not caught here, past rows that name other classes: it goes on to the caller -/
theorem vx_outP {p : Program} {l : Launch} {e : Env} {R : Room} {s : State} {m : MethodId} {args : Array Value} {below : List Frame} {meth : Method} {c : Code} {H : Heap} {locs : List Loc} {cells slots : Nat} {free : Addr → Prop} {ls : Array Slot} {rest : List Value} {Qc : Array Value → State → Outcome → State → Prop} {XC : String → State → State → Prop}
    {pc : Nat} {own E : String} {ce : Cell} {q : Addr} {mc ms : Nat} (hown : s.vm.findClass own = some m.cls) (hlocks : meth.locks = false)
    (hpass : ∀ z ∈ c.exceptionTable.toList, covers z pc = false ∨ (z.catchType ≠ 0 ∧ ∃ nm : String, (Cond.classLink own z.catchType nm).before args s = true ∧ va_Nc E nm s)) (hcell : H[q]? = some ce) (hv : ce.vm = .none) (hcl : s.vm.findClass E = some ce.cls)
    (hx : ∀ t : State, t.heap = H → s.vm.Alike t.vm → XC E s t) (hf : ∀ z ∈ locs, free z.base) (hc : cells ≤ mc) (hs : slots ≤ ms) :
    vx_W p l e R s m args below meth c H locs cells slots (vx_MQ below Qc XC args s mc ms free) (F0 m pc ls rest) q := by
  intro T hT X
  have hpl : e.platform.magicAccessors = ({} : Platform).magicAccessors := by rw [X.admits.platform]
  obtain ⟨vm', hW', X', st⟩ := X.outThrough hlocks q (g := F0 m pc ls rest) rfl rfl rfl (cell := ce) (by rw [hT]; exact hcell) (by rw [hv]; rfl)
    (by obtain ⟨k9, h9, -⟩ := Vm.findClass_spec hcl; exact ⟨k9, h9⟩) (fun z hz => by
      rcases hpass z hz with h | ⟨hz0, nm, hl1, hn1⟩
      · exact Or.inl h
      · obtain ⟨c6, hc6, hcl6⟩ := Cond.classLink_spec hown hl1 e.platform hpl
        obtain ⟨a8, b8, h1, h2, h3⟩ := hn1
        cases Option.some.inj (h1.symm.trans hcl)
        cases Option.some.inj (h2.symm.trans hc6)
        exact Or.inr ⟨hz0, _, hcl6, h3⟩)
  obtain ⟨g₀, hfr⟩ := X'.frames_eq
  have hcell9 : ((T.setVm vm').setFrames (.throwing q :: below)).heap[q]? = some ce := by
    show T.heap[q]? = some ce
    rw [hT]; exact hcell
  have hend : Ended ((T.setVm vm').setFrames (.throwing q :: below)) below (.threw q) := State.frames_setFrames _ (State.cur_lt_of_frames hfr)
  refine ⟨(T.setVm vm').setFrames (.throwing q :: below), ?_, .threw q, X'.here.running, hend, Or.inr ⟨q, rfl, E, ce, locs, hx _ hT (X'.ends _).1.alike, hcell9, hv, hcl, (X'.ends _).1, (X'.ends _).2.mono hc hs, hf⟩⟩
  rw [X.pushThrowing_eq]
  exact st
/-- a thing of a world lies in the heap -/
theorem vx_lt {D : va_G} {cl : List vw_C} {ws : va_W} {H1 : Heap} (h : va_P D cl ws H1) {k : Nat} {q : Nat × va_E} (hk : ws[k]? = some q) : q.1 < H1.size := (h k q hk).lt
end VXS
/-! ===== END ===== -/
/-! ===== BEGIN methods with a table of their own: called by a name, returning or throwing ===== -/
section VXH
/-! vx_backW, vx_callVX, vx_callSX, vx_callVW, vx_runVW, vx_runVX, vx_runSX, vx_ofWH follow the same proofs as their sisters above (Free/Laws.lean, Shelf42/LK1.lean); vx_outP calls Shelf42/NT130.lean (outThrough). -/
section
variable {l : Launch} {R : Room} {p : Program} {e : Env} {below : List Frame} {s : State} {sargs : Array Value} {y : MethodName} {len W9 : Nat}
theorem vx_backW {ws : List Cond} {rm : Room} {Pc : Array Value → State → Prop} {Qc : Array Value → State → Outcome → State → Prop} {XC : String → State → State → Prop} {mc ms : Nat} {free : Addr → Prop} {bytes : ByteArray} {maxL : Nat} {ret : Option FieldType} {hh : List (Nat × Nat × Nat × Nat)}
    (hM : vx_Met l y ws rm Pc Qc XC mc ms free) (hblind : FrameBlind Pc) (hrc : rm.cells = mc) (hrs : rm.slots = ms)
    (hframes : rm.frames + 1 ≤ R.frames) (hlocals : W9 + (maxL + 11) + rm.locals ≤ R.locals)
    (hws : ∀ w ∈ ws, ∀ a' U, s.WarmedH U.vm → w.before a' U = true) (hcode : Cond.codeWith y bytes maxL ret hh ∈ ws) (hinit : ∀ a' U, s.WarmedH U.vm → (Cond.initialized y.cls).before a' U = true) :
    vx_Back l R p e below s sargs y len W9 (PreOf R mc ms Pc) (PostOf Qc mc ms free) (vx_Post XC mc ms free) := by
  intro m meth c A g ig mk a X hg hsize hdg hW hn hp
  have h1 : (headSpec ws rm).pre.before a A.U = true := atoms_intro fun w hw => hws w hw _ _ X.warmed
  have h2 : (Cond.codeWith y bytes maxL ret hh).before a A.U = true := hws _ hcode _ _ X.warmed
  have h3 : (Cond.initialized y.cls).before a A.U = true := hinit _ _ X.warmed
  have h4 : A.cells + (headSpec ws rm).room.cells ≤ R.cells := by rw [show (headSpec ws rm).room.cells = mc from hrc]; exact hp.1
  have h5 : A.slots + (headSpec ws rm).room.slots ≤ R.slots := by rw [show (headSpec ws rm).room.slots = ms from hrs]; exact hp.2.1
  have hPc : Pc a (A.U.calling g mk a) := hblind _ _ _ _ hp.2.2
  obtain ⟨U, Ls, c0, s0⟩ := A
  dsimp only [Pt.U, Pt.locs, Pt.cells, Pt.slots] at h1 h2 h3 h4 h5 X hn hPc ⊢
  obtain ⟨m9, methY, cY, hn9, hmY, hcY, -, hlY, -⟩ := Cond.codeWith_spec h2
  cases Option.some.inj (hn9.symm.trans hn)
  obtain ⟨kY, hkY, -⟩ := className_of_methodNamed hn
  have hinitY : kY.init = .initialized := Cond.initialized_spec (findClass_of_methodNamed hn) hkY h3
  have h : At U g.method c below := by rw [hg]; exact X.here
  have hlocals9 : W9 + (maxL + 11) + (headSpec ws rm).room.locals ≤ R.locals := hlocals
  have happ : (headSpec ws rm).appliesLoose y e.platform (U.calling g mk a) = true :=
    Spec.appliesLoose_calling (g := g) h hdg hn hkY hinitY
      (X.room_calling (g := g) (R' := (headSpec ws rm).room) hsize hmY hcY hframes (by rw [hlY]; omega) h4 h5) h1
  obtain ⟨mid, hmid⟩ := h.above
  have hfr : (U.setTop g).frames = (.java g :: mid) ++ below := by rw [State.frames_setTop' g h.top, hmid]; rfl
  obtain ⟨o, s₂, hsteps, -, hend, hq⟩ := Steps.callFree hM p X.admits X.cas X.clock (acts := []) hfr happ hPc trivial
  have hq' : vx_Q Qc XC mc ms free a (U.calling g mk a) o s₂ := hq
  rw [State.frames_setTop' g h.top] at hend
  obtain ⟨g₀, hg0⟩ := Option.isSome_iff_exists.mp h.top
  obtain ⟨r, hr⟩ := State.topJava?_eq_some.mp hg0
  have hr' : (({ U with heap := s₂.heap, slotsUsed := s₂.slotsUsed } : State).setVm s₂.vm).frames = .java g₀ :: r := hr
  rcases hq' with ⟨hqc, L, hfe, hL⟩ | ⟨q, rfl, E, ce, L, hx, hce, hcv, hcl, hW₂, hsm, hL⟩
  · obtain ⟨⟨v, rfl⟩, hW₂, e2, q2, q3, q4, q5, q6⟩ := id hfe
    have e3 : s₂ = ({ (U.calling g mk a).setFrames s₂.frames with heap := s₂.heap, slotsUsed := s₂.slotsUsed } : State).setVm s₂.vm := by
      have : s₂ = ({ s₂ with vm := (U.calling g mk a).vm } : State).setVm s₂.vm := rfl
      rw [e2] at this
      exact this
    obtain ⟨c₂, i₂, len₂, hc₂, hd₂, hf₂⟩ := hend
    have hW' : U.WarmedH s₂.vm := hW₂
    have hcc : c₂ = c := by
      have h1 : s₂.code? g.method = U.code? g.method := by
        rw [State.code?_eq, State.code?_eq, hW'.alike.method?]
      exact Option.some.inj (hc₂.symm.trans (h1.trans h.code))
    subst hcc
    have hlen : len₂ = len := by rw [hdg] at hd₂; cases hd₂; rfl
    subst hlen
    have hs₂ : s₂ = (({ U with heap := s₂.heap, slotsUsed := s₂.slotsUsed } : State).setVm s₂.vm).setTop { g with pc := g.pc + len₂, stack := v.toList ++ g.stack } := by
      refine e3.trans ?_
      rw [hf₂, State.calling_eq h.top, State.setFrames_setFrames, State.setTop_of_frames _ hr', hr]
      rfl
    have hsame : U.sameButNew ({ U with heap := s₂.heap, slotsUsed := s₂.slotsUsed } : State) L mc ms := by
      refine ⟨?_, q2, q3, q4, q5, q6⟩
      obtain ⟨t, ht, -⟩ := State.frames_cons hr
      show ({ U with heap := s₂.heap, slotsUsed := s₂.slotsUsed } : State) = { U.setFrames U.frames with heap := s₂.heap, slotsUsed := s₂.slotsUsed }
      rw [State.setFrames_self ht]
    subst hg
    refine Or.inl ⟨v, ⟨(({ U with heap := s₂.heap, slotsUsed := s₂.slotsUsed } : State).setVm s₂.vm), Ls ++ L, c0 + mc, s0 + ms⟩,
      ⟨X.admits, X.cas, X.clock, X.frames, X.room, X.hears, X.method, X.code, (X.here.setHeapUsed s₂.heap s₂.slotsUsed).setVm hW'.alike, X.tail, State.WarmedH.trans X.warmed hW', X.limits, X.bytes, X.same.trans (hsame.setVm s.vm)⟩,
      ⟨g, mk, s₂, L, rfl, rfl, hqc, rfl, hL, rfl, rfl⟩, ?_⟩
    show Steps p.tables e below _ ((({ U with heap := s₂.heap, slotsUsed := s₂.slotsUsed } : State).setVm s₂.vm).setTop { g with pc := g.pc + len₂, stack := v.toList ++ g.stack })
    rw [← hs₂]
    exact hsteps
  · obtain ⟨e2, q2, q3, q4, q5, q6⟩ := id hsm
    have e3 : s₂ = ({ (U.calling g mk a).setFrames s₂.frames with heap := s₂.heap, slotsUsed := s₂.slotsUsed } : State).setVm s₂.vm := by
      have : s₂ = ({ s₂ with vm := (U.calling g mk a).vm } : State).setVm s₂.vm := rfl
      rw [e2] at this
      exact this
    have hf₂ : s₂.frames = .throwing q :: .java g :: U.frames.tail := hend
    have hW' : U.WarmedH s₂.vm := hW₂
    have hs₂ : s₂ = ((({ U with heap := s₂.heap, slotsUsed := s₂.slotsUsed } : State).setVm s₂.vm).setTop g).pushFrame (.throwing q) := by
      refine e3.trans ?_
      rw [hf₂, State.calling_eq h.top, State.setFrames_setFrames, State.pushFrame, State.frames_setTop _ hr', State.setTop_of_frames _ hr', State.setFrames_setFrames, hr]
      rfl
    have hsame : U.sameButNew ({ U with heap := s₂.heap, slotsUsed := s₂.slotsUsed } : State) L mc ms := by
      refine ⟨?_, q2, q3, q4, q5, q6⟩
      obtain ⟨t, ht, -⟩ := State.frames_cons hr
      show ({ U with heap := s₂.heap, slotsUsed := s₂.slotsUsed } : State) = { U.setFrames U.frames with heap := s₂.heap, slotsUsed := s₂.slotsUsed }
      rw [State.setFrames_self ht]
    subst hg
    refine Or.inr ⟨q, ⟨(({ U with heap := s₂.heap, slotsUsed := s₂.slotsUsed } : State).setVm s₂.vm), Ls ++ L, c0 + mc, s0 + ms⟩,
      ⟨X.admits, X.cas, X.clock, X.frames, X.room, X.hears, X.method, X.code, (X.here.setHeapUsed s₂.heap s₂.slotsUsed).setVm hW'.alike, X.tail, State.WarmedH.trans X.warmed hW', X.limits, X.bytes, X.same.trans (hsame.setVm s.vm)⟩,
      ⟨g, mk, s₂, L, E, ce, rfl, rfl, hx, hce, hcv, hcl, rfl, hL, rfl, rfl⟩, ?_⟩
    show Steps p.tables e below _ (((({ U with heap := s₂.heap, slotsUsed := s₂.slotsUsed } : State).setVm s₂.vm).setTop g).pushFrame (.throwing q))
    rw [← hs₂]
    exact hsteps
end
variable {p : Program} {l : Launch} {e : Env} {R : Room} {s : State} {m : MethodId} {args : Array Value} {below : List Frame} {meth : Method} {c : Code} {T : State} {H : Heap} {locs : List Loc} {cells slots : Nat}
theorem vx_callVX (X : Stand p l e R s m args below meth c T locs cells slots) (hexec : p.tables.exec = Jvm.exec) {own C : String} {index : Nat} {y : MethodName} {bytes : ByteArray} {maxL : Nat} {ret : Option FieldType} {hh : List (Nat × Nat × Nat × Nat)}
    (hown : s.vm.findClass own = some m.cls) (hlink : (Cond.methodLink own index y).before args s = true) (hinst : (Cond.instanceMethod y).before args s = true) (hsel : (Cond.selects C y y).before args s = true)
    (hcode : (Cond.codeWith y bytes maxL ret hh).before args s = true) (hy : y.cls ≠ "java/lang/invoke/MethodHandle" ∧ y.cls ≠ "java/lang/invoke/VarHandle")
    {W9 : Nat} {Pre : Pt → Array Value → Prop} {Post : Pt → Array Value → Option Value → Pt → Prop} {PostX : Pt → Array Value → Addr → Pt → Prop} (hK : vx_Back l R p e below s args y 3 W9 Pre Post PostX)
    {b : Addr} {cellB : Cell} (hcell : T.heap[b]? = some cellB) (hobj : cellB.vm.isStatics = false) (hcls : s.vm.findClass C = some cellB.cls)
    {g : JFrame} (hg : g.method = m) (hsize : g.locals.size = c.maxLocals) {argsL rest : List Value} (hlen : ∀ sig, parseMethodDescriptor y.desc = some sig → argsL.length = sig.parameters.length)
    (hstack : g.stack = argsL.reverse ++ .ref b :: rest) (hW : 2 * g.monitorRoom + (rest.map fun v => v.category).sum ≤ W9) (hdg : decode c.code g.pc = .ok (.invokevirtual index, 3))
    (hpre : ∀ vm₁, s.WarmedH vm₁ → Pre ⟨T.setVm vm₁, locs, cells, slots⟩ (Value.ref b :: argsL).toArray) :
    (∃ (v : Option Value) (vm₁ : Vm) (B : Pt), s.WarmedH vm₁ ∧ Stand p l e R s m args below meth c B.U B.locs B.cells B.slots ∧ Post ⟨T.setVm vm₁, locs, cells, slots⟩ (Value.ref b :: argsL).toArray v B ∧
      ∀ target, Steps p.tables e below (B.U.setTop { g with pc := g.pc + 3, stack := v.toList ++ rest }) target → Steps p.tables e below (T.setTop g) target) ∨
    (∃ (q : Addr) (vm₁ : Vm) (B : Pt), s.WarmedH vm₁ ∧ Stand p l e R s m args below meth c B.U B.locs B.cells B.slots ∧ PostX ⟨T.setVm vm₁, locs, cells, slots⟩ (Value.ref b :: argsL).toArray q B ∧
      Steps p.tables e below (T.setTop g) ((B.U.setTop { g with stack := rest }).pushFrame (.throwing q))) := by
  obtain ⟨mk, methM, hnamed, hmethM, hstM, habM⟩ := Cond.instanceMethod_spec hinst
  obtain ⟨m8, methM', cM, hn8, hmethM', -, -, -, -, -, -, hsigM⟩ := Cond.codeWith_spec hcode
  cases Option.some.inj (hn8.symm.trans hnamed)
  cases hmethM.symm.trans hmethM'
  obtain ⟨c2, r2, m2, q1, q2, q3, q4, kP, hkP, hkPi⟩ := Cond.selects_spec hsel
  cases hcls.symm.trans q1
  cases (State.methodFound?_of_named hnamed hy).symm.trans q2
  cases hnamed.symm.trans q3
  have hselP : selectMethod e.platform s.vm cellB.cls mk = .method mk := by rw [Launch.admits_selectMethod X.admits]; exact q4
  obtain ⟨vm₁, X₁, hstep₁⟩ := X.invokevirtual hexec hown hlink hnamed hmethM hstM hkP hkPi hy (a := b) (cell := cellB) hcell
    (fun z h => by rw [h] at hobj; cases hobj) hselP hmethM habM hkP hkPi (g := g) hg (argsL := argsL) (rest := rest) (hlen _ hsigM) hstack hdg
  rcases hK m meth c ⟨T.setVm vm₁, locs, cells, slots⟩ { g with stack := rest } (.invokevirtual index) mk (Value.ref b :: argsL).toArray X₁ hg hsize hdg hW (X₁.named hnamed) (hpre vm₁ X₁.warmed) with ⟨v, B, X', hpost, hsteps⟩ | ⟨q, B, X', hpost, hsteps⟩
  · exact Or.inl ⟨v, vm₁, B, X₁.warmed, X', hpost, fun target h => hstep₁ _ fun acts => by rw [doInvoke_state]; exact hsteps.trans h⟩
  · exact Or.inr ⟨q, vm₁, B, X₁.warmed, X', hpost, hstep₁ _ fun acts => by rw [doInvoke_state]; exact hsteps⟩
theorem vx_callSX (X : Stand p l e R s m args below meth c T locs cells slots) (hexec : p.tables.exec = Jvm.exec) {own : String} {index : Nat} {y : MethodName} {bytes : ByteArray} {maxL : Nat} {ret : Option FieldType} {hh : List (Nat × Nat × Nat × Nat)}
    (hown : s.vm.findClass own = some m.cls) (hlink : (Cond.methodLink own index y).before args s = true) (hstat : (Cond.static y).before args s = true) (hinit : (Cond.initialized y.cls).before args s = true)
    (hcode : (Cond.codeWith y bytes maxL ret hh).before args s = true) (hy : y.cls ≠ "java/lang/invoke/MethodHandle" ∧ y.cls ≠ "java/lang/invoke/VarHandle")
    {W9 : Nat} {Pre : Pt → Array Value → Prop} {Post : Pt → Array Value → Option Value → Pt → Prop} {PostX : Pt → Array Value → Addr → Pt → Prop} (hK : vx_Back l R p e below s args y 3 W9 Pre Post PostX)
    {g : JFrame} (hg : g.method = m) (hsize : g.locals.size = c.maxLocals) {argsL rest : List Value} (hlen : ∀ sig, parseMethodDescriptor y.desc = some sig → argsL.length = sig.parameters.length)
    (hstack : g.stack = argsL.reverse ++ rest) (hW : 2 * g.monitorRoom + (rest.map fun v => v.category).sum ≤ W9) (hdg : decode c.code g.pc = .ok (.invokestatic index, 3))
    (hpre : ∀ vm₁, s.WarmedH vm₁ → Pre ⟨T.setVm vm₁, locs, cells, slots⟩ argsL.toArray) :
    (∃ (v : Option Value) (vm₁ : Vm) (B : Pt), s.WarmedH vm₁ ∧ Stand p l e R s m args below meth c B.U B.locs B.cells B.slots ∧ Post ⟨T.setVm vm₁, locs, cells, slots⟩ argsL.toArray v B ∧
      ∀ target, Steps p.tables e below (B.U.setTop { g with pc := g.pc + 3, stack := v.toList ++ rest }) target → Steps p.tables e below (T.setTop g) target) ∨
    (∃ (q : Addr) (vm₁ : Vm) (B : Pt), s.WarmedH vm₁ ∧ Stand p l e R s m args below meth c B.U B.locs B.cells B.slots ∧ PostX ⟨T.setVm vm₁, locs, cells, slots⟩ argsL.toArray q B ∧
      Steps p.tables e below (T.setTop g) ((B.U.setTop { g with stack := rest }).pushFrame (.throwing q))) := by
  obtain ⟨mk, methM, cM, hnamed, hmethM, -, -, -, -, -, -, hsigM⟩ := Cond.codeWith_spec hcode
  have hstatic : methM.isStatic = true := Cond.static_spec hnamed hmethM hstat
  obtain ⟨kP, hkP, -⟩ := className_of_methodNamed hnamed
  have hinitP : kP.init = .initialized := Cond.initialized_spec (findClass_of_methodNamed hnamed) hkP hinit
  obtain ⟨vm₁, X₁, hstep₁⟩ := X.invokestatic hexec hown hlink hnamed hmethM hstatic hkP hinitP hy (g := g) hg (argsL := argsL) (rest := rest) (hlen _ hsigM) hstack hdg
  rcases hK m meth c ⟨T.setVm vm₁, locs, cells, slots⟩ { g with stack := rest } (.invokestatic index) mk argsL.toArray X₁ hg hsize hdg hW (X₁.named hnamed) (hpre vm₁ X₁.warmed) with ⟨v, B, X', hpost, hsteps⟩ | ⟨q, B, X', hpost, hsteps⟩
  · exact Or.inl ⟨v, vm₁, B, X₁.warmed, X', hpost, fun target h => hstep₁ _ fun acts => by rw [doInvoke_state]; exact hsteps.trans h⟩
  · exact Or.inr ⟨q, vm₁, B, X₁.warmed, X', hpost, hstep₁ _ fun acts => by rw [doInvoke_state]; exact hsteps⟩
theorem vx_callVW (X : Stand p l e R s m args below meth c T locs cells slots) (hexec : p.tables.exec = Jvm.exec) {own C : String} {index : Nat} {y : MethodName} {bytes : ByteArray} {maxL : Nat} {ret : Option FieldType} {hh : List (Nat × Nat × Nat × Nat)}
    (hown : s.vm.findClass own = some m.cls) (hlink : (Cond.methodLink own index y).before args s = true) (hinst : (Cond.instanceMethod y).before args s = true) (hsel : (Cond.selects C y y).before args s = true)
    (hcode : (Cond.codeWith y bytes maxL ret hh).before args s = true) (hy : y.cls ≠ "java/lang/invoke/MethodHandle" ∧ y.cls ≠ "java/lang/invoke/VarHandle")
    {W9 : Nat} {Pre : Pt → Array Value → Prop} {Post : Pt → Array Value → Option Value → Pt → Prop} (hK : Back l R p e below s args y 3 W9 Pre Post)
    {b : Addr} {cellB : Cell} (hcell : T.heap[b]? = some cellB) (hobj : cellB.vm.isStatics = false) (hcls : s.vm.findClass C = some cellB.cls)
    {g : JFrame} (hg : g.method = m) (hsize : g.locals.size = c.maxLocals) {argsL rest : List Value} (hlen : ∀ sig, parseMethodDescriptor y.desc = some sig → argsL.length = sig.parameters.length)
    (hstack : g.stack = argsL.reverse ++ .ref b :: rest) (hW : 2 * g.monitorRoom + (rest.map fun v => v.category).sum ≤ W9) (hdg : decode c.code g.pc = .ok (.invokevirtual index, 3))
    (hpre : ∀ vm₁, s.WarmedH vm₁ → Pre ⟨T.setVm vm₁, locs, cells, slots⟩ (Value.ref b :: argsL).toArray) :
    ∃ (v : Option Value) (vm₁ : Vm) (B : Pt), s.WarmedH vm₁ ∧ Stand p l e R s m args below meth c B.U B.locs B.cells B.slots ∧ Post ⟨T.setVm vm₁, locs, cells, slots⟩ (Value.ref b :: argsL).toArray v B ∧
      ∀ target, Steps p.tables e below (B.U.setTop { g with pc := g.pc + 3, stack := v.toList ++ rest }) target → Steps p.tables e below (T.setTop g) target := by
  obtain ⟨mk, methM, hnamed, hmethM, hstM, habM⟩ := Cond.instanceMethod_spec hinst
  obtain ⟨m8, methM', cM, hn8, hmethM', -, -, -, -, -, -, hsigM⟩ := Cond.codeWith_spec hcode
  cases Option.some.inj (hn8.symm.trans hnamed)
  cases hmethM.symm.trans hmethM'
  obtain ⟨c2, r2, m2, q1, q2, q3, q4, kP, hkP, hkPi⟩ := Cond.selects_spec hsel
  cases hcls.symm.trans q1
  cases (State.methodFound?_of_named hnamed hy).symm.trans q2
  cases hnamed.symm.trans q3
  have hselP : selectMethod e.platform s.vm cellB.cls mk = .method mk := by rw [Launch.admits_selectMethod X.admits]; exact q4
  obtain ⟨vm₁, X₁, hstep₁⟩ := X.invokevirtual hexec hown hlink hnamed hmethM hstM hkP hkPi hy (a := b) (cell := cellB) hcell
    (fun z h => by rw [h] at hobj; cases hobj) hselP hmethM habM hkP hkPi (g := g) hg (argsL := argsL) (rest := rest) (hlen _ hsigM) hstack hdg
  obtain ⟨v, B, X', hpost, hsteps⟩ := hK m meth c ⟨T.setVm vm₁, locs, cells, slots⟩ { g with stack := rest } (.invokevirtual index) mk (Value.ref b :: argsL).toArray X₁ hg hsize hdg hW (X₁.named hnamed) (hpre vm₁ X₁.warmed)
  exact ⟨v, vm₁, B, X₁.warmed, X', hpost, fun target h => hstep₁ _ fun acts => by rw [doInvoke_state]; exact hsteps.trans h⟩
abbrev vx_CVW (R : Room) (s : State) (args : Array Value) (own C : String) (index : Nat) (y : MethodName) (bytes : ByteArray) (maxL : Nat) (ret : Option FieldType) (hh : List (Nat × Nat × Nat × Nat)) (ws : List Cond) (rm : Room) (mc ms n : Nat) : Prop :=
  (rm.cells = mc ∧ rm.slots = ms ∧ rm.frames + 1 ≤ R.frames ∧ 8 + (maxL + 11) + rm.locals ≤ R.locals ∧ (∀ w ∈ ws, ∀ (a' : Array Value) (U : State), s.WarmedH U.vm → w.before a' U = true) ∧ Cond.codeWith y bytes maxL ret hh ∈ ws) ∧
  (Cond.codeWith y bytes maxL ret hh).before args s = true ∧ (Cond.initialized y.cls).before args s = true ∧ (y.cls ≠ "java/lang/invoke/MethodHandle" ∧ y.cls ≠ "java/lang/invoke/VarHandle") ∧
  (∀ sig, parseMethodDescriptor y.desc = some sig → n = sig.parameters.length) ∧ (Cond.methodLink own index y).before args s = true ∧ (Cond.instanceMethod y).before args s = true ∧ (Cond.selects C y y).before args s = true
theorem vx_cwVW {own C : String} {index maxL mc ms : Nat} {y : MethodName} {bytes : ByteArray} {ret : Option FieldType} {hh : List (Nat × Nat × Nat × Nat)} {Ts ws ws' : List Cond} {rm : Room} (n : Nat) (ht : ∀ w ∈ Ts, w.before args s = true) (hT : GoodIn Ts (wsV own index C y ws)) (hw : ws = Cond.codeWith y bytes maxL ret hh :: ws') (hrc : rm.cells = mc) (hrs : rm.slots = ms)
    (hd : y.cls = C ∧ y.cls ≠ "java/lang/invoke/MethodHandle" ∧ y.cls ≠ "java/lang/invoke/VarHandle" ∧ (parseMethodDescriptor y.desc).map (fun d => d.parameters.length) = some n) (hR : rm.frames + 1 ≤ R.frames ∧ 8 + (maxL + 11) + rm.locals ≤ R.locals) :
    vx_CVW R s args own C index y bytes maxL ret hh ws rm mc ms n := by
  obtain ⟨hC, hd⟩ := hd
  subst hC
  have ok : ∀ w ∈ wsV own index y.cls y ws, w.before args s = true := fun w h => ht w (hT w h).1
  have hG : GoodIn Ts ws := fun w h => hT w (by unfold wsV; exact List.mem_append_right _ h)
  have hc : Cond.codeWith y bytes maxL ret hh ∈ ws := by rw [hw]; exact List.mem_cons_self
  refine ⟨⟨hrc, hrs, hR.1, hR.2, pay_in ht hG, hc⟩, ht _ (hG _ hc).1, ok _ (by simp [wsV]), ⟨hd.1, hd.2.1⟩, fun sig h => ?_, ok _ (by simp [wsV]), ok _ (by simp [wsV]), ok _ (by simp [wsV])⟩
  have h2 := hd.2.2
  rw [h] at h2
  exact (Option.some.inj h2).symm
theorem vx_runVW {y : MethodName} {bytes cc : ByteArray} {maxL nL mc ms n index : Nat} {ret : Option FieldType} {hh : List (Nat × Nat × Nat × Nat)} {ws : List Cond} {rm : Room} {Pc : Array Value → State → Prop} {Qc : Array Value → State → Outcome → State → Prop} {free : Addr → Prop} {Ts : List Cond} {own C : String} {b : Addr} {As rest : List Value} {g : JFrame}
    (S : CallFix p m c cc nL s args Ts own) (hM : Met l y ws rm Pc Qc mc ms free) (cw : vx_CVW R s args own C index y bytes maxL ret hh ws rm mc ms n) (hp : PreV s H C b Pc As)
    (hg : g.method = m) (hn : As.length = n) (hsize : g.locals.size = nL) (hstack : g.stack = As.reverse ++ .ref b :: rest) (hW : 2 * g.monitorRoom + (rest.map fun v => v.category).sum ≤ 8) (hdg : decode cc g.pc = .ok (.invokevirtual index, 3)) (hf : cells + mc ≤ R.cells ∧ slots + ms ≤ R.slots) :
    va_Run p l e R s m args below meth c H locs cells slots mc ms g rest (Qc (Value.ref b :: As).toArray) free := by
  obtain ⟨⟨hrc, hrs, hfr, hlo, hws, hcw⟩, hcode, hini, hy, hlen, hl, hin, hse⟩ := cw
  have hK : Back l R p e below s args y 3 8 (PreOf R mc ms Pc) (PostOf Qc mc ms free) := va_backW (hh := hh) (bytes := bytes) (maxL := maxL) (ret := ret) hM hp.1 hrc hrs hfr hlo hws hcw (fun a' U hW => word_at hW (Or.inl (by first | rfl | simp [Cond.onTables, Cond.keeps, Cond.steady])) hini)
  obtain ⟨hx, hb, hml, ho, -⟩ := S
  obtain ⟨-, ⟨cellB, hcB, hoB, hclB⟩, hPc⟩ := hp
  intro T hT X
  obtain ⟨v, vm₁, ⟨U', l2, c2, s2⟩, hW₁, X', ⟨g', mk, t, L, e1, e2, hq, h1, hL, h2, h3⟩, st⟩ := vx_callVW X hx (C := C) (hh := hh) (bytes := bytes) (maxL := maxL) (ret := ret) ho hl hin hse hcode hy hK (by rw [hT]; exact hcB) hoB hclB hg (hsize.trans hml.symm) (argsL := As) (rest := rest) (fun sig h => hn.trans (hlen sig h)) hstack hW (by rw [hb]; exact hdg)
    (fun vm₁ hW₁ => ⟨hf.1, hf.2, hPc (T.setVm vm₁) hT hW₁⟩)
  dsimp only [Pt.U, Pt.locs, Pt.cells, Pt.slots] at X' e1 e2 h1 h2 h3 st
  subst h1; subst h2; subst h3
  exact ⟨v, (T.setVm vm₁).calling g' mk (Value.ref b :: As).toArray, t, U', L, hT, X', hL, e1, e2, hq, st⟩
section
variable {y : MethodName} {bytes cc : ByteArray} {maxL nL mc ms n index : Nat} {ret : Option FieldType} {ws : List Cond} {rm : Room} {Pc : Array Value → State → Prop} {Qc : Array Value → State → Outcome → State → Prop} {XC : String → State → State → Prop} {free : Addr → Prop} {Ts : List Cond} {own C : String} {b : Addr} {As rest : List Value} {g : JFrame}
theorem vx_runVX {hh : List (Nat × Nat × Nat × Nat)} (S : CallFix p m c cc nL s args Ts own) (hM : vx_Met l y ws rm Pc Qc XC mc ms free) (cw : vx_CVW R s args own C index y bytes maxL ret hh ws rm mc ms n) (hp : PreV s H C b Pc As)
    (hg : g.method = m) (hn : As.length = n) (hsize : g.locals.size = nL) (hstack : g.stack = As.reverse ++ .ref b :: rest) (hW : 2 * g.monitorRoom + (rest.map fun v => v.category).sum ≤ 8) (hdg : decode cc g.pc = .ok (.invokevirtual index, 3)) (hf : cells + mc ≤ R.cells ∧ slots + ms ≤ R.slots) :
    vx_Run p l e R s m args below meth c H locs cells slots mc ms g rest (Qc (Value.ref b :: As).toArray) XC free := by
  obtain ⟨⟨hrc, hrs, hfr, hlo, hws, hcw⟩, hcode, hini, hy, hlen, hl, hin, hse⟩ := cw
  have hK : vx_Back l R p e below s args y 3 8 (PreOf R mc ms Pc) (PostOf Qc mc ms free) (vx_Post XC mc ms free) := vx_backW (hh := hh) (bytes := bytes) (maxL := maxL) (ret := ret) hM hp.1 hrc hrs hfr hlo hws hcw (fun a' U hW => word_at hW (Or.inl (by first | rfl | simp [Cond.onTables, Cond.keeps, Cond.steady])) hini)
  obtain ⟨hx, hb, hml, ho, -⟩ := S
  obtain ⟨-, ⟨cellB, hcB, hoB, hclB⟩, hPc⟩ := hp
  intro T hT X
  rcases vx_callVX X hx (C := C) (hh := hh) (bytes := bytes) (maxL := maxL) (ret := ret) ho hl hin hse hcode hy hK (by rw [hT]; exact hcB) hoB hclB hg (hsize.trans hml.symm) (argsL := As) (rest := rest) (fun sig h => hn.trans (hlen sig h)) hstack hW (by rw [hb]; exact hdg)
    (fun vm₁ hW₁ => ⟨hf.1, hf.2, hPc (T.setVm vm₁) hT hW₁⟩) with ⟨v, vm₁, ⟨U', l2, c2, s2⟩, hW₁, X', ⟨g', mk, t, L, e1, e2, hq, h1, hL, h2, h3⟩, st⟩ | ⟨q, vm₁, ⟨U', l2, c2, s2⟩, hW₁, X', ⟨g', mk, t, L, E, ce, e1, e2, hq, hce, hcv, hcl, h1, hL, h2, h3⟩, st⟩
  · dsimp only [Pt.U, Pt.locs, Pt.cells, Pt.slots] at X' e1 e2 h1 h2 h3 st
    subst h1; subst h2; subst h3
    exact Or.inl ⟨v, (T.setVm vm₁).calling g' mk (Value.ref b :: As).toArray, t, U', L, hT, X', hL, e1, e2, hq, st⟩
  · dsimp only [Pt.U, Pt.locs, Pt.cells, Pt.slots] at X' e1 e2 h1 h2 h3 st hcl
    subst h1; subst h2; subst h3
    exact Or.inr ⟨q, (T.setVm vm₁).calling g' mk (Value.ref b :: As).toArray, t, U', L, E, ce, hT, X', hL, e1, e2, hq, hce, hcv, vx_cls hW₁ hcl, st⟩
theorem vx_runSX {hh : List (Nat × Nat × Nat × Nat)} (S : CallFix p m c cc nL s args Ts own) (hM : vx_Met l y ws rm Pc Qc XC mc ms free) (cw : vx_CSW R s args own index y bytes maxL ret hh ws rm mc ms n) (hp : PreS s H Pc As)
    (hg : g.method = m) (hn : As.length = n) (hsize : g.locals.size = nL) (hstack : g.stack = As.reverse ++ rest) (hW : 2 * g.monitorRoom + (rest.map fun v => v.category).sum ≤ 8) (hdg : decode cc g.pc = .ok (.invokestatic index, 3)) (hf : cells + mc ≤ R.cells ∧ slots + ms ≤ R.slots) :
    vx_Run p l e R s m args below meth c H locs cells slots mc ms g rest (Qc As.toArray) XC free := by
  obtain ⟨⟨hrc, hrs, hfr, hlo, hws, hcw⟩, hcode, hini, hy, hlen, hl, hstt⟩ := cw
  have hK : vx_Back l R p e below s args y 3 8 (PreOf R mc ms Pc) (PostOf Qc mc ms free) (vx_Post XC mc ms free) := vx_backW (hh := hh) (bytes := bytes) (maxL := maxL) (ret := ret) hM hp.1 hrc hrs hfr hlo hws hcw (fun a' U hW => word_at hW (Or.inl (by first | rfl | simp [Cond.onTables, Cond.keeps, Cond.steady])) hini)
  obtain ⟨hx, hb, hml, ho, -⟩ := S
  intro T hT X
  rcases vx_callSX X hx (hh := hh) (bytes := bytes) (maxL := maxL) (ret := ret) ho hl hstt hini hcode hy hK hg (hsize.trans hml.symm) (argsL := As) (rest := rest) (fun sig h => hn.trans (hlen sig h)) hstack hW (by rw [hb]; exact hdg)
    (fun vm₁ hW₁ => ⟨hf.1, hf.2, hp.2 (T.setVm vm₁) hT hW₁⟩) with ⟨v, vm₁, ⟨U', l2, c2, s2⟩, hW₁, X', ⟨g', mk, t, L, e1, e2, hq, h1, hL, h2, h3⟩, st⟩ | ⟨q, vm₁, ⟨U', l2, c2, s2⟩, hW₁, X', ⟨g', mk, t, L, E, ce, e1, e2, hq, hce, hcv, hcl, h1, hL, h2, h3⟩, st⟩
  · dsimp only [Pt.U, Pt.locs, Pt.cells, Pt.slots] at X' e1 e2 h1 h2 h3 st
    subst h1; subst h2; subst h3
    exact Or.inl ⟨v, (T.setVm vm₁).calling g' mk As.toArray, t, U', L, hT, X', hL, e1, e2, hq, st⟩
  · dsimp only [Pt.U, Pt.locs, Pt.cells, Pt.slots] at X' e1 e2 h1 h2 h3 st hcl
    subst h1; subst h2; subst h3
    exact Or.inr ⟨q, (T.setVm vm₁).calling g' mk As.toArray, t, U', L, E, ce, hT, X', hL, e1, e2, hq, hce, hcv, vx_cls hW₁ hcl, st⟩
end
end VXH
theorem vx_ofWH {l : Launch} {y : MethodName} {ws ws' : List Cond} {rm : Room} {Pc : Array Value → State → Prop} {Qc : Array Value → State → Outcome → State → Prop} {XC : String → State → State → Prop} {mc ms : Nat} {free : Addr → Prop} {cc : ByteArray} {maxL : Nat} {ret : Option FieldType} {hh : List (Nat × Nat × Nat × Nat)}
    (hy : plainName y.cls = true) (hw : ws = Cond.codeWith y cc maxL ret hh :: ws')
    (body : ∀ p e s m args below meth c s₁, BodyLoose p l y (headSpec ws rm) cc maxL ret e s m args below meth c s₁ → c.maxLocals = maxL → Pc args s →
      W p l e (headSpec ws rm).room s m args below meth c s.heap [] 0 0 (vx_MQ below Qc XC args s mc ms free) (entryFrame m args maxL)) : vx_Met l y ws rm Pc Qc XC mc ms free := by
  refine MetFree.of_bodyS (code := cc) (maxLocals := maxL) (ret := ret) hy ?_ ?_
  · intro args s m h hn
    obtain ⟨m9, meth, c, hn9, h1, h2, h3, h4, -, h5, h6, -⟩ := Cond.codeWith_spec (atoms_spec (ws := ws) h _ (by rw [hw]; exact List.mem_cons_self))
    cases hn.symm.trans hn9
    exact ⟨meth, c, h1, h2, h3, h4, h5, h6⟩
  · intro p e s m args below meth c s₁ B hml hP _
    have hh0 : s₁.heap = s.heap := by rw [B.state]; rfl
    obtain ⟨t, a1, o, b1, b2, b3⟩ := body p e s m args below meth c s₁ B hml hP s₁ hh0 (Stand.of_body B)
    exact ⟨t, o, a1, b1, b2, b3⟩
/-! ===== END ===== -/
/-! ===== BEGIN what the machine throws by itself, no traces kept ===== -/
section VXM
set_option maxHeartbeats 1000000 in
/-- the machine throws cls with the message text, no traces kept: from its note over the frame g to 'throwing' over the same frame (follows the proofs of Stand.vmThrowsMessage, Shelf/KitTracedVmS.lean, and Stand.throwsMessageColdBareV, StandMessageColdV.lean, without the step out of the frame) -/
theorem vx_vmAt {p : Program} {l : Launch} {e : Env} {R : Room} {s : State} {m₀ : MethodId} {args : Array Value} {below : List Frame} {meth : Method} {c : Code} {W : State} {locs : List Loc} {cells slots : Nat}
    (X : Stand p l e R s m₀ args below meth c W locs cells slots) (hexec : p.tables.exec = Jvm.exec) (htr : e.platform.stackTraces = false) {cls : String} {names : List String} {text : String}
    (hcls : Bundle.fit cls = true) (hnames : ∀ n ∈ names, Bundle.fit n = true) (hsoe : (cls == "java/lang/StackOverflowError") = false) (hoom : (cls == "java/lang/OutOfMemoryError") = false)
    (h : ∀ a ∈ Bundle.messageArmAtoms cls names, a.before args s = true)
    (hlocs : ∀ x ∈ locs, ∀ cell, s.heap[x.base]? = some cell → cell.vm.isStatics = false)
    (htext : (text == notModelled) = false) (hlimit : ¬ (stringBytes (stringToUtf16 text)).size > e.platform.arrayLengthLimit) (hheap : ¬ (stringBytes (stringToUtf16 text)).size * componentBytes .byte > e.platform.maxHeapBytes)
    {g : JFrame} (hg : g.method = m₀) (hsize : g.locals.size = c.maxLocals)
    (hRframes : names.length + 4 < R.frames) (hRlocals : 2 * g.monitorRoom + (g.stack.map fun v => v.category).sum + 10240 ≤ R.locals) (hshort : 13 * names.length + 55 ≤ 10240)
    (hRcells : cells + 3 ≤ R.cells) (hRslots : slots + ((stringBytes (stringToUtf16 text)).size + 4 + 6) ≤ R.slots) (hlocks : meth.locks = false) :
    ∃ (S : State) (q : Addr) (ce : Cell), (∀ target, Steps p.tables e below ((S.setTop g).pushFrame (.throwing q)) target → Steps p.tables e below ((W.setTop g).pushFrame (.throwNew cls (some text) none)) target) ∧
      Stand p l e R s m₀ args below meth c S locs (cells + 3) (slots + ((stringBytes (stringToUtf16 text)).size + 4 + 6)) ∧ S.heap[q]? = some ce ∧ s.vm.findClass cls = some ce.cls ∧ ce.vm = .none := by
  have howns : e.platform.frameOwnsMonitors = true := by rw [X.admits.platform]
  have hfin : e.platform.finalization = false := by rw [X.admits.platform]
  have hpl : e.platform.magicAccessors = ({} : Platform).magicAccessors := by rw [X.admits.platform]
  have a : ∀ x, x ∈ Bundle.messageArmAtoms cls names → x.holds args s none s [] = true := fun x hx => h x hx
  obtain ⟨T, Z0, L, -, Y⟩ := ThrowableC.of_atoms (args := args) howns hfin hpl (fun x hx => h x (by simp [Bundle.messageArmAtoms, hx]))
  obtain ⟨Z, M, LZ, LM, hnZ⟩ := Init0T.ofS_atoms (args := args) hpl L Y (fun x hx => h x (by simp [Bundle.messageArmAtoms, hx]))
  obtain ⟨P1, Ps, hlen, L1, hL, hP1m, hlink1, hlink⟩ := Bundle.chainS (args := args) hpl hnZ names cls hcls hnames (fun x hx => h x (by simp [Bundle.messageArmAtoms, hx]))
  obtain ⟨Zs, LZs, hn4, hfitv, hfitc⟩ := StringT.of_atoms (args := args) (fun x hx => h x (by simp [Bundle.messageArmAtoms, hx]))
  have hfound : s.vm.findClass cls = some P1.m.cls := findClass_of_methodNamed hP1m
  obtain ⟨c1, kX, hc1, hk, hord, -, -, hn6⟩ := Cond.instantiable_spec (a (.instantiable cls 6) (by simp [Bundle.messageArmAtoms]))
  cases Option.some.inj (hc1.symm.trans hfound)
  have hinit := Cond.initialized_spec hfound hk (a (.initialized cls) (by simp [Bundle.messageArmAtoms]))
  have hctor : kX.findMethod "<init>" "(Ljava/lang/String;)V" = some P1.m.idx := findMethod_of_methodNamed hP1m hk
  have hsel0 : selectMethod e.platform s.vm P1.m.cls T.fill0 = .method T.fill0 := by
    obtain ⟨c2, r2, m2, q1, q2, q3, q4, -⟩ := Cond.selects_spec (a (.selects cls Bundle.tFill0 Bundle.tFill0) (by simp [Bundle.messageArmAtoms]))
    cases Option.some.inj (q1.symm.trans hfound)
    cases Option.some.inj (q2.symm.trans (State.methodFound?_of_named Y.fill0 (by decide)))
    cases Option.some.inj (q3.symm.trans Y.fill0)
    rw [Launch.admits_selectMethod X.admits]; exact q4
  have hselF : selectMethod e.platform s.vm P1.m.cls T.fill = .method T.fill := by
    obtain ⟨c2, r2, m2, q1, q2, q3, q4, -⟩ := Cond.selects_spec (a (.selects cls Bundle.tFill Bundle.tFill) (by simp [Bundle.messageArmAtoms]))
    cases Option.some.inj (q1.symm.trans hfound)
    cases Option.some.inj (q2.symm.trans (State.methodFound?_of_named Y.fill (by decide)))
    cases Option.some.inj (q3.symm.trans Y.fill)
    rw [Launch.admits_selectMethod X.admits]; exact q4
  obtain ⟨cellS0, hcS0, hiss⟩ := Y.statics
  obtain ⟨u0, hu0⟩ := Cond.staticRefV Y.unassigned L.unassignedStatic L.statics hcS0 hiss (a (.isRef (.static Bundle.tN "UNASSIGNED_STACK" Bundle.steD)) (by simp [Bundle.messageArmAtoms]))
  obtain ⟨sen, hsen⟩ := Cond.staticRefV Y.sentinel L.sentinelStatic L.statics hcS0 hiss (a (.isRef (.static Bundle.tN "SUPPRESSED_SENTINEL" Bundle.listD)) (by simp [Bundle.messageArmAtoms]))
  obtain ⟨ci198, i198, fB, hk198, hg198, ha198, hsB, -, hnB, htB, hffB⟩ := Cond.ownField (t := .object "java/lang/Object") Y.found L.cls (by decide +kernel) (a (.fieldLink Bundle.tN 198 Bundle.tN "backtrace" "Ljava/lang/Object;") (by simp [Bundle.messageArmAtoms])) (a (.lays Bundle.tN Bundle.tN "backtrace" "Ljava/lang/Object;") (by simp [Bundle.messageArmAtoms])) e.platform hpl
  obtain ⟨cellS, hcS', heS, -, hkeep⟩ := X.same.2.2.2.2.2 T.aS cellS0 hcS0
  have hcellS : W.heap[T.aS]? = some cellS := hcS'
  have hout' : ∀ i, (⟨T.aS, i⟩ : Loc) ∉ locs := fun i hmem => by
    have := hlocs _ hmem cellS0 hcS0
    rw [hiss] at this; cases this
  have hknownS : cellS.vm ≠ .unknown := by
    rw [heS]; intro hu
    rw [show cellS0.vm = .unknown from hu] at hiss
    cases hiss
  have hvU : cellS.slots[T.fUnassigned.slot]? = some u0.v := by rw [hkeep _ (hout' _)]; exact hu0
  have hvSen : cellS.slots[T.fSentinel.slot]? = some sen.v := by rw [hkeep _ (hout' _)]; exact hsen
  obtain ⟨iM, hffM⟩ := Y.msg
  obtain ⟨tyC, dC, hdC, hdnC⟩ := Cond.laysAt hfound hk Y.cause (a (.lays cls Bundle.tN "cause" "Ljava/lang/Throwable;") (by simp [Bundle.messageArmAtoms]))
  obtain ⟨tyS, dS, hdS, hdnS⟩ := Cond.laysAt hfound hk Y.stack (a (.lays cls Bundle.tN "stackTrace" Bundle.steD) (by simp [Bundle.messageArmAtoms]))
  obtain ⟨tyP, dP, hdP, hdnP⟩ := Cond.laysAt hfound hk Y.supp (a (.lays cls Bundle.tN "suppressedExceptions" Bundle.listD) (by simp [Bundle.messageArmAtoms]))
  obtain ⟨tyM, dM, hdM, hdnM⟩ := Cond.laysAt hfound hk hffM (a (.lays cls Bundle.tN "detailMessage" "Ljava/lang/String;") (by simp [Bundle.messageArmAtoms]))
  obtain ⟨tyB, dB, hdB, hdnB⟩ := Cond.laysAt hfound hk hffB (a (.lays cls Bundle.tN "backtrace" "Ljava/lang/Object;") (by simp [Bundle.messageArmAtoms]))
  have bC := Cond.laysApart hdB hdC hdnB hdnC (by rw [hnB, Y.causeName]; decide)
  have bS := Cond.laysApart hdB hdS hdnB hdnS (by rw [hnB, Y.stackName]; decide)
  have bP := Cond.laysApart hdB hdP hdnB hdnP (by rw [hnB, Y.suppName]; decide)
  have hbk : ((preparedCellV T.toThrowableT (freshCell P1.m.cls kX) (W.heap.size + 2) u0 sen).withEntry W.cur).slots[fB.slot]? = some .null := by
    have := fresh_default (c := P1.m.cls) tyB
    rw [htB] at this
    simpa [preparedCellV, Cell.setSlot, Cell.withEntry, Array.getElem?_setIfInBounds, bC, bS, bP, bC.symm, bS.symm, bP.symm, defaultValue] using this
  have tkC := Takes.of_laid (v := .ref (W.heap.size + 2)) hk hord tyC (by rw [Y.causeType]; rfl)
  have tkS := Takes.of_laid (v := u0.v) hk hord tyS (by rw [Y.stackType]; exact fits_refV_array _ u0)
  have tkP := Takes.of_laid (v := sen.v) hk hord tyP (by rw [Y.suppType]; exact fits_refV_object _ sen)
  have tkM := Takes.of_laid (v := .ref (W.heap.size + 1)) hk hord tyM (by rw [Y.msgType]; rfl)
  have hskip : SkipFacts T e.platform s (fun u => u) u0 ((preparedCellV T.toThrowableT (freshCell P1.m.cls kX) (W.heap.size + 2) u0 sen).withEntry W.cur) := ⟨{ ci198 := ci198, i198 := i198, fBack := fB }, ⟨hk198, hg198, ha198, hsB⟩, hbk, fun _ _ => rfl⟩
  have h0 : At W g.method c below := by rw [hg]; exact X.here
  obtain ⟨hbeyond, hfreeW⟩ := X.vmMayThrow hsize (.throwNew cls (some text) none) (fun f hf => by cases hf) rfl hRlocals
  have hfr' : W.frames.length + Ps.length + 4 < (e.platform.stackLimits W.me).1 := by have := X.framesAbove hRframes; omega
  have hwd' : (stackUse (.java g :: W.frames.tail)).2 + 13 * Ps.length + 55 ≤ (e.platform.stackLimits W.me).2 := by have := X.stackAbove hsize (K := 13 * Ps.length + 55) (by omega); omega
  have hslots : W.slotsUsed + (stringBytes (stringToUtf16 text)).size + Zs.kS.instanceTypes.size + kX.instanceTypes.size ≤ e.platform.maxSlots := by
    have := X.slotsAbove hRslots
    rw [hn4, hn6]
    omega
  obtain ⟨vm', hW', st⟩ := Steps.vmThrowsMessageColdByV p (s₀ := s) (S := W) (g := g) h0 hexec T L Z LZ M LM X.warmed (t := W.cur) rfl Zs LZs P1 L1 Ps hL hlink1 hlink hsoe hoom hfound hk hinit hord hctor
    (Launch.admits_hotImplicitExceptions X.admits) hbeyond hfreeW htext hlimit hheap (X.cellsAbove hRcells) hslots (hfitv _) (hfitc _)
    (Nn := fun u => u) heapOnly_id (fun _ _ => rfl) (fun _ => rfl) (fun u x y => setCell_twice _ _ _ _) (fun _ => Nat.le_refl _) (cN := ((preparedCellV T.toThrowableT (freshCell P1.m.cls kX) (W.heap.size + 2) u0 sen).withEntry W.cur))
    hsel0 hcellS hknownS hvU tkS (fun _ hu => hu) (fun _ hu => hu) rfl rfl rfl (by simp [preparedCellV, Cell.setSlot, Cell.withEntry]) hskip (fun _ _ hA hW _ hroom _ hrest => L.nativeOff p htr hA hW hroom hrest) hselF hvSen tkC tkP tkM Y.objLocals rfl hfr' hwd'
  rw [plainBareV_eq T.toThrowableT (W.heap.size + 2) u0 sen (.ref (W.heap.size + 1)) W.cur rfl rfl] at st
  obtain ⟨-, -, w3, w4, -, -, -⟩ := withThrown_facts e.platform W Zs text P1.m.cls kX
  have X3 := ((X.pushed (bytesOf Zs.cB (stringToUtf16 text))).pushed (stringAt Zs.cS Zs.kS Zs.fv Zs.fc (stringToUtf16 text) W.heap.size)).pushed (freshCell P1.m.cls kX)
  rw [← withString_eq] at X3
  have X4 := X3.noted hW'
  have ha : (W.heap.size + 2) < ((withThrown W Zs text P1.m.cls kX).setVm vm').heap.size := by show _ < (withThrown W Zs text P1.m.cls kX).heap.size; rw [w3]; omega
  have hcell : ((withThrown W Zs text P1.m.cls kX).setVm vm').heap[(W.heap.size + 2)]? = some (freshCell P1.m.cls kX) := w4
  have X5 := ((((X4.stored hcell T.fCause.slot (.ref (W.heap.size + 2))).storedAgain ha T.fStack.slot u0.v).storedAgain ha T.fSupp.slot sen.v).storedAgain ha T.fStack.slot u0.v).storedAgain ha T.fMsg.slot (.ref (W.heap.size + 1))
  obtain ⟨g₁, hfrM⟩ := X5.frames_eq
  have hU : ((((withThrown W Zs text P1.m.cls kX).setVm vm').setCell (W.heap.size + 2) (plainBareV T.toThrowableT (freshCell P1.m.cls kX) (W.heap.size + 2) u0 sen (.ref (W.heap.size + 1)))).setTop g).pushFrame (.throwing (W.heap.size + 2)) = (((withThrown W Zs text P1.m.cls kX).setVm vm').setCell (W.heap.size + 2) (plainBareV T.toThrowableT (freshCell P1.m.cls kX) (W.heap.size + 2) u0 sen (.ref (W.heap.size + 1)))).setFrames (.throwing (W.heap.size + 2) :: .java g :: below) := by
    rw [State.pushFrame, State.frames_setTop _ hfrM, State.setTop_of_frames _ hfrM, State.setFrames_setFrames]
  have b1 : (bytesOf Zs.cB (stringToUtf16 text)).slots.size = (stringBytes (stringToUtf16 text)).size := by
    rw [(Cell.writeAll_facts _ _).2.2]; simp [bytes0]
  have b2 : (stringAt Zs.cS Zs.kS Zs.fv Zs.fc (stringToUtf16 text) W.heap.size).slots.size = 4 := by simp [string0, Cell.setSlot, hn4]
  have b3 : (freshCell P1.m.cls kX).slots.size = 6 := by simp [hn6]
  rw [b1, b2, b3] at X5
  have e9 : slots + (stringBytes (stringToUtf16 text)).size + 4 + 6 = slots + ((stringBytes (stringToUtf16 text)).size + 4 + 6) := by omega
  rw [e9] at X5
  simp only [List.append_assoc, List.cons_append, List.nil_append] at X5
  refine ⟨((withThrown W Zs text P1.m.cls kX).setVm vm').setCell (W.heap.size + 2) (plainBareV T.toThrowableT (freshCell P1.m.cls kX) (W.heap.size + 2) u0 sen (.ref (W.heap.size + 1))), W.heap.size + 2, _, fun target ht => st _ (by rw [X.tail, ← hU]; exact ht),
    X5.forget (fun y hy => ?_), heapAt_setCell_self _ ha, hfound, rfl⟩
  simp only [List.mem_cons, List.not_mem_nil, or_false] at hy
  have hge : s.heap.size ≤ W.heap.size := X.same.2.1
  rcases hy with rfl | rfl | rfl | rfl | rfl <;> exact Nat.le_trans hge (Nat.le_add_right _ 2)
set_option maxHeartbeats 1000000 in
/-- the machine throws NullPointerException, no traces kept: from its note over the frame g to 'throwing' over the same frame (follows the proof of Stand.vmThrowsNpe, Shelf42/KT2.lean; throwsNpeColdBareVAt, Shelf42/NT91.lean, called) -/
theorem vx_npeAt {p : Program} {l : Launch} {e : Env} {R : Room} {s : State} {m₀ : MethodId} {args : Array Value} {below : List Frame} {meth : Method} {c : Code} {W : State} {locs : List Loc} {cells slots : Nat}
    (X : Stand p l e R s m₀ args below meth c W locs cells slots) (hexec : p.tables.exec = Jvm.exec) (htr : e.platform.stackTraces = false) {n : Nat}
    (h : ∀ a ∈ Bundle.npeArmAtoms n, a.before args s = true)
    (hlocs : ∀ x ∈ locs, ∀ cell, s.heap[x.base]? = some cell → cell.vm.isStatics = false)
    {g : JFrame} (hg : g.method = m₀) (hsize : g.locals.size = c.maxLocals)
    (hRframes : 7 < R.frames) (hRlocals : 2 * g.monitorRoom + (g.stack.map fun v => v.category).sum + 10240 ≤ R.locals)
    (hRcells : cells + 1 ≤ R.cells) (hRslots : slots + n ≤ R.slots) (hlocks : meth.locks = false) :
    ∃ (S : State) (q : Addr) (ce : Cell), (∀ target, Steps p.tables e below ((S.setTop g).pushFrame (.throwing q)) target → Steps p.tables e below ((W.setTop g).pushFrame (.throwNew "java/lang/NullPointerException" none none)) target) ∧
      Stand p l e R s m₀ args below meth c S locs (cells + 1) (slots + n) ∧ S.heap[q]? = some ce ∧ s.vm.findClass "java/lang/NullPointerException" = some ce.cls ∧ ce.vm = .none := by
  have howns : e.platform.frameOwnsMonitors = true := by rw [X.admits.platform]
  have hfin : e.platform.finalization = false := by rw [X.admits.platform]
  have hpl : e.platform.magicAccessors = ({} : Platform).magicAccessors := by rw [X.admits.platform]
  have hpl2 : e.platform.arrayCloneIsPublic = true := by rw [X.admits.platform]
  have a' : ∀ x, x ∈ Bundle.npeArmAtoms n → x.holds args s none s [] = true := fun x hx => h x hx
  obtain ⟨T, Z, L, LZ, Y⟩ := ThrowableC.of_atoms (args := args) howns hfin hpl (fun x hx => h x (by simp [Bundle.npeArmAtoms, hx]))
  obtain ⟨N, LN, hcN, hnNF, hordN, hffS⟩ := NpeC.of_atoms (args := args) hpl hpl2 L Y (fun x hx => h x (by simp [Bundle.npeArmAtoms, hx]))
  obtain ⟨P1, L1, hP1m, hP1s⟩ := PassC.of_atoms (args := args) (s := s) hpl (X := Bundle.nN) (Y := Bundle.rN) (by decide) (by decide) LibCode.NullPointerException.Init0.at_0 LibCode.NullPointerException.Init0.at_1 LibCode.NullPointerException.Init0.at_4 (fun x hx => h x (by simp [Bundle.npeArmAtoms, hx]))
  obtain ⟨PR, LR, hPRm, hPRs⟩ := PassC.of_atoms (args := args) (s := s) hpl (X := Bundle.rN) (Y := Bundle.eN) (by decide) (by decide) LibCode.RuntimeException.Init0.at_0 LibCode.RuntimeException.Init0.at_1 LibCode.RuntimeException.Init0.at_4 (fun x hx => h x (by simp [Bundle.npeArmAtoms, hx]))
  obtain ⟨PE, LEx, hPEm, hPEs⟩ := PassC.of_atoms (args := args) (s := s) hpl (X := Bundle.eN) (Y := Bundle.tN) (by decide) (by decide) LibCode.Exception.Init0.at_0 LibCode.Exception.Init0.at_1 LibCode.Exception.Init0.at_4 (fun x hx => h x (by simp [Bundle.npeArmAtoms, hx]))
  have hfound : s.vm.findClass Bundle.nN = some P1.m.cls := findClass_of_methodNamed hP1m
  have ecls : N.cN = P1.m.cls := Option.some.inj (hcN.symm.trans hfound)
  have hk : s.vm.classes[P1.m.cls]? = some N.kN := by rw [← ecls]; exact LN.cls
  have hinit := Cond.initialized_spec hfound hk (a' (.initialized Bundle.nN) (by simp [Bundle.npeArmAtoms]))
  have hctor : N.kN.findMethod "<init>" "()V" = some P1.m.idx := findMethod_of_methodNamed hP1m hk
  obtain ⟨c1, k1, hc1, hk1, -, -, -, hn⟩ := Cond.instantiable_spec (a' (.instantiable Bundle.nN n) (by simp [Bundle.npeArmAtoms]))
  cases Option.some.inj (hc1.symm.trans hfound)
  cases Option.some.inj (hk1.symm.trans hk)
  have hfsz : (freshCell P1.m.cls N.kN).slots.size = n := by simp [hn]
  have hlink1 : P1.sup = PR.m := Option.some.inj (hP1s.symm.trans hPRm)
  have hlinkR : PR.sup = PE.m := Option.some.inj (hPRs.symm.trans hPEm)
  have hlinkE : PE.sup = Z.m T.toThrowableT := Option.some.inj (hPEs.symm.trans Y.init0)
  have hLs : ∀ P, P ∈ [PR, PE] → P.Links0 e.platform s := fun P hP => by
    simp only [List.mem_cons, List.not_mem_nil, or_false] at hP
    rcases hP with rfl | rfl
    · exact LR
    · exact LEx
  have hsel0 : selectMethod e.platform s.vm P1.m.cls T.fill0 = .method T.fill0 := by
    obtain ⟨c2, r2, m2, q1, q2, q3, q4, -⟩ := Cond.selects_spec (a' (.selects Bundle.nN Bundle.tFill0 Bundle.tFill0) (by simp [Bundle.npeArmAtoms]))
    cases Option.some.inj (q1.symm.trans hfound)
    cases Option.some.inj (q2.symm.trans (State.methodFound?_of_named Y.fill0 (by decide)))
    cases Option.some.inj (q3.symm.trans Y.fill0)
    rw [Launch.admits_selectMethod X.admits]; exact q4
  have hselF : selectMethod e.platform s.vm P1.m.cls T.fill = .method N.fill := by
    obtain ⟨c2, r2, m2, q1, q2, q3, q4, -⟩ := Cond.selects_spec (a' (.selects Bundle.nN Bundle.tFill Bundle.nFill) (by simp [Bundle.npeArmAtoms]))
    cases Option.some.inj (q1.symm.trans hfound)
    cases Option.some.inj (q2.symm.trans (State.methodFound?_of_named Y.fill (by decide)))
    cases Option.some.inj (q3.symm.trans hnNF)
    rw [Launch.admits_selectMethod X.admits]; exact q4
  obtain ⟨cellS0, hcS0, hiss⟩ := Y.statics
  obtain ⟨u0, hu0⟩ := Cond.staticRefV Y.unassigned L.unassignedStatic L.statics hcS0 hiss (a' (.isRef (.static Bundle.tN "UNASSIGNED_STACK" Bundle.steD)) (by simp [Bundle.npeArmAtoms]))
  obtain ⟨sen, hsen⟩ := Cond.staticRefV Y.sentinel L.sentinelStatic L.statics hcS0 hiss (a' (.isRef (.static Bundle.tN "SUPPRESSED_SENTINEL" Bundle.listD)) (by simp [Bundle.npeArmAtoms]))
  obtain ⟨ci198, i198, fB, hk198, hg198, ha198, hsB, -, hnB, htB, hffB⟩ := Cond.ownField (t := .object "java/lang/Object") Y.found L.cls (by decide +kernel) (a' (.fieldLink Bundle.tN 198 Bundle.tN "backtrace" Bundle.objD) (by simp [Bundle.npeArmAtoms])) (a' (.lays Bundle.tN Bundle.tN "backtrace" Bundle.objD) (by simp [Bundle.npeArmAtoms])) e.platform hpl
  obtain ⟨cellS, hcS', heS, -, hkeep⟩ := X.same.2.2.2.2.2 T.aS cellS0 hcS0
  have hcellS : W.heap[T.aS]? = some cellS := hcS'
  have hout' : ∀ i, (⟨T.aS, i⟩ : Loc) ∉ locs := fun i hmem => by
    have := hlocs _ hmem cellS0 hcS0
    rw [hiss] at this; cases this
  have hknownS : cellS.vm ≠ .unknown := by
    rw [heS]; intro hu
    rw [show cellS0.vm = .unknown from hu] at hiss
    cases hiss
  have hvU : cellS.slots[T.fUnassigned.slot]? = some u0.v := by rw [hkeep _ (hout' _)]; exact hu0
  have hvSen : cellS.slots[T.fSentinel.slot]? = some sen.v := by rw [hkeep _ (hout' _)]; exact hsen
  obtain ⟨tyC, dC, hdC, hdnC⟩ := Cond.laysAt hfound hk Y.cause (a' (.lays Bundle.nN Bundle.tN "cause" "Ljava/lang/Throwable;") (by simp [Bundle.npeArmAtoms]))
  obtain ⟨tyS, dS, hdS, hdnS⟩ := Cond.laysAt hfound hk Y.stack (a' (.lays Bundle.nN Bundle.tN "stackTrace" Bundle.steD) (by simp [Bundle.npeArmAtoms]))
  obtain ⟨tyP, dP, hdP, hdnP⟩ := Cond.laysAt hfound hk Y.supp (a' (.lays Bundle.nN Bundle.tN "suppressedExceptions" Bundle.listD) (by simp [Bundle.npeArmAtoms]))
  obtain ⟨tyX, dX, hdX, hdnX⟩ := Cond.laysAt hfound hk hffS (a' (.lays Bundle.nN Bundle.nN "extendedMessageState" "I") (by simp [Bundle.npeArmAtoms, Bundle.npeAtoms]))
  obtain ⟨hnX, htX⟩ := State.fieldFound?_type hffS (t := .int) (by decide +kernel)
  have xC := Cond.laysApart hdC hdX hdnC hdnX (by rw [hnX, Y.causeName]; decide)
  have xS := Cond.laysApart hdS hdX hdnS hdnX (by rw [hnX, Y.stackName]; decide)
  have xP := Cond.laysApart hdP hdX hdnP hdnX (by rw [hnX, Y.suppName]; decide)
  have hv0 : (freshCell P1.m.cls N.kN).slots[N.fState.slot]? = some (.int 0) := by
    have := fresh_default (c := P1.m.cls) tyX
    rw [htX] at this; exact this
  obtain ⟨tyB, dB, hdB, hdnB⟩ := Cond.laysAt hfound hk hffB (a' (.lays Bundle.nN Bundle.tN "backtrace" Bundle.objD) (by simp [Bundle.npeArmAtoms]))
  have bC := Cond.laysApart hdB hdC hdnB hdnC (by rw [hnB, Y.causeName]; decide)
  have bS := Cond.laysApart hdB hdS hdnB hdnS (by rw [hnB, Y.stackName]; decide)
  have bP := Cond.laysApart hdB hdP hdnB hdnP (by rw [hnB, Y.suppName]; decide)
  have bX := Cond.laysApart hdB hdX hdnB hdnX (by rw [hnB, hnX]; decide)
  have hbk : ((npeCell N.toNpeT (preparedCellV T.toThrowableT (freshCell P1.m.cls N.kN) W.heap.size u0 sen) W.cur).withEntry W.cur).slots[fB.slot]? = some .null := by
    have := fresh_default (c := P1.m.cls) tyB
    rw [htB] at this
    simpa [npeCell, preparedCellV, Cell.setSlot, Cell.withEntry, Array.getElem?_setIfInBounds, bC, bS, bP, bX, bC.symm, bS.symm, bP.symm, bX.symm, defaultValue] using this
  have tkC := Takes.of_laid (v := .ref W.heap.size) hk hordN tyC (by rw [Y.causeType]; rfl)
  have tkS := Takes.of_laid (v := u0.v) hk hordN tyS (by rw [Y.stackType]; exact fits_refV_array _ u0)
  have tkP := Takes.of_laid (v := sen.v) hk hordN tyP (by rw [Y.suppType]; exact fits_refV_object _ sen)
  have tkX := Takes.of_laid (v := .int 1) hk hordN tyX (by rw [htX]; rfl)
  have hskip : SkipFacts T e.platform s (fun u => u) u0 ((npeCell N.toNpeT (preparedCellV T.toThrowableT (freshCell P1.m.cls N.kN) W.heap.size u0 sen) W.cur).withEntry W.cur) := ⟨{ ci198 := ci198, i198 := i198, fBack := fB }, ⟨hk198, hg198, ha198, hsB⟩, hbk, fun _ _ => rfl⟩
  obtain ⟨vm', X3, st, -⟩ := X.throwsNpeColdBareVAt hexec hg hsize T L Z LZ N LN P1 L1 [PR, PE] hLs hlink1 ⟨hlinkR, hlinkE, trivial⟩ hfound hk hinit hordN hctor hsel0 hselF hcellS hknownS hvU hvSen
    hv0 xC xS xP tkC tkS tkP tkX Y.objLocals hskip (fun _ _ hA hW _ hroom _ hrest => L.nativeOff p htr hA hW hroom hrest) (by simpa using hRframes) hRlocals (by simp) hRcells (by rw [hn]; exact hRslots)
  have hlt : W.heap.size < ((W.pushCell (freshCell P1.m.cls N.kN)).setVm vm').heap.size := by
    show W.heap.size < (W.pushCell (freshCell P1.m.cls N.kN)).heap.size
    rw [State.heap_size_pushCell]; omega
  rw [hfsz] at X3
  obtain ⟨g₁, hfrM⟩ := X3.frames_eq
  have hU : ((((W.pushCell (freshCell P1.m.cls N.kN)).setVm vm').setCell W.heap.size (npeBareV T.toThrowableT N.toNpeT (freshCell P1.m.cls N.kN) W.heap.size u0 sen)).setTop g).pushFrame (.throwing W.heap.size) = (((W.pushCell (freshCell P1.m.cls N.kN)).setVm vm').setCell W.heap.size (npeBareV T.toThrowableT N.toNpeT (freshCell P1.m.cls N.kN) W.heap.size u0 sen)).setFrames (.throwing W.heap.size :: .java g :: below) := by
    rw [State.pushFrame, State.frames_setTop _ hfrM, State.setTop_of_frames _ hfrM, State.setFrames_setFrames]
  refine ⟨_, W.heap.size, _, fun target ht => st.trans (by rw [← hU]; exact ht), X3.forget (fun y hy => ?_), heapAt_setCell_self _ hlt, hfound, rfl⟩
  simp only [List.mem_cons, List.not_mem_nil, or_false] at hy
  have hge : s.heap.size ≤ W.heap.size := X.same.2.1
  rcases hy with rfl | rfl | rfl | rfl | rfl <;> exact hge
/-- the words of a machine's NullPointerException, but the four that speak of the heap -/
def vx_atN (n : Nat) : List Cond := (Bundle.npeArmAtoms n).filter vx_no
/-- the words of a machine's throw with a message, but the four that speak of the heap -/
def vx_atM (X : String) (names : List String) : List Cond := (Bundle.messageArmAtoms X names).filter vx_no
section
variable {p : Program} {l : Launch} {e : Env} {R : Room} {s : State} {m : MethodId} {args : Array Value} {below : List Frame} {meth : Method} {c : Code} {H : Heap} {locs : List Loc} {cells slots : Nat}
/-- a frame seen from a rebased start, seen from the first start again -/
theorem vx_back9 {T S : State} {R' : Room} {k n : Nat} (X : Stand p l e R s m args below meth c T locs cells slots) (Y : Stand p l e R' ((T.setVm s.vm).setFrames (.invoking m args :: below)) m args below meth c T [] 0 0) (Z : Stand p l e R' ((T.setVm s.vm).setFrames (.invoking m args :: below)) m args below meth c S [] k n) :
    Stand p l e R s m args below meth c S locs (cells + k) (slots + n) := by
  have hW0 : s.WarmedH ((T.setVm s.vm).setFrames (.invoking m args :: below)).vm := State.WarmedH.refl s
  refine { admits := X.admits, cas := X.cas, clock := X.clock, frames := X.frames, room := X.room, hears := X.hears, method := X.method, code := X.code, here := Z.here, tail := Z.tail, warmed := State.WarmedH.trans hW0 Z.warmed, limits := Z.limits.trans (Y.limits.symm.trans X.limits), bytes := Z.bytes.trans (Y.bytes.symm.trans X.bytes), same := ?_ }
  obtain ⟨e1, e2⟩ := Z.same
  rw [State.setFrames_setFrames] at e1
  have h2 : (T.setVm s.vm).sameButNew (S.setVm s.vm) [] k n := ⟨e1, e2⟩
  have h3 := X.same.trans h2
  rw [List.append_nil] at h3
  exact h3
/-- from the machine's note that E is thrown here with this text -/
def vx_Note (p : Program) (l : Launch) (e : Env) (R : Room) (s : State) (m : MethodId) (args : Array Value) (below : List Frame) (meth : Method) (c : Code) (H : Heap) (locs : List Loc) (cells slots : Nat) (Q : State → Prop) (g : JFrame) (E text : String) : Prop :=
  ∀ T : State, T.heap = H → Stand p l e R s m args below meth c T locs cells slots → ∃ t, Steps p.tables e below ((T.setTop g).pushFrame (.throwNew E (some text) none)) t ∧ Q t
theorem vx_vm {pc : Nat} {ls : Array Slot} {rest : List Value} {Q : State → Prop} (hexec : p.tables.exec = Jvm.exec) (hl : l.stackTraces = false) {cls text : String} {names : List String} {nb : Nat} {A : Nat → Prop}
    (hcls : Bundle.fit cls = true) (hnames : ∀ n ∈ names, Bundle.fit n = true) (hsoe : (cls == "java/lang/StackOverflowError") = false) (hoom : (cls == "java/lang/OutOfMemoryError") = false)
    (hat : ∀ w ∈ vx_atM cls names, w.before args s = true) (hgood : ∀ w ∈ vx_atM cls names, vx_ot w = true)
    (hU : vx_Zq Bundle.tN "UNASSIGNED_STACK" Bundle.steD A s s.heap) (hN : vx_Zq Bundle.tN "SUPPRESSED_SENTINEL" Bundle.listD A s s.heap) (hS : va_S A s.heap H locs) (hsize : ls.size = c.maxLocals)
    (htext : (text == notModelled) = false) (hnb : (stringBytes (stringToUtf16 text)).size ≤ nb) (hnb1 : nb ≤ 1000)
    (hRframes : names.length + 4 < R.frames) (hRlocals : (rest.map fun v => v.category).sum + 10240 ≤ R.locals) (hshort : 13 * names.length + 55 ≤ 10240) (hRcells : cells + 3 ≤ R.cells) (hRslots : slots + (nb + 10) ≤ R.slots) (hlocks : meth.locks = false)
    (k : ∀ (H1 : Heap) (q9 : Addr) (ce : Cell), H.size ≤ H1.size → (∀ q : Nat, q < H.size → H1[q]? = H[q]?) → va_S A s.heap H1 locs → H1[q9]? = some ce → ce.vm = .none → s.vm.findClass cls = some ce.cls → vx_W p l e R s m args below meth c H1 locs (cells + 3) (slots + (nb + 10)) Q (F0 m pc ls rest) q9) :
    vx_Note p l e R s m args below meth c H locs cells slots Q (F0 m pc ls rest) cls text := by
  intro T hT X
  have htr : e.platform.stackTraces = false := (show e.platform.stackTraces = l.stackTraces by rw [X.admits.platform]).trans hl
  have Y := vx_rebase X (R' := { frames := R.frames, locals := R.locals, cells := 3, slots := nb + 10 }) (Nat.le_refl _) (Nat.le_refl _) hRcells hRslots
  have hhp : ((T.setVm s.vm).setFrames (.invoking m args :: below)).heap = H := hT
  have hW0 : s.WarmedH ((T.setVm s.vm).setFrames (.invoking m args :: below)).vm := State.WarmedH.refl s
  have hat' : ∀ w ∈ vx_atM cls names, w.before args ((T.setVm s.vm).setFrames (.invoking m args :: below)) = true := fun w hw => vx_ot_at hW0 rfl (hgood w hw) (hat w hw)
  have hU' : vx_Zq Bundle.tN "UNASSIGNED_STACK" Bundle.steD A ((T.setVm s.vm).setFrames (.invoking m args :: below)) ((T.setVm s.vm).setFrames (.invoking m args :: below)).heap := by rw [hhp]; exact vx_Zq.moved hW0.alike (hU.kept hS.2.1)
  have hN' : vx_Zq Bundle.tN "SUPPRESSED_SENTINEL" Bundle.listD A ((T.setVm s.vm).setFrames (.invoking m args :: below)) ((T.setVm s.vm).setFrames (.invoking m args :: below)).heap := by rw [hhp]; exact vx_Zq.moved hW0.alike (hN.kept hS.2.1)
  obtain ⟨S, q, ce, st, Z, hce, hcl', hv⟩ := vx_vmAt Y hexec htr (cls := cls) (names := names) (text := text) hcls hnames hsoe hoom (vx_own hat' (vx_isRefq hU'.1) (vx_isRefq hN'.1) hU'.2.word hN'.2.word) (fun x hx => nomatch hx) htext
    (by rw [Launch.admits_arrayLengthLimit X.admits]; omega) (by rw [Launch.admits_maxHeapBytes X.admits]; simp only [componentBytes]; omega)
    (g := F0 m pc ls rest) rfl hsize hRframes (by show 2 * 0 + (rest.map fun v => v.category).sum + 10240 ≤ R.locals; omega) hshort (by show 0 + 3 ≤ 3; omega) (by show 0 + (_ + 4 + 6) ≤ nb + 10; omega) hlocks
  obtain ⟨f1, f2⟩ := vx_frame Z.same
  have f1' : H.size ≤ S.heap.size := by rw [← hT]; exact f1
  have f2' : ∀ q : Nat, q < H.size → S.heap[q]? = H[q]? := fun q hq => by
    rw [← hT]
    exact f2 q (by rw [← hT] at hq; exact hq) (fun z hz => nomatch hz)
  have X5 := vx_back9 X Y Z
  have X6 : Stand p l e R s m args below meth c S locs (cells + 3) (slots + (nb + 10)) := { X5 with same := X5.same.mono (by omega) (by omega) }
  obtain ⟨t, a1, b1⟩ := k S.heap q ce f1' f2' ⟨Nat.le_trans hS.1 f1', fun q h1 h2 => (f2' q (Nat.lt_of_lt_of_le h1 hS.1)).trans (hS.2.1 q h1 h2), hS.2.2⟩ hce hv hcl' S rfl X6
  exact ⟨t, st t a1, b1⟩
/-- from the machine's note that NullPointerException is thrown here -/
def vx_NoteN (p : Program) (l : Launch) (e : Env) (R : Room) (s : State) (m : MethodId) (args : Array Value) (below : List Frame) (meth : Method) (c : Code) (H : Heap) (locs : List Loc) (cells slots : Nat) (Q : State → Prop) (g : JFrame) : Prop :=
  ∀ T : State, T.heap = H → Stand p l e R s m args below meth c T locs cells slots → ∃ t, Steps p.tables e below ((T.setTop g).pushFrame (.throwNew "java/lang/NullPointerException" none none)) t ∧ Q t
theorem vx_npe {pc : Nat} {ls : Array Slot} {rest : List Value} {Q : State → Prop} (hexec : p.tables.exec = Jvm.exec) (hl : l.stackTraces = false) {nb : Nat} {A : Nat → Prop}
    (hat : ∀ w ∈ vx_atN nb, w.before args s = true) (hgood : ∀ w ∈ vx_atN nb, vx_ot w = true)
    (hU : vx_Zq Bundle.tN "UNASSIGNED_STACK" Bundle.steD A s s.heap) (hN : vx_Zq Bundle.tN "SUPPRESSED_SENTINEL" Bundle.listD A s s.heap) (hS : va_S A s.heap H locs) (hsize : ls.size = c.maxLocals)
    (hRframes : 7 < R.frames) (hRlocals : (rest.map fun v => v.category).sum + 10240 ≤ R.locals) (hRcells : cells + 1 ≤ R.cells) (hRslots : slots + nb ≤ R.slots) (hlocks : meth.locks = false)
    (k : ∀ (H1 : Heap) (q9 : Addr) (ce : Cell), H.size ≤ H1.size → (∀ q : Nat, q < H.size → H1[q]? = H[q]?) → va_S A s.heap H1 locs → H1[q9]? = some ce → ce.vm = .none → s.vm.findClass "java/lang/NullPointerException" = some ce.cls → vx_W p l e R s m args below meth c H1 locs (cells + 1) (slots + nb) Q (F0 m pc ls rest) q9) :
    vx_NoteN p l e R s m args below meth c H locs cells slots Q (F0 m pc ls rest) := by
  intro T hT X
  have htr : e.platform.stackTraces = false := (show e.platform.stackTraces = l.stackTraces by rw [X.admits.platform]).trans hl
  have Y := vx_rebase X (R' := { frames := R.frames, locals := R.locals, cells := 1, slots := nb }) (Nat.le_refl _) (Nat.le_refl _) hRcells hRslots
  have hhp : ((T.setVm s.vm).setFrames (.invoking m args :: below)).heap = H := hT
  have hW0 : s.WarmedH ((T.setVm s.vm).setFrames (.invoking m args :: below)).vm := State.WarmedH.refl s
  have hat' : ∀ w ∈ vx_atN nb, w.before args ((T.setVm s.vm).setFrames (.invoking m args :: below)) = true := fun w hw => vx_ot_at hW0 rfl (hgood w hw) (hat w hw)
  have hU' : vx_Zq Bundle.tN "UNASSIGNED_STACK" Bundle.steD A ((T.setVm s.vm).setFrames (.invoking m args :: below)) ((T.setVm s.vm).setFrames (.invoking m args :: below)).heap := by rw [hhp]; exact vx_Zq.moved hW0.alike (hU.kept hS.2.1)
  have hN' : vx_Zq Bundle.tN "SUPPRESSED_SENTINEL" Bundle.listD A ((T.setVm s.vm).setFrames (.invoking m args :: below)) ((T.setVm s.vm).setFrames (.invoking m args :: below)).heap := by rw [hhp]; exact vx_Zq.moved hW0.alike (hN.kept hS.2.1)
  obtain ⟨S, q, ce, st, Z, hce, hcl', hv⟩ := vx_npeAt Y hexec htr (n := nb) (vx_own hat' (vx_isRefq hU'.1) (vx_isRefq hN'.1) hU'.2.word hN'.2.word) (fun x hx => nomatch hx)
    (g := F0 m pc ls rest) rfl hsize hRframes (by show 2 * 0 + (rest.map fun v => v.category).sum + 10240 ≤ R.locals; omega) (by show 0 + 1 ≤ 1; omega) (by show 0 + nb ≤ nb; omega) hlocks
  obtain ⟨f1, f2⟩ := vx_frame Z.same
  have f1' : H.size ≤ S.heap.size := by rw [← hT]; exact f1
  have f2' : ∀ q : Nat, q < H.size → S.heap[q]? = H[q]? := fun q hq => by
    rw [← hT]
    exact f2 q (by rw [← hT] at hq; exact hq) (fun z hz => nomatch hz)
  have X5 := vx_back9 X Y Z
  have X6 : Stand p l e R s m args below meth c S locs (cells + 1) (slots + nb) := { X5 with same := X5.same.mono (by omega) (by omega) }
  obtain ⟨t, a1, b1⟩ := k S.heap q ce f1' f2' ⟨Nat.le_trans hS.1 f1', fun q h1 h2 => (f2' q (Nat.lt_of_lt_of_le h1 hS.1)).trans (hS.2.1 q h1 h2), hS.2.2⟩ hce hv hcl' S rfl X6
  exact ⟨t, st t a1, b1⟩
variable {Q : State → Prop} {cc : ByteArray} {pc : Nat} {ls : Array Slot} {rest : List Value}
theorem vx_idivZ (hexec : p.tables.exec = Jvm.exec) (hb : c.code = cc) {a b : Int32} (h0 : b = 0) (d : decode cc pc = .ok (.idiv, 1)) (k : vx_Note p l e R s m args below meth c H locs cells slots Q (F0 m pc ls rest) "java/lang/ArithmeticException" "/ by zero") :
    W p l e R s m args below meth c H locs cells slots Q (F0 m pc ls (.int b :: .int a :: rest)) := by
  intro T hT X
  obtain ⟨t, st, q⟩ := k T hT X
  exact ⟨t, X.idivZero hexec (g := F0 m pc ls (.int b :: .int a :: rest)) rfl (a := a) (rest := rest) (by rw [h0]) (by rw [hb]; exact d) t st, q⟩
theorem vx_iremZ (hexec : p.tables.exec = Jvm.exec) (hb : c.code = cc) {a b : Int32} (h0 : b = 0) (d : decode cc pc = .ok (.irem, 1)) (k : vx_Note p l e R s m args below meth c H locs cells slots Q (F0 m pc ls rest) "java/lang/ArithmeticException" "/ by zero") :
    W p l e R s m args below meth c H locs cells slots Q (F0 m pc ls (.int b :: .int a :: rest)) := by
  intro T hT X
  obtain ⟨t, st, q⟩ := k T hT X
  exact ⟨t, X.iremZero hexec (g := F0 m pc ls (.int b :: .int a :: rest)) rfl (a := a) (rest := rest) (by rw [h0]) (by rw [hb]; exact d) t st, q⟩
theorem vx_ldivZ (hexec : p.tables.exec = Jvm.exec) (hb : c.code = cc) {a b : Int64} (h0 : b = 0) (d : decode cc pc = .ok (.ldiv, 1)) (k : vx_Note p l e R s m args below meth c H locs cells slots Q (F0 m pc ls rest) "java/lang/ArithmeticException" "/ by zero") :
    W p l e R s m args below meth c H locs cells slots Q (F0 m pc ls (.long b :: .long a :: rest)) := by
  intro T hT X
  obtain ⟨t, st, q⟩ := k T hT X
  exact ⟨t, X.ldivZero hexec (g := F0 m pc ls (.long b :: .long a :: rest)) rfl (a := a) (rest := rest) (by rw [h0]) (by rw [hb]; exact d) t st, q⟩
theorem vx_lremZ (hexec : p.tables.exec = Jvm.exec) (hb : c.code = cc) {a b : Int64} (h0 : b = 0) (d : decode cc pc = .ok (.lrem, 1)) (k : vx_Note p l e R s m args below meth c H locs cells slots Q (F0 m pc ls rest) "java/lang/ArithmeticException" "/ by zero") :
    W p l e R s m args below meth c H locs cells slots Q (F0 m pc ls (.long b :: .long a :: rest)) := by
  intro T hT X
  obtain ⟨t, st, q⟩ := k T hT X
  exact ⟨t, X.lremZero hexec (g := F0 m pc ls (.long b :: .long a :: rest)) rfl (a := a) (rest := rest) (by rw [h0]) (by rw [hb]; exact d) t st, q⟩
theorem vx_ialdZ {D : va_G} {cl : List vw_C} {ws : va_W} {tys : List (ClassId × FieldType)} {a : Nat} (hexec : p.tables.exec = Jvm.exec) (hb : c.code = cc) (hK : va_K D cl tys s) (hP : va_P D cl ws H) (q0 t0 : Nat) {cA : ClassId} {n : Nat} {f : Nat → Int32} (ha : ws[q0]? = some (a, .inl (cA, n, .inl f))) (ht : tys[t0]? = some (cA, .int)) {i : Int32} (hout : ¬ vp_in i n) (hdg : decode cc pc = .ok (.iaload, 1))
    (k : ∀ tx : String, tx = (toString "Index " ++ toString i ++ toString " out of bounds for length " ++ toString n : String) → vx_Note p l e R s m args below meth c H locs cells slots Q (F0 m pc ls rest) "java/lang/ArrayIndexOutOfBoundsException" tx) : W p l e R s m args below meth c H locs cells slots Q (F0 m pc ls (.int i :: .ref a :: rest)) := by
  intro T hT X
  obtain ⟨t, st, q⟩ := k _ rfl T hT X
  refine ⟨t, ?_, q⟩
  have h1 := X.ialoadOut hexec (by rw [hT]; exact hP q0 _ ha) ((hK.2 t0 _ ht).1 n (fun j => .int (f j))) (j := i) (by show (i < 0 ∨ (arrV _ _ _).slots.size ≤ _); rw [arrV_size]; exact Classical.byContradiction hout) (g := F0 m pc ls (.int i :: .ref a :: rest)) rfl (rest := rest) rfl (by rw [hb]; exact hdg) t
  simp only [arrV_size] at h1
  exact h1 st
theorem vx_iastZ {D : va_G} {cl : List vw_C} {ws : va_W} {tys : List (ClassId × FieldType)} {a : Nat} (hexec : p.tables.exec = Jvm.exec) (hb : c.code = cc) (hK : va_K D cl tys s) (hP : va_P D cl ws H) (q0 t0 : Nat) {cA : ClassId} {n : Nat} {f : Nat → Int32} (ha : ws[q0]? = some (a, .inl (cA, n, .inl f))) (ht : tys[t0]? = some (cA, .int)) {i : Int32} {x : Int32} (hout : ¬ vp_in i n) (hdg : decode cc pc = .ok (.iastore, 1))
    (k : ∀ tx : String, tx = (toString "Index " ++ toString i ++ toString " out of bounds for length " ++ toString n : String) → vx_Note p l e R s m args below meth c H locs cells slots Q (F0 m pc ls rest) "java/lang/ArrayIndexOutOfBoundsException" tx) : W p l e R s m args below meth c H locs cells slots Q (F0 m pc ls (.int x :: .int i :: .ref a :: rest)) := by
  intro T hT X
  obtain ⟨t, st, q⟩ := k _ rfl T hT X
  refine ⟨t, ?_, q⟩
  have h1 := X.iastoreOut hexec (by rw [hT]; exact hP q0 _ ha) ((hK.2 t0 _ ht).1 n (fun j => .int (f j))) (j := i) (by show (i < 0 ∨ (arrV _ _ _).slots.size ≤ _); rw [arrV_size]; exact Classical.byContradiction hout) (g := F0 m pc ls (.int x :: .int i :: .ref a :: rest)) rfl (rest := rest) rfl (by rw [hb]; exact hdg) t
  simp only [arrV_size] at h1
  exact h1 st
theorem vx_baldZ {D : va_G} {cl : List vw_C} {ws : va_W} {tys : List (ClassId × FieldType)} {a : Nat} (hexec : p.tables.exec = Jvm.exec) (hb : c.code = cc) (hK : va_K D cl tys s) (hP : va_P D cl ws H) (q0 t0 : Nat) {cA : ClassId} {n : Nat} {f : Nat → Int32} (ha : ws[q0]? = some (a, .inl (cA, n, .inl f))) (ht : tys[t0]? = some (cA, .byte)) {i : Int32} (hout : ¬ vp_in i n) (hdg : decode cc pc = .ok (.baload, 1))
    (k : ∀ tx : String, tx = (toString "Index " ++ toString i ++ toString " out of bounds for length " ++ toString n : String) → vx_Note p l e R s m args below meth c H locs cells slots Q (F0 m pc ls rest) "java/lang/ArrayIndexOutOfBoundsException" tx) : W p l e R s m args below meth c H locs cells slots Q (F0 m pc ls (.int i :: .ref a :: rest)) := by
  intro T hT X
  obtain ⟨t, st, q⟩ := k _ rfl T hT X
  refine ⟨t, ?_, q⟩
  have h1 := X.baloadOut hexec (by rw [hT]; exact hP q0 _ ha) ((hK.2 t0 _ ht).1 n (fun j => .int (f j))) (j := i) (by show (i < 0 ∨ (arrV _ _ _).slots.size ≤ _); rw [arrV_size]; exact Classical.byContradiction hout) (g := F0 m pc ls (.int i :: .ref a :: rest)) rfl (rest := rest) rfl (by rw [hb]; exact hdg) t
  simp only [arrV_size] at h1
  exact h1 st
theorem vx_bastZ {D : va_G} {cl : List vw_C} {ws : va_W} {tys : List (ClassId × FieldType)} {a : Nat} (hexec : p.tables.exec = Jvm.exec) (hb : c.code = cc) (hK : va_K D cl tys s) (hP : va_P D cl ws H) (q0 t0 : Nat) {cA : ClassId} {n : Nat} {f : Nat → Int32} (ha : ws[q0]? = some (a, .inl (cA, n, .inl f))) (ht : tys[t0]? = some (cA, .byte)) {i : Int32} {x : Int32} (hout : ¬ vp_in i n) (hdg : decode cc pc = .ok (.bastore, 1))
    (k : ∀ tx : String, tx = (toString "Index " ++ toString i ++ toString " out of bounds for length " ++ toString n : String) → vx_Note p l e R s m args below meth c H locs cells slots Q (F0 m pc ls rest) "java/lang/ArrayIndexOutOfBoundsException" tx) : W p l e R s m args below meth c H locs cells slots Q (F0 m pc ls (.int x :: .int i :: .ref a :: rest)) := by
  intro T hT X
  obtain ⟨t, st, q⟩ := k _ rfl T hT X
  refine ⟨t, ?_, q⟩
  have h1 := X.bastoreOut hexec (by rw [hT]; exact hP q0 _ ha) ((hK.2 t0 _ ht).1 n (fun j => .int (f j))) (j := i) (by show (i < 0 ∨ (arrV _ _ _).slots.size ≤ _); rw [arrV_size]; exact Classical.byContradiction hout) (g := F0 m pc ls (.int x :: .int i :: .ref a :: rest)) rfl (rest := rest) rfl (by rw [hb]; exact hdg) t
  simp only [arrV_size] at h1
  exact h1 st
theorem vx_zaldZ {D : va_G} {cl : List vw_C} {ws : va_W} {tys : List (ClassId × FieldType)} {a : Nat} (hexec : p.tables.exec = Jvm.exec) (hb : c.code = cc) (hK : va_K D cl tys s) (hP : va_P D cl ws H) (q0 t0 : Nat) {cA : ClassId} {n : Nat} {f : Nat → Int32} (ha : ws[q0]? = some (a, .inl (cA, n, .inl f))) (ht : tys[t0]? = some (cA, .boolean)) {i : Int32} (hout : ¬ vp_in i n) (hdg : decode cc pc = .ok (.baload, 1))
    (k : ∀ tx : String, tx = (toString "Index " ++ toString i ++ toString " out of bounds for length " ++ toString n : String) → vx_Note p l e R s m args below meth c H locs cells slots Q (F0 m pc ls rest) "java/lang/ArrayIndexOutOfBoundsException" tx) : W p l e R s m args below meth c H locs cells slots Q (F0 m pc ls (.int i :: .ref a :: rest)) := by
  intro T hT X
  obtain ⟨t, st, q⟩ := k _ rfl T hT X
  refine ⟨t, ?_, q⟩
  have h1 := X.baloadOut hexec (by rw [hT]; exact hP q0 _ ha) ((hK.2 t0 _ ht).1 n (fun j => .int (f j))) (j := i) (by show (i < 0 ∨ (arrV _ _ _).slots.size ≤ _); rw [arrV_size]; exact Classical.byContradiction hout) (g := F0 m pc ls (.int i :: .ref a :: rest)) rfl (rest := rest) rfl (by rw [hb]; exact hdg) t
  simp only [arrV_size] at h1
  exact h1 st
theorem vx_zastZ {D : va_G} {cl : List vw_C} {ws : va_W} {tys : List (ClassId × FieldType)} {a : Nat} (hexec : p.tables.exec = Jvm.exec) (hb : c.code = cc) (hK : va_K D cl tys s) (hP : va_P D cl ws H) (q0 t0 : Nat) {cA : ClassId} {n : Nat} {f : Nat → Int32} (ha : ws[q0]? = some (a, .inl (cA, n, .inl f))) (ht : tys[t0]? = some (cA, .boolean)) {i : Int32} {x : Int32} (hout : ¬ vp_in i n) (hdg : decode cc pc = .ok (.bastore, 1))
    (k : ∀ tx : String, tx = (toString "Index " ++ toString i ++ toString " out of bounds for length " ++ toString n : String) → vx_Note p l e R s m args below meth c H locs cells slots Q (F0 m pc ls rest) "java/lang/ArrayIndexOutOfBoundsException" tx) : W p l e R s m args below meth c H locs cells slots Q (F0 m pc ls (.int x :: .int i :: .ref a :: rest)) := by
  intro T hT X
  obtain ⟨t, st, q⟩ := k _ rfl T hT X
  refine ⟨t, ?_, q⟩
  have h1 := X.bastoreOut hexec (by rw [hT]; exact hP q0 _ ha) ((hK.2 t0 _ ht).1 n (fun j => .int (f j))) (j := i) (by show (i < 0 ∨ (arrV _ _ _).slots.size ≤ _); rw [arrV_size]; exact Classical.byContradiction hout) (g := F0 m pc ls (.int x :: .int i :: .ref a :: rest)) rfl (rest := rest) rfl (by rw [hb]; exact hdg) t
  simp only [arrV_size] at h1
  exact h1 st
theorem vx_caldZ {D : va_G} {cl : List vw_C} {ws : va_W} {tys : List (ClassId × FieldType)} {a : Nat} (hexec : p.tables.exec = Jvm.exec) (hb : c.code = cc) (hK : va_K D cl tys s) (hP : va_P D cl ws H) (q0 t0 : Nat) {cA : ClassId} {n : Nat} {f : Nat → Int32} (ha : ws[q0]? = some (a, .inl (cA, n, .inl f))) (ht : tys[t0]? = some (cA, .char)) {i : Int32} (hout : ¬ vp_in i n) (hdg : decode cc pc = .ok (.caload, 1))
    (k : ∀ tx : String, tx = (toString "Index " ++ toString i ++ toString " out of bounds for length " ++ toString n : String) → vx_Note p l e R s m args below meth c H locs cells slots Q (F0 m pc ls rest) "java/lang/ArrayIndexOutOfBoundsException" tx) : W p l e R s m args below meth c H locs cells slots Q (F0 m pc ls (.int i :: .ref a :: rest)) := by
  intro T hT X
  obtain ⟨t, st, q⟩ := k _ rfl T hT X
  refine ⟨t, ?_, q⟩
  have h1 := X.caloadOut hexec (by rw [hT]; exact hP q0 _ ha) ((hK.2 t0 _ ht).1 n (fun j => .int (f j))) (j := i) (by show (i < 0 ∨ (arrV _ _ _).slots.size ≤ _); rw [arrV_size]; exact Classical.byContradiction hout) (g := F0 m pc ls (.int i :: .ref a :: rest)) rfl (rest := rest) rfl (by rw [hb]; exact hdg) t
  simp only [arrV_size] at h1
  exact h1 st
theorem vx_castZ {D : va_G} {cl : List vw_C} {ws : va_W} {tys : List (ClassId × FieldType)} {a : Nat} (hexec : p.tables.exec = Jvm.exec) (hb : c.code = cc) (hK : va_K D cl tys s) (hP : va_P D cl ws H) (q0 t0 : Nat) {cA : ClassId} {n : Nat} {f : Nat → Int32} (ha : ws[q0]? = some (a, .inl (cA, n, .inl f))) (ht : tys[t0]? = some (cA, .char)) {i : Int32} {x : Int32} (hout : ¬ vp_in i n) (hdg : decode cc pc = .ok (.castore, 1))
    (k : ∀ tx : String, tx = (toString "Index " ++ toString i ++ toString " out of bounds for length " ++ toString n : String) → vx_Note p l e R s m args below meth c H locs cells slots Q (F0 m pc ls rest) "java/lang/ArrayIndexOutOfBoundsException" tx) : W p l e R s m args below meth c H locs cells slots Q (F0 m pc ls (.int x :: .int i :: .ref a :: rest)) := by
  intro T hT X
  obtain ⟨t, st, q⟩ := k _ rfl T hT X
  refine ⟨t, ?_, q⟩
  have h1 := X.castoreOut hexec (by rw [hT]; exact hP q0 _ ha) ((hK.2 t0 _ ht).1 n (fun j => .int (f j))) (j := i) (by show (i < 0 ∨ (arrV _ _ _).slots.size ≤ _); rw [arrV_size]; exact Classical.byContradiction hout) (g := F0 m pc ls (.int x :: .int i :: .ref a :: rest)) rfl (rest := rest) rfl (by rw [hb]; exact hdg) t
  simp only [arrV_size] at h1
  exact h1 st
theorem vx_saldZ {D : va_G} {cl : List vw_C} {ws : va_W} {tys : List (ClassId × FieldType)} {a : Nat} (hexec : p.tables.exec = Jvm.exec) (hb : c.code = cc) (hK : va_K D cl tys s) (hP : va_P D cl ws H) (q0 t0 : Nat) {cA : ClassId} {n : Nat} {f : Nat → Int32} (ha : ws[q0]? = some (a, .inl (cA, n, .inl f))) (ht : tys[t0]? = some (cA, .short)) {i : Int32} (hout : ¬ vp_in i n) (hdg : decode cc pc = .ok (.saload, 1))
    (k : ∀ tx : String, tx = (toString "Index " ++ toString i ++ toString " out of bounds for length " ++ toString n : String) → vx_Note p l e R s m args below meth c H locs cells slots Q (F0 m pc ls rest) "java/lang/ArrayIndexOutOfBoundsException" tx) : W p l e R s m args below meth c H locs cells slots Q (F0 m pc ls (.int i :: .ref a :: rest)) := by
  intro T hT X
  obtain ⟨t, st, q⟩ := k _ rfl T hT X
  refine ⟨t, ?_, q⟩
  have h1 := X.saloadOut hexec (by rw [hT]; exact hP q0 _ ha) ((hK.2 t0 _ ht).1 n (fun j => .int (f j))) (j := i) (by show (i < 0 ∨ (arrV _ _ _).slots.size ≤ _); rw [arrV_size]; exact Classical.byContradiction hout) (g := F0 m pc ls (.int i :: .ref a :: rest)) rfl (rest := rest) rfl (by rw [hb]; exact hdg) t
  simp only [arrV_size] at h1
  exact h1 st
theorem vx_sastZ {D : va_G} {cl : List vw_C} {ws : va_W} {tys : List (ClassId × FieldType)} {a : Nat} (hexec : p.tables.exec = Jvm.exec) (hb : c.code = cc) (hK : va_K D cl tys s) (hP : va_P D cl ws H) (q0 t0 : Nat) {cA : ClassId} {n : Nat} {f : Nat → Int32} (ha : ws[q0]? = some (a, .inl (cA, n, .inl f))) (ht : tys[t0]? = some (cA, .short)) {i : Int32} {x : Int32} (hout : ¬ vp_in i n) (hdg : decode cc pc = .ok (.sastore, 1))
    (k : ∀ tx : String, tx = (toString "Index " ++ toString i ++ toString " out of bounds for length " ++ toString n : String) → vx_Note p l e R s m args below meth c H locs cells slots Q (F0 m pc ls rest) "java/lang/ArrayIndexOutOfBoundsException" tx) : W p l e R s m args below meth c H locs cells slots Q (F0 m pc ls (.int x :: .int i :: .ref a :: rest)) := by
  intro T hT X
  obtain ⟨t, st, q⟩ := k _ rfl T hT X
  refine ⟨t, ?_, q⟩
  have h1 := X.sastoreOut hexec (by rw [hT]; exact hP q0 _ ha) ((hK.2 t0 _ ht).1 n (fun j => .int (f j))) (j := i) (by show (i < 0 ∨ (arrV _ _ _).slots.size ≤ _); rw [arrV_size]; exact Classical.byContradiction hout) (g := F0 m pc ls (.int x :: .int i :: .ref a :: rest)) rfl (rest := rest) rfl (by rw [hb]; exact hdg) t
  simp only [arrV_size] at h1
  exact h1 st
theorem vx_laldZ {D : va_G} {cl : List vw_C} {ws : va_W} {tys : List (ClassId × FieldType)} {a : Nat} (hexec : p.tables.exec = Jvm.exec) (hb : c.code = cc) (hK : va_K D cl tys s) (hP : va_P D cl ws H) (q0 t0 : Nat) {cA : ClassId} {n : Nat} {f : Nat → Int64} (ha : ws[q0]? = some (a, .inl (cA, n, .inr (.inl f)))) (ht : tys[t0]? = some (cA, .long)) {i : Int32} (hout : ¬ vp_in i n) (hdg : decode cc pc = .ok (.laload, 1))
    (k : ∀ tx : String, tx = (toString "Index " ++ toString i ++ toString " out of bounds for length " ++ toString n : String) → vx_Note p l e R s m args below meth c H locs cells slots Q (F0 m pc ls rest) "java/lang/ArrayIndexOutOfBoundsException" tx) : W p l e R s m args below meth c H locs cells slots Q (F0 m pc ls (.int i :: .ref a :: rest)) := by
  intro T hT X
  obtain ⟨t, st, q⟩ := k _ rfl T hT X
  refine ⟨t, ?_, q⟩
  have h1 := X.laloadOut hexec (by rw [hT]; exact hP q0 _ ha) ((hK.2 t0 _ ht).1 n (fun j => .long (f j))) (j := i) (by show (i < 0 ∨ (arrV _ _ _).slots.size ≤ _); rw [arrV_size]; exact Classical.byContradiction hout) (g := F0 m pc ls (.int i :: .ref a :: rest)) rfl (rest := rest) rfl (by rw [hb]; exact hdg) t
  simp only [arrV_size] at h1
  exact h1 st
theorem vx_lastZ {D : va_G} {cl : List vw_C} {ws : va_W} {tys : List (ClassId × FieldType)} {a : Nat} (hexec : p.tables.exec = Jvm.exec) (hb : c.code = cc) (hK : va_K D cl tys s) (hP : va_P D cl ws H) (q0 t0 : Nat) {cA : ClassId} {n : Nat} {f : Nat → Int64} (ha : ws[q0]? = some (a, .inl (cA, n, .inr (.inl f)))) (ht : tys[t0]? = some (cA, .long)) {i : Int32} {x : Int64} (hout : ¬ vp_in i n) (hdg : decode cc pc = .ok (.lastore, 1))
    (k : ∀ tx : String, tx = (toString "Index " ++ toString i ++ toString " out of bounds for length " ++ toString n : String) → vx_Note p l e R s m args below meth c H locs cells slots Q (F0 m pc ls rest) "java/lang/ArrayIndexOutOfBoundsException" tx) : W p l e R s m args below meth c H locs cells slots Q (F0 m pc ls (.long x :: .int i :: .ref a :: rest)) := by
  intro T hT X
  obtain ⟨t, st, q⟩ := k _ rfl T hT X
  refine ⟨t, ?_, q⟩
  have h1 := X.lastoreOut hexec (by rw [hT]; exact hP q0 _ ha) ((hK.2 t0 _ ht).1 n (fun j => .long (f j))) (j := i) (by show (i < 0 ∨ (arrV _ _ _).slots.size ≤ _); rw [arrV_size]; exact Classical.byContradiction hout) (g := F0 m pc ls (.long x :: .int i :: .ref a :: rest)) rfl (rest := rest) rfl (by rw [hb]; exact hdg) t
  simp only [arrV_size] at h1
  exact h1 st
theorem vx_faldZ {D : va_G} {cl : List vw_C} {ws : va_W} {tys : List (ClassId × FieldType)} {a : Nat} (hexec : p.tables.exec = Jvm.exec) (hb : c.code = cc) (hK : va_K D cl tys s) (hP : va_P D cl ws H) (q0 t0 : Nat) {cA : ClassId} {n : Nat} {f : Nat → UInt32} (ha : ws[q0]? = some (a, .inl (cA, n, .inr (.inr (.inl f))))) (ht : tys[t0]? = some (cA, .float)) {i : Int32} (hout : ¬ vp_in i n) (hdg : decode cc pc = .ok (.faload, 1))
    (k : ∀ tx : String, tx = (toString "Index " ++ toString i ++ toString " out of bounds for length " ++ toString n : String) → vx_Note p l e R s m args below meth c H locs cells slots Q (F0 m pc ls rest) "java/lang/ArrayIndexOutOfBoundsException" tx) : W p l e R s m args below meth c H locs cells slots Q (F0 m pc ls (.int i :: .ref a :: rest)) := by
  intro T hT X
  obtain ⟨t, st, q⟩ := k _ rfl T hT X
  refine ⟨t, ?_, q⟩
  have h1 := X.faloadOut hexec (by rw [hT]; exact hP q0 _ ha) ((hK.2 t0 _ ht).1 n (fun j => .float (f j))) (j := i) (by show (i < 0 ∨ (arrV _ _ _).slots.size ≤ _); rw [arrV_size]; exact Classical.byContradiction hout) (g := F0 m pc ls (.int i :: .ref a :: rest)) rfl (rest := rest) rfl (by rw [hb]; exact hdg) t
  simp only [arrV_size] at h1
  exact h1 st
theorem vx_fastZ {D : va_G} {cl : List vw_C} {ws : va_W} {tys : List (ClassId × FieldType)} {a : Nat} (hexec : p.tables.exec = Jvm.exec) (hb : c.code = cc) (hK : va_K D cl tys s) (hP : va_P D cl ws H) (q0 t0 : Nat) {cA : ClassId} {n : Nat} {f : Nat → UInt32} (ha : ws[q0]? = some (a, .inl (cA, n, .inr (.inr (.inl f))))) (ht : tys[t0]? = some (cA, .float)) {i : Int32} {x : UInt32} (hout : ¬ vp_in i n) (hdg : decode cc pc = .ok (.fastore, 1))
    (k : ∀ tx : String, tx = (toString "Index " ++ toString i ++ toString " out of bounds for length " ++ toString n : String) → vx_Note p l e R s m args below meth c H locs cells slots Q (F0 m pc ls rest) "java/lang/ArrayIndexOutOfBoundsException" tx) : W p l e R s m args below meth c H locs cells slots Q (F0 m pc ls (.float x :: .int i :: .ref a :: rest)) := by
  intro T hT X
  obtain ⟨t, st, q⟩ := k _ rfl T hT X
  refine ⟨t, ?_, q⟩
  have h1 := X.fastoreOut hexec (by rw [hT]; exact hP q0 _ ha) ((hK.2 t0 _ ht).1 n (fun j => .float (f j))) (j := i) (by show (i < 0 ∨ (arrV _ _ _).slots.size ≤ _); rw [arrV_size]; exact Classical.byContradiction hout) (g := F0 m pc ls (.float x :: .int i :: .ref a :: rest)) rfl (rest := rest) rfl (by rw [hb]; exact hdg) t
  simp only [arrV_size] at h1
  exact h1 st
theorem vx_daldZ {D : va_G} {cl : List vw_C} {ws : va_W} {tys : List (ClassId × FieldType)} {a : Nat} (hexec : p.tables.exec = Jvm.exec) (hb : c.code = cc) (hK : va_K D cl tys s) (hP : va_P D cl ws H) (q0 t0 : Nat) {cA : ClassId} {n : Nat} {f : Nat → UInt64} (ha : ws[q0]? = some (a, .inl (cA, n, .inr (.inr (.inr (.inl f)))))) (ht : tys[t0]? = some (cA, .double)) {i : Int32} (hout : ¬ vp_in i n) (hdg : decode cc pc = .ok (.daload, 1))
    (k : ∀ tx : String, tx = (toString "Index " ++ toString i ++ toString " out of bounds for length " ++ toString n : String) → vx_Note p l e R s m args below meth c H locs cells slots Q (F0 m pc ls rest) "java/lang/ArrayIndexOutOfBoundsException" tx) : W p l e R s m args below meth c H locs cells slots Q (F0 m pc ls (.int i :: .ref a :: rest)) := by
  intro T hT X
  obtain ⟨t, st, q⟩ := k _ rfl T hT X
  refine ⟨t, ?_, q⟩
  have h1 := X.daloadOut hexec (by rw [hT]; exact hP q0 _ ha) ((hK.2 t0 _ ht).1 n (fun j => .double (f j))) (j := i) (by show (i < 0 ∨ (arrV _ _ _).slots.size ≤ _); rw [arrV_size]; exact Classical.byContradiction hout) (g := F0 m pc ls (.int i :: .ref a :: rest)) rfl (rest := rest) rfl (by rw [hb]; exact hdg) t
  simp only [arrV_size] at h1
  exact h1 st
theorem vx_dastZ {D : va_G} {cl : List vw_C} {ws : va_W} {tys : List (ClassId × FieldType)} {a : Nat} (hexec : p.tables.exec = Jvm.exec) (hb : c.code = cc) (hK : va_K D cl tys s) (hP : va_P D cl ws H) (q0 t0 : Nat) {cA : ClassId} {n : Nat} {f : Nat → UInt64} (ha : ws[q0]? = some (a, .inl (cA, n, .inr (.inr (.inr (.inl f)))))) (ht : tys[t0]? = some (cA, .double)) {i : Int32} {x : UInt64} (hout : ¬ vp_in i n) (hdg : decode cc pc = .ok (.dastore, 1))
    (k : ∀ tx : String, tx = (toString "Index " ++ toString i ++ toString " out of bounds for length " ++ toString n : String) → vx_Note p l e R s m args below meth c H locs cells slots Q (F0 m pc ls rest) "java/lang/ArrayIndexOutOfBoundsException" tx) : W p l e R s m args below meth c H locs cells slots Q (F0 m pc ls (.double x :: .int i :: .ref a :: rest)) := by
  intro T hT X
  obtain ⟨t, st, q⟩ := k _ rfl T hT X
  refine ⟨t, ?_, q⟩
  have h1 := X.dastoreOut hexec (by rw [hT]; exact hP q0 _ ha) ((hK.2 t0 _ ht).1 n (fun j => .double (f j))) (j := i) (by show (i < 0 ∨ (arrV _ _ _).slots.size ≤ _); rw [arrV_size]; exact Classical.byContradiction hout) (g := F0 m pc ls (.double x :: .int i :: .ref a :: rest)) rfl (rest := rest) rfl (by rw [hb]; exact hdg) t
  simp only [arrV_size] at h1
  exact h1 st
theorem vx_arraylengthN (hexec : p.tables.exec = Jvm.exec) (hb : c.code = cc) (hdg : decode cc pc = .ok (.arraylength, 1)) (k : vx_NoteN p l e R s m args below meth c H locs cells slots Q (F0 m pc ls rest)) : W p l e R s m args below meth c H locs cells slots Q (F0 m pc ls (.null :: rest)) := by
  intro T hT X
  obtain ⟨t, st, q⟩ := k T hT X
  exact ⟨t, X.arraylengthNull hexec (g := F0 m pc ls (.null :: rest)) rfl (rest := rest) rfl (by rw [hb]; exact hdg) t st, q⟩
theorem vx_ialoadN (hexec : p.tables.exec = Jvm.exec) (hb : c.code = cc) {i : Int32} (hdg : decode cc pc = .ok (.iaload, 1)) (k : vx_NoteN p l e R s m args below meth c H locs cells slots Q (F0 m pc ls rest)) : W p l e R s m args below meth c H locs cells slots Q (F0 m pc ls (.int i :: .null :: rest)) := by
  intro T hT X
  obtain ⟨t, st, q⟩ := k T hT X
  exact ⟨t, X.ialoadNull hexec (g := F0 m pc ls (.int i :: .null :: rest)) rfl (rest := rest) rfl (by rw [hb]; exact hdg) t st, q⟩
theorem vx_laloadN (hexec : p.tables.exec = Jvm.exec) (hb : c.code = cc) {i : Int32} (hdg : decode cc pc = .ok (.laload, 1)) (k : vx_NoteN p l e R s m args below meth c H locs cells slots Q (F0 m pc ls rest)) : W p l e R s m args below meth c H locs cells slots Q (F0 m pc ls (.int i :: .null :: rest)) := by
  intro T hT X
  obtain ⟨t, st, q⟩ := k T hT X
  exact ⟨t, X.laloadNull hexec (g := F0 m pc ls (.int i :: .null :: rest)) rfl (rest := rest) rfl (by rw [hb]; exact hdg) t st, q⟩
theorem vx_faloadN (hexec : p.tables.exec = Jvm.exec) (hb : c.code = cc) {i : Int32} (hdg : decode cc pc = .ok (.faload, 1)) (k : vx_NoteN p l e R s m args below meth c H locs cells slots Q (F0 m pc ls rest)) : W p l e R s m args below meth c H locs cells slots Q (F0 m pc ls (.int i :: .null :: rest)) := by
  intro T hT X
  obtain ⟨t, st, q⟩ := k T hT X
  exact ⟨t, X.faloadNull hexec (g := F0 m pc ls (.int i :: .null :: rest)) rfl (rest := rest) rfl (by rw [hb]; exact hdg) t st, q⟩
theorem vx_daloadN (hexec : p.tables.exec = Jvm.exec) (hb : c.code = cc) {i : Int32} (hdg : decode cc pc = .ok (.daload, 1)) (k : vx_NoteN p l e R s m args below meth c H locs cells slots Q (F0 m pc ls rest)) : W p l e R s m args below meth c H locs cells slots Q (F0 m pc ls (.int i :: .null :: rest)) := by
  intro T hT X
  obtain ⟨t, st, q⟩ := k T hT X
  exact ⟨t, X.daloadNull hexec (g := F0 m pc ls (.int i :: .null :: rest)) rfl (rest := rest) rfl (by rw [hb]; exact hdg) t st, q⟩
theorem vx_aaloadN (hexec : p.tables.exec = Jvm.exec) (hb : c.code = cc) {i : Int32} (hdg : decode cc pc = .ok (.aaload, 1)) (k : vx_NoteN p l e R s m args below meth c H locs cells slots Q (F0 m pc ls rest)) : W p l e R s m args below meth c H locs cells slots Q (F0 m pc ls (.int i :: .null :: rest)) := by
  intro T hT X
  obtain ⟨t, st, q⟩ := k T hT X
  exact ⟨t, X.aaloadNull hexec (g := F0 m pc ls (.int i :: .null :: rest)) rfl (rest := rest) rfl (by rw [hb]; exact hdg) t st, q⟩
theorem vx_baloadN (hexec : p.tables.exec = Jvm.exec) (hb : c.code = cc) {i : Int32} (hdg : decode cc pc = .ok (.baload, 1)) (k : vx_NoteN p l e R s m args below meth c H locs cells slots Q (F0 m pc ls rest)) : W p l e R s m args below meth c H locs cells slots Q (F0 m pc ls (.int i :: .null :: rest)) := by
  intro T hT X
  obtain ⟨t, st, q⟩ := k T hT X
  exact ⟨t, X.baloadNull hexec (g := F0 m pc ls (.int i :: .null :: rest)) rfl (rest := rest) rfl (by rw [hb]; exact hdg) t st, q⟩
theorem vx_caloadN (hexec : p.tables.exec = Jvm.exec) (hb : c.code = cc) {i : Int32} (hdg : decode cc pc = .ok (.caload, 1)) (k : vx_NoteN p l e R s m args below meth c H locs cells slots Q (F0 m pc ls rest)) : W p l e R s m args below meth c H locs cells slots Q (F0 m pc ls (.int i :: .null :: rest)) := by
  intro T hT X
  obtain ⟨t, st, q⟩ := k T hT X
  exact ⟨t, X.caloadNull hexec (g := F0 m pc ls (.int i :: .null :: rest)) rfl (rest := rest) rfl (by rw [hb]; exact hdg) t st, q⟩
theorem vx_saloadN (hexec : p.tables.exec = Jvm.exec) (hb : c.code = cc) {i : Int32} (hdg : decode cc pc = .ok (.saload, 1)) (k : vx_NoteN p l e R s m args below meth c H locs cells slots Q (F0 m pc ls rest)) : W p l e R s m args below meth c H locs cells slots Q (F0 m pc ls (.int i :: .null :: rest)) := by
  intro T hT X
  obtain ⟨t, st, q⟩ := k T hT X
  exact ⟨t, X.saloadNull hexec (g := F0 m pc ls (.int i :: .null :: rest)) rfl (rest := rest) rfl (by rw [hb]; exact hdg) t st, q⟩
theorem vx_iastoreN (hexec : p.tables.exec = Jvm.exec) (hb : c.code = cc) {x : Int32} {i : Int32} (hdg : decode cc pc = .ok (.iastore, 1)) (k : vx_NoteN p l e R s m args below meth c H locs cells slots Q (F0 m pc ls rest)) : W p l e R s m args below meth c H locs cells slots Q (F0 m pc ls (.int x :: .int i :: .null :: rest)) := by
  intro T hT X
  obtain ⟨t, st, q⟩ := k T hT X
  exact ⟨t, X.iastoreNull hexec (g := F0 m pc ls (.int x :: .int i :: .null :: rest)) rfl (rest := rest) rfl (by rw [hb]; exact hdg) t st, q⟩
theorem vx_lastoreN (hexec : p.tables.exec = Jvm.exec) (hb : c.code = cc) {x : Int64} {i : Int32} (hdg : decode cc pc = .ok (.lastore, 1)) (k : vx_NoteN p l e R s m args below meth c H locs cells slots Q (F0 m pc ls rest)) : W p l e R s m args below meth c H locs cells slots Q (F0 m pc ls (.long x :: .int i :: .null :: rest)) := by
  intro T hT X
  obtain ⟨t, st, q⟩ := k T hT X
  exact ⟨t, X.lastoreNull hexec (g := F0 m pc ls (.long x :: .int i :: .null :: rest)) rfl (rest := rest) rfl (by rw [hb]; exact hdg) t st, q⟩
theorem vx_fastoreN (hexec : p.tables.exec = Jvm.exec) (hb : c.code = cc) {x : UInt32} {i : Int32} (hdg : decode cc pc = .ok (.fastore, 1)) (k : vx_NoteN p l e R s m args below meth c H locs cells slots Q (F0 m pc ls rest)) : W p l e R s m args below meth c H locs cells slots Q (F0 m pc ls (.float x :: .int i :: .null :: rest)) := by
  intro T hT X
  obtain ⟨t, st, q⟩ := k T hT X
  exact ⟨t, X.fastoreNull hexec (g := F0 m pc ls (.float x :: .int i :: .null :: rest)) rfl (rest := rest) rfl (by rw [hb]; exact hdg) t st, q⟩
theorem vx_dastoreN (hexec : p.tables.exec = Jvm.exec) (hb : c.code = cc) {x : UInt64} {i : Int32} (hdg : decode cc pc = .ok (.dastore, 1)) (k : vx_NoteN p l e R s m args below meth c H locs cells slots Q (F0 m pc ls rest)) : W p l e R s m args below meth c H locs cells slots Q (F0 m pc ls (.double x :: .int i :: .null :: rest)) := by
  intro T hT X
  obtain ⟨t, st, q⟩ := k T hT X
  exact ⟨t, X.dastoreNull hexec (g := F0 m pc ls (.double x :: .int i :: .null :: rest)) rfl (rest := rest) rfl (by rw [hb]; exact hdg) t st, q⟩
theorem vx_bastoreN (hexec : p.tables.exec = Jvm.exec) (hb : c.code = cc) {x : Int32} {i : Int32} (hdg : decode cc pc = .ok (.bastore, 1)) (k : vx_NoteN p l e R s m args below meth c H locs cells slots Q (F0 m pc ls rest)) : W p l e R s m args below meth c H locs cells slots Q (F0 m pc ls (.int x :: .int i :: .null :: rest)) := by
  intro T hT X
  obtain ⟨t, st, q⟩ := k T hT X
  exact ⟨t, X.bastoreNull hexec (g := F0 m pc ls (.int x :: .int i :: .null :: rest)) rfl (rest := rest) rfl (by rw [hb]; exact hdg) t st, q⟩
theorem vx_castoreN (hexec : p.tables.exec = Jvm.exec) (hb : c.code = cc) {x : Int32} {i : Int32} (hdg : decode cc pc = .ok (.castore, 1)) (k : vx_NoteN p l e R s m args below meth c H locs cells slots Q (F0 m pc ls rest)) : W p l e R s m args below meth c H locs cells slots Q (F0 m pc ls (.int x :: .int i :: .null :: rest)) := by
  intro T hT X
  obtain ⟨t, st, q⟩ := k T hT X
  exact ⟨t, X.castoreNull hexec (g := F0 m pc ls (.int x :: .int i :: .null :: rest)) rfl (rest := rest) rfl (by rw [hb]; exact hdg) t st, q⟩
theorem vx_sastoreN (hexec : p.tables.exec = Jvm.exec) (hb : c.code = cc) {x : Int32} {i : Int32} (hdg : decode cc pc = .ok (.sastore, 1)) (k : vx_NoteN p l e R s m args below meth c H locs cells slots Q (F0 m pc ls rest)) : W p l e R s m args below meth c H locs cells slots Q (F0 m pc ls (.int x :: .int i :: .null :: rest)) := by
  intro T hT X
  obtain ⟨t, st, q⟩ := k T hT X
  exact ⟨t, X.sastoreNull hexec (g := F0 m pc ls (.int x :: .int i :: .null :: rest)) rfl (rest := rest) rfl (by rw [hb]; exact hdg) t st, q⟩
theorem vx_invokeN {own C : String} {index maxL : Nat} {y : MethodName} {bytes : ByteArray} {ret : Option FieldType} (hexec : p.tables.exec = Jvm.exec) (hb : c.code = cc) (hown : s.vm.findClass own = some m.cls) (hlink : (Cond.methodLink own index y).before args s = true) (hinst : (Cond.instanceMethod y).before args s = true) (hcode : (Cond.code y bytes maxL ret).before args s = true) (hsel : (Cond.selects C y y).before args s = true)
    (hx : y.cls ≠ "java/lang/invoke/MethodHandle" ∧ y.cls ≠ "java/lang/invoke/VarHandle") {As : List Value} (hlen : (parseMethodDescriptor y.desc).map (fun d => d.parameters.length) = some As.length) (hdg : decode cc pc = .ok (.invokevirtual index, 3))
    (k : vx_NoteN p l e R s m args below meth c H locs cells slots Q (F0 m pc ls rest)) {st0 : List Value} (hst : st0 = As.reverse ++ .null :: rest) : W p l e R s m args below meth c H locs cells slots Q (F0 m pc ls st0) := by
  intro T hT X
  obtain ⟨r0, r, hn, hrm, hstR, hsigR⟩ := va_Decl.of hinst hcode
  obtain ⟨c2, r2, m2, q1, q2, q3, q4, kP, hkP, hkPi⟩ := Cond.selects_spec hsel
  cases hn.symm.trans q3
  have hl9 : As.length = r.sig.parameters.length := by
    rw [hsigR] at hlen
    exact (Option.some.inj hlen).symm
  obtain ⟨vm', X1, st1⟩ := X.invokevirtualNull hexec hown hlink hn hrm hstR hkP hkPi hx (g := F0 m pc ls st0) rfl (argsL := As) (rest := rest) hl9 hst (by rw [hb]; exact hdg)
  obtain ⟨t, st, q⟩ := k (T.setVm vm') hT X1
  exact ⟨t, st1 t st, q⟩
theorem vx_newarrayZ {atype : ArrayType} (hexec : p.tables.exec = Jvm.exec) (hb : c.code = cc) {n : Int32} (h0 : n < 0) (hdg : decode cc pc = .ok (.newarray atype, 2)) (k : ∀ tx : String, tx = toString n → vx_Note p l e R s m args below meth c H locs cells slots Q (F0 m pc ls rest) "java/lang/NegativeArraySizeException" tx) : W p l e R s m args below meth c H locs cells slots Q (F0 m pc ls (.int n :: rest)) := by
  intro T hT X
  obtain ⟨t, st, q⟩ := k _ rfl T hT X
  exact ⟨t, X.newarrayNegative hexec (g := F0 m pc ls (.int n :: rest)) rfl h0 (rest := rest) rfl (by rw [hb]; exact hdg) t st, q⟩
end
end VXM
/-! ===== END ===== -/
/-! ===== BEGIN an exception as an object: made, kept, thrown later (no traces kept) ===== -/
section VXK
variable {p : Program} {l : Launch} {e : Env} {R : Room} {s : State} {m₀ : MethodId} {args : Array Value} {below : List Frame} {meth : Method} {c : Code} {W : State} {locs : List Loc} {cells slots : Nat}
set_option maxHeartbeats 1000000 in
theorem vx_ctorMadeS (X : Stand p l e R s m₀ args below meth c W locs cells slots) (hexec : p.tables.exec = Jvm.exec) (htr : e.platform.stackTraces = false) {own cls : String} {names : List String} {ic : Nat}
    (hown : s.vm.findClass own = some m₀.cls) (hcls : Bundle.fit cls = true) (hnames : ∀ n ∈ names, Bundle.fit n = true)
    (h : ∀ a ∈ Bundle.ownAtoms own ic cls names, a.before args s = true)
    (hlocs : ∀ x ∈ locs, ∀ cell, s.heap[x.base]? = some cell → cell.vm.isStatics = false)
    {a : Addr} {cX : ClassId} {kX : Class} (hfoundX : s.vm.findClass cls = some cX) (hkX : s.vm.classes[cX]? = some kX) (hcell : W.heap[a]? = some (freshCell cX kX)) (hnew : s.heap.size ≤ a)
    {msg : Value} (hmsg : msg.isRef = true)
    {g : JFrame} (hg : g.method = m₀) (hsize : g.locals.size = c.maxLocals) {rest : List Value} (hstack : g.stack = msg :: .ref a :: .ref a :: rest)
    (hd6 : decode c.code g.pc = .ok (.invokespecial ic, 3))
    (hRframes : names.length + 3 < R.frames) (hRlocals : 2 * g.monitorRoom + ((Value.ref a :: rest).map fun v => v.category).sum + (13 * (names.length + 1) + 42) ≤ R.locals) :
    ∃ (V : State) (ce : Cell) (L : List Loc), Stand p l e R s m₀ args below meth c (V.setCell a ce) (locs ++ L) cells slots ∧ (∀ y ∈ L, y.base = a) ∧ a < V.heap.size ∧ ce.cls = cX ∧ ce.vm = .none ∧
      ∀ target, Steps p.tables e below ((V.setCell a ce).setTop { g with stack := .ref a :: rest, pc := g.pc + 3 }) target → Steps p.tables e below (W.setTop g) target := by
  have howns : e.platform.frameOwnsMonitors = true := by rw [X.admits.platform]
  have hfin : e.platform.finalization = false := by rw [X.admits.platform]
  have hpl : e.platform.magicAccessors = ({} : Platform).magicAccessors := by rw [X.admits.platform]
  have a' : ∀ x, x ∈ Bundle.ownAtoms own ic cls names → x.holds args s none s [] = true := fun x hx => h x hx
  obtain ⟨T, Z0, L, -, Y⟩ := ThrowableC.of_atoms (args := args) howns hfin hpl (fun x hx => h x (by simp [Bundle.ownAtoms, hx]))
  obtain ⟨Z, M, LZ, LM, hnZ⟩ := Init0T.ofS_atoms (args := args) hpl L Y (fun x hx => h x (by simp [Bundle.ownAtoms, hx]))
  obtain ⟨P1, Ps, hlen, L1, hL, hP1m, hlink1, hlink⟩ := Bundle.chainS (args := args) hpl hnZ names cls hcls hnames (fun x hx => h x (by simp [Bundle.ownAtoms, hx]))
  have hfound : s.vm.findClass cls = some P1.m.cls := findClass_of_methodNamed hP1m
  cases Option.some.inj (hfoundX.symm.trans hfound)
  obtain ⟨c1, kX', hc1, hk, hord, -, -, hn6⟩ := Cond.instantiable_spec (a' (.instantiable cls 6) (by simp [Bundle.ownAtoms]))
  cases Option.some.inj (hc1.symm.trans hfound)
  cases Option.some.inj (hkX.symm.trans hk)
  have hsel0 : selectMethod e.platform s.vm P1.m.cls T.fill0 = .method T.fill0 := by
    obtain ⟨c2, r2, m2, q1, q2, q3, q4, -⟩ := Cond.selects_spec (a' (.selects cls Bundle.tFill0 Bundle.tFill0) (by simp [Bundle.ownAtoms]))
    cases Option.some.inj (q1.symm.trans hfound)
    cases Option.some.inj (q2.symm.trans (State.methodFound?_of_named Y.fill0 (by decide)))
    cases Option.some.inj (q3.symm.trans Y.fill0)
    rw [Launch.admits_selectMethod X.admits]; exact q4
  have hselF : selectMethod e.platform s.vm P1.m.cls T.fill = .method T.fill := by
    obtain ⟨c2, r2, m2, q1, q2, q3, q4, -⟩ := Cond.selects_spec (a' (.selects cls Bundle.tFill Bundle.tFill) (by simp [Bundle.ownAtoms]))
    cases Option.some.inj (q1.symm.trans hfound)
    cases Option.some.inj (q2.symm.trans (State.methodFound?_of_named Y.fill (by decide)))
    cases Option.some.inj (q3.symm.trans Y.fill)
    rw [Launch.admits_selectMethod X.admits]; exact q4
  obtain ⟨cellS0, hcS0, hiss⟩ := Y.statics
  obtain ⟨u0, hu0⟩ := Cond.staticRefV Y.unassigned L.unassignedStatic L.statics hcS0 hiss (a' (.isRef (.static Bundle.tN "UNASSIGNED_STACK" Bundle.steD)) (by simp [Bundle.ownAtoms]))
  obtain ⟨sen, hsen⟩ := Cond.staticRefV Y.sentinel L.sentinelStatic L.statics hcS0 hiss (a' (.isRef (.static Bundle.tN "SUPPRESSED_SENTINEL" Bundle.listD)) (by simp [Bundle.ownAtoms]))
  obtain ⟨ci198, i198, fB, hk198, hg198, ha198, hsB, -, hnB, htB, hffB⟩ := Cond.ownField (t := .object "java/lang/Object") Y.found L.cls (by decide +kernel) (a' (.fieldLink Bundle.tN 198 Bundle.tN "backtrace" "Ljava/lang/Object;") (by simp [Bundle.ownAtoms])) (a' (.lays Bundle.tN Bundle.tN "backtrace" "Ljava/lang/Object;") (by simp [Bundle.ownAtoms])) e.platform hpl
  obtain ⟨cellS, hcS', heS, -, hkeep⟩ := X.same.2.2.2.2.2 T.aS cellS0 hcS0
  have hcellS : W.heap[T.aS]? = some cellS := hcS'
  have hout' : ∀ i, (⟨T.aS, i⟩ : Loc) ∉ locs := fun i hmem => by
    have := hlocs _ hmem cellS0 hcS0
    rw [hiss] at this; cases this
  have hknownS : cellS.vm ≠ .unknown := by
    rw [heS]; intro hu
    rw [show cellS0.vm = .unknown from hu] at hiss
    cases hiss
  have hneS : T.aS ≠ a := Nat.ne_of_lt (Nat.lt_of_lt_of_le (Array.getElem?_eq_some_iff.mp hcS0).1 hnew)
  obtain ⟨iM, hffM⟩ := Y.msg
  obtain ⟨tyC, dC, hdC, hdnC⟩ := Cond.laysAt hfound hk Y.cause (a' (.lays cls Bundle.tN "cause" "Ljava/lang/Throwable;") (by simp [Bundle.ownAtoms]))
  obtain ⟨tyS, dS, hdS, hdnS⟩ := Cond.laysAt hfound hk Y.stack (a' (.lays cls Bundle.tN "stackTrace" Bundle.steD) (by simp [Bundle.ownAtoms]))
  obtain ⟨tyP, dP, hdP, hdnP⟩ := Cond.laysAt hfound hk Y.supp (a' (.lays cls Bundle.tN "suppressedExceptions" Bundle.listD) (by simp [Bundle.ownAtoms]))
  obtain ⟨tyM, dM, hdM, hdnM⟩ := Cond.laysAt hfound hk hffM (a' (.lays cls Bundle.tN "detailMessage" "Ljava/lang/String;") (by simp [Bundle.ownAtoms]))
  obtain ⟨tyB, dB, hdB, hdnB⟩ := Cond.laysAt hfound hk hffB (a' (.lays cls Bundle.tN "backtrace" "Ljava/lang/Object;") (by simp [Bundle.ownAtoms]))
  have bC := Cond.laysApart hdB hdC hdnB hdnC (by rw [hnB, Y.causeName]; decide)
  have bS := Cond.laysApart hdB hdS hdnB hdnS (by rw [hnB, Y.stackName]; decide)
  have bP := Cond.laysApart hdB hdP hdnB hdnP (by rw [hnB, Y.suppName]; decide)
  have hskip : SkipFacts T e.platform s (fun u => u) u0 ((preparedCellV T.toThrowableT (freshCell P1.m.cls kX) a u0 sen).withEntry W.cur) :=
    ⟨{ ci198 := ci198, i198 := i198, fBack := fB }, ⟨hk198, hg198, ha198, hsB⟩, by
      have := fresh_default (c := P1.m.cls) tyB
      rw [htB] at this
      simpa [preparedCellV, Cell.setSlot, Cell.withEntry, Array.getElem?_setIfInBounds, bC, bS, bP, bC.symm, bS.symm, bP.symm, defaultValue] using this, fun _ _ => rfl⟩
  obtain ⟨tm, methC, cdC, kC, vm₁, hnC, -, -, -, -, -, -, -, hW₁, st1⟩ := Steps.initColdS (tb := p.tables) (e := e) (below := below) (s := s) (U := W) X.here hexec X.warmed hpl hown (t := Bundle.initS cls) rfl rfl (Bundle.fit_spec hcls).2
    (a' (.methodLink own ic (Bundle.initS cls)) (by simp [Bundle.ownAtoms])) (h (.instanceMethod (Bundle.initS cls)) (by cases names <;> simp [Bundle.ownAtoms, Bundle.chainSAtoms, Bundle.passSAtoms])) (bytes := Bundle.six) (maxL := 2) (h (.code (Bundle.initS cls) Bundle.six 2 none) (by cases names <;> simp [Bundle.ownAtoms, Bundle.chainSAtoms, Bundle.passSAtoms]))
    (f := g) hg (a := a) (msg := msg) (rest := .ref a :: rest) hstack hd6
  cases Option.some.inj (hnC.symm.trans hP1m)
  have X₁ := X.noted hW₁
  obtain ⟨vm₂, X₂, st2⟩ := X₁.ctorMessageOffV hexec (g := { g with stack := .ref a :: rest }) hg hsize T L Z LZ M LM (P1 :: Ps)
    (fun P hP => by rcases List.mem_cons.mp hP with rfl | hP; exact L1; exact hL P hP) ⟨hlink1, hlink⟩ (u0 := u0) (sen := sen) (self := a) hmsg (cell := freshCell P1.m.cls kX) (cellS := cellS)
    hcell (fun _ => by simp) (by simp) rfl rfl hsel0 hselF hcellS hneS hknownS (by rw [hkeep _ (hout' _)]; exact hu0) (by rw [hkeep _ (hout' _)]; exact hsen)
    (Takes.of_laid hk hord tyC (by rw [Y.causeType]; rfl)) (Takes.of_laid hk hord tyS (by rw [Y.stackType]; exact fits_refV_array _ u0)) (Takes.of_laid hk hord tyP (by rw [Y.suppType]; exact fits_refV_object _ sen))
    (Takes.of_laid hk hord tyM (by rw [Y.msgType]; exact fits_refV_object _ ⟨msg, hmsg⟩)) Y.objLocals hskip htr [] hd6
    (by simp only [List.length_cons, hlen]; omega) (by simp only [List.length_cons, hlen]; exact hRlocals)
  have hlt : a < ((W.setVm vm₁).setVm vm₂).heap.size := (Array.getElem?_eq_some_iff.mp hcell).1
  refine ⟨(W.setVm vm₁).setVm vm₂, _, _, X₂, fun y hy => ?_, hlt, rfl, rfl, fun target hwalk => st1 _ (fun acts => ?_)⟩
  · simp only [List.mem_cons, List.not_mem_nil, or_false] at hy
    rcases hy with rfl | rfl | rfl | rfl | rfl <;> rfl
  · rw [doInvoke_state]
    exact st2 _ hwalk
set_option maxHeartbeats 1000000 in
theorem vx_ctorMade0 (X : Stand p l e R s m₀ args below meth c W locs cells slots) (hexec : p.tables.exec = Jvm.exec) (htr : e.platform.stackTraces = false) {own cls : String} {names : List String} {ic : Nat}
    (hown : s.vm.findClass own = some m₀.cls) (hcls : Bundle.fit cls = true) (hnames : ∀ n ∈ names, Bundle.fit n = true)
    (h : ∀ a ∈ Bundle.ownAtoms0 own ic cls names, a.before args s = true)
    (hlocs : ∀ x ∈ locs, ∀ cell, s.heap[x.base]? = some cell → cell.vm.isStatics = false)
    {a : Addr} {cX : ClassId} {kX : Class} (hfoundX : s.vm.findClass cls = some cX) (hkX : s.vm.classes[cX]? = some kX) (hcell : W.heap[a]? = some (freshCell cX kX)) (hnew : s.heap.size ≤ a)
    {g : JFrame} (hg : g.method = m₀) (hsize : g.locals.size = c.maxLocals) {rest : List Value} (hstack : g.stack = .ref a :: .ref a :: rest)
    (hd6 : decode c.code g.pc = .ok (.invokespecial ic, 3))
    (hRframes : names.length + 3 < R.frames) (hRlocals : 2 * g.monitorRoom + ((Value.ref a :: rest).map fun v => v.category).sum + (13 * (names.length + 1) + 41) ≤ R.locals) :
    ∃ (V : State) (ce : Cell) (L : List Loc), Stand p l e R s m₀ args below meth c (V.setCell a ce) (locs ++ L) cells slots ∧ (∀ y ∈ L, y.base = a) ∧ a < V.heap.size ∧ ce.cls = cX ∧ ce.vm = .none ∧
      ∀ target, Steps p.tables e below ((V.setCell a ce).setTop { g with stack := .ref a :: rest, pc := g.pc + 3 }) target → Steps p.tables e below (W.setTop g) target := by
  have howns : e.platform.frameOwnsMonitors = true := by rw [X.admits.platform]
  have hfin : e.platform.finalization = false := by rw [X.admits.platform]
  have hpl : e.platform.magicAccessors = ({} : Platform).magicAccessors := by rw [X.admits.platform]
  have a' : ∀ x, x ∈ Bundle.ownAtoms0 own ic cls names → x.holds args s none s [] = true := fun x hx => h x hx
  obtain ⟨T, Z, L, LZ, Y⟩ := ThrowableC.of_atoms (args := args) howns hfin hpl (fun x hx => h x (by simp [Bundle.ownAtoms0, hx]))
  obtain ⟨P1, Ps, hlen, L1, hL, hP1m, hlink1, hlink⟩ := Bundle.chain0 (args := args) hpl Y.init0 names cls hcls hnames (fun x hx => h x (by simp [Bundle.ownAtoms0, hx]))
  have hfound : s.vm.findClass cls = some P1.m.cls := findClass_of_methodNamed hP1m
  cases Option.some.inj (hfoundX.symm.trans hfound)
  obtain ⟨c1, kX', hc1, hk, hord, -, -, hn6⟩ := Cond.instantiable_spec (a' (.instantiable cls 6) (by simp [Bundle.ownAtoms0]))
  cases Option.some.inj (hc1.symm.trans hfound)
  cases Option.some.inj (hkX.symm.trans hk)
  have hsel0 : selectMethod e.platform s.vm P1.m.cls T.fill0 = .method T.fill0 := by
    obtain ⟨c2, r2, m2, q1, q2, q3, q4, -⟩ := Cond.selects_spec (a' (.selects cls Bundle.tFill0 Bundle.tFill0) (by simp [Bundle.ownAtoms0]))
    cases Option.some.inj (q1.symm.trans hfound)
    cases Option.some.inj (q2.symm.trans (State.methodFound?_of_named Y.fill0 (by decide)))
    cases Option.some.inj (q3.symm.trans Y.fill0)
    rw [Launch.admits_selectMethod X.admits]; exact q4
  have hselF : selectMethod e.platform s.vm P1.m.cls T.fill = .method T.fill := by
    obtain ⟨c2, r2, m2, q1, q2, q3, q4, -⟩ := Cond.selects_spec (a' (.selects cls Bundle.tFill Bundle.tFill) (by simp [Bundle.ownAtoms0]))
    cases Option.some.inj (q1.symm.trans hfound)
    cases Option.some.inj (q2.symm.trans (State.methodFound?_of_named Y.fill (by decide)))
    cases Option.some.inj (q3.symm.trans Y.fill)
    rw [Launch.admits_selectMethod X.admits]; exact q4
  obtain ⟨cellS0, hcS0, hiss⟩ := Y.statics
  obtain ⟨u0, hu0⟩ := Cond.staticRefV Y.unassigned L.unassignedStatic L.statics hcS0 hiss (a' (.isRef (.static Bundle.tN "UNASSIGNED_STACK" Bundle.steD)) (by simp [Bundle.ownAtoms0]))
  obtain ⟨sen, hsen⟩ := Cond.staticRefV Y.sentinel L.sentinelStatic L.statics hcS0 hiss (a' (.isRef (.static Bundle.tN "SUPPRESSED_SENTINEL" Bundle.listD)) (by simp [Bundle.ownAtoms0]))
  obtain ⟨ci198, i198, fB, hk198, hg198, ha198, hsB, -, hnB, htB, hffB⟩ := Cond.ownField (t := .object "java/lang/Object") Y.found L.cls (by decide +kernel) (a' (.fieldLink Bundle.tN 198 Bundle.tN "backtrace" "Ljava/lang/Object;") (by simp [Bundle.ownAtoms0])) (a' (.lays Bundle.tN Bundle.tN "backtrace" "Ljava/lang/Object;") (by simp [Bundle.ownAtoms0])) e.platform hpl
  obtain ⟨cellS, hcS', heS, -, hkeep⟩ := X.same.2.2.2.2.2 T.aS cellS0 hcS0
  have hcellS : W.heap[T.aS]? = some cellS := hcS'
  have hout' : ∀ i, (⟨T.aS, i⟩ : Loc) ∉ locs := fun i hmem => by
    have := hlocs _ hmem cellS0 hcS0
    rw [hiss] at this; cases this
  have hknownS : cellS.vm ≠ .unknown := by
    rw [heS]; intro hu
    rw [show cellS0.vm = .unknown from hu] at hiss
    cases hiss
  have hneS : T.aS ≠ a := Nat.ne_of_lt (Nat.lt_of_lt_of_le (Array.getElem?_eq_some_iff.mp hcS0).1 hnew)
  obtain ⟨iM, hffM⟩ := Y.msg
  obtain ⟨tyC, dC, hdC, hdnC⟩ := Cond.laysAt hfound hk Y.cause (a' (.lays cls Bundle.tN "cause" "Ljava/lang/Throwable;") (by simp [Bundle.ownAtoms0]))
  obtain ⟨tyS, dS, hdS, hdnS⟩ := Cond.laysAt hfound hk Y.stack (a' (.lays cls Bundle.tN "stackTrace" Bundle.steD) (by simp [Bundle.ownAtoms0]))
  obtain ⟨tyP, dP, hdP, hdnP⟩ := Cond.laysAt hfound hk Y.supp (a' (.lays cls Bundle.tN "suppressedExceptions" Bundle.listD) (by simp [Bundle.ownAtoms0]))
  obtain ⟨tyM, dM, hdM, hdnM⟩ := Cond.laysAt hfound hk hffM (a' (.lays cls Bundle.tN "detailMessage" "Ljava/lang/String;") (by simp [Bundle.ownAtoms0]))
  obtain ⟨tyB, dB, hdB, hdnB⟩ := Cond.laysAt hfound hk hffB (a' (.lays cls Bundle.tN "backtrace" "Ljava/lang/Object;") (by simp [Bundle.ownAtoms0]))
  have bC := Cond.laysApart hdB hdC hdnB hdnC (by rw [hnB, Y.causeName]; decide)
  have bS := Cond.laysApart hdB hdS hdnB hdnS (by rw [hnB, Y.stackName]; decide)
  have bP := Cond.laysApart hdB hdP hdnB hdnP (by rw [hnB, Y.suppName]; decide)
  have hskip : SkipFacts T e.platform s (fun u => u) u0 ((preparedCellV T.toThrowableT (freshCell P1.m.cls kX) a u0 sen).withEntry W.cur) :=
    ⟨{ ci198 := ci198, i198 := i198, fBack := fB }, ⟨hk198, hg198, ha198, hsB⟩, by
      have := fresh_default (c := P1.m.cls) tyB
      rw [htB] at this
      simpa [preparedCellV, Cell.setSlot, Cell.withEntry, Array.getElem?_setIfInBounds, bC, bS, bP, bC.symm, bS.symm, bP.symm, defaultValue] using this, fun _ _ => rfl⟩
  obtain ⟨tm, methC, cdC, kC, vm₁, hnC, -, -, -, -, -, -, -, hW₁, st1⟩ := Steps.initCold (tb := p.tables) (e := e) (below := below) (s := s) (U := W) X.here hexec X.warmed hpl hown (t := Bundle.init0 cls) rfl rfl (Bundle.fit_spec hcls).2
    (a' (.methodLink own ic (Bundle.init0 cls)) (by simp [Bundle.ownAtoms0])) (h (.instanceMethod (Bundle.init0 cls)) (by cases names <;> simp [Bundle.ownAtoms0, Bundle.chain0Atoms, Bundle.passAtoms])) (bytes := Bundle.five) (maxL := 1) (h (.code (Bundle.init0 cls) Bundle.five 1 none) (by cases names <;> simp [Bundle.ownAtoms0, Bundle.chain0Atoms, Bundle.passAtoms]))
    (f := g) hg (a := a) (rest := .ref a :: rest) hstack hd6
  cases Option.some.inj (hnC.symm.trans hP1m)
  have X₁ := X.noted hW₁
  obtain ⟨vm₂, X₂, st2⟩ := X₁.ctorPlainOffV hexec (g := { g with stack := .ref a :: rest }) hg hsize T L Z LZ (P1 :: Ps)
    (fun P hP => by rcases List.mem_cons.mp hP with rfl | hP; exact L1; exact hL P hP) ⟨hlink1, hlink⟩ (u0 := u0) (sen := sen) (self := a) (cell := freshCell P1.m.cls kX) (cellS := cellS)
    hcell (fun _ => by simp) (by simp) rfl rfl hsel0 hselF hcellS hneS hknownS (by rw [hkeep _ (hout' _)]; exact hu0) (by rw [hkeep _ (hout' _)]; exact hsen)
    (Takes.of_laid hk hord tyC (by rw [Y.causeType]; rfl)) (Takes.of_laid hk hord tyS (by rw [Y.stackType]; exact fits_refV_array _ u0)) (Takes.of_laid hk hord tyP (by rw [Y.suppType]; exact fits_refV_object _ sen)) Y.objLocals hskip htr [] hd6
    (by simp only [List.length_cons, hlen]; omega) (by simp only [List.length_cons, hlen]; exact hRlocals)
  have hlt : a < ((W.setVm vm₁).setVm vm₂).heap.size := (Array.getElem?_eq_some_iff.mp hcell).1
  refine ⟨(W.setVm vm₁).setVm vm₂, _, _, X₂, fun y hy => ?_, hlt, rfl, rfl, fun target hwalk => st1 _ (fun acts => ?_)⟩
  · simp only [List.mem_cons, List.not_mem_nil, or_false] at hy
    rcases hy with rfl | rfl | rfl | rfl <;> rfl
  · rw [doInvoke_state]
    exact st2 _ hwalk
end VXK
section VXK2
variable {p : Program} {l : Launch} {e : Env} {R : Room} {s : State} {m : MethodId} {args : Array Value} {below : List Frame} {meth : Method} {c : Code} {H : Heap} {locs : List Loc} {cells slots : Nat} {Q : State → Prop}
variable {ls : Array Slot} {rest : List Value} {D : va_G} {cl : List vw_C} {tys : List (ClassId × FieldType)} {ws : va_W}
/-- 'new E("text")' that isn't thrown at once: the object goes on the stack -/
theorem vx_makeS {cc : ByteArray} {pc : Nat} (hexec : p.tables.exec = Jvm.exec) (hb : c.code = cc) (hl : l.stackTraces = false) {own cls text : String} {names : List String} {ik is ic sa ci : Nat} {A : Nat → Prop} {T0 : u_T}
    (hown : s.vm.findClass own = some m.cls) (hcls : Bundle.fit cls = true) (hnames : ∀ n ∈ names, Bundle.fit n = true)
    (hk : (Cond.classLink own ik cls).before args s = true) (hini : (Cond.initialized cls).before args s = true) (hstr : vk_R own is text sa s) (hat : ∀ w ∈ vx_atS own ic cls names, w.before args s = true)
    (hgood : ∀ w ∈ Cond.classLink own ik cls :: Cond.initialized cls :: vx_atS own ic cls names, vx_ot w = true)
    (hU : vx_Zq Bundle.tN "UNASSIGNED_STACK" Bundle.steD A s s.heap) (hN : vx_Zq Bundle.tN "SUPPRESSED_SENTINEL" Bundle.listD A s s.heap) (hS : va_S A s.heap H locs) (hsize : ls.size = c.maxLocals)
    (d0 : decode cc pc = .ok (.new ik, 3)) (d3 : decode cc (pc + 3) = .ok (.dup, 1)) (d4 : decode cc (pc + 4) = .ok (.ldc is, 2)) (d6 : decode cc (pc + 6) = .ok (.invokespecial ic, 3))
    (hK : va_K D cl tys s) (hP : va_P D cl ws H) (hD : va_D A ws) (hA : ∀ q, s.heap.size ≤ q → A q) (hc : cl[ci]? = some (cls, T0, 0))
    (hRframes : names.length + 3 < R.frames) (hRlocals : (rest.map fun v => v.category).sum + (13 * (names.length + 1) + 43) ≤ R.locals) (hRcells : cells + 1 ≤ R.cells) (hRslots : slots + 6 ≤ R.slots)
    (kk : ∀ (q : Nat) (H1 : Heap), va_P D cl (ws ++ [(q, .inr (ci, []))]) H1 → va_D A (ws ++ [(q, .inr (ci, []))]) → va_S A s.heap H1 locs → W p l e R s m args below meth c H1 locs (cells + 1) (slots + 6) Q (F0 m (pc + 9) ls (.ref q :: rest))) :
    W p l e R s m args below meth c H locs cells slots Q (F0 m pc ls rest) := by
  intro T hT X
  subst hT
  have htr : e.platform.stackTraces = false := (show e.platform.stackTraces = l.stackTraces by rw [X.admits.platform]).trans hl
  have Y := vx_rebase X (R' := { frames := R.frames, locals := R.locals, cells := 1, slots := 6 }) (Nat.le_refl _) (Nat.le_refl _) hRcells hRslots
  obtain ⟨s', hA'⟩ : ∃ z, z = (T.setVm s.vm).setFrames (.invoking m args :: below) := ⟨_, rfl⟩
  rw [← hA'] at Y
  have hvm : s'.vm = s.vm := by rw [hA']; rfl
  have hhp : s'.heap = T.heap := by rw [hA']; rfl
  have hW0 : s.WarmedH s'.vm := by rw [hvm]; exact State.WarmedH.refl s
  have hat' : ∀ w ∈ vx_atS own ic cls names, w.before args s' = true := fun w hw => vx_ot_at hW0 hvm.symm (hgood w (List.mem_cons_of_mem _ (List.mem_cons_of_mem _ hw))) (hat w hw)
  have hk' : (Cond.classLink own ik cls).before args s' = true := vx_ot_at hW0 hvm.symm (hgood _ List.mem_cons_self) hk
  have hini' : (Cond.initialized cls).before args s' = true := vx_ot_at hW0 hvm.symm (hgood _ (List.mem_cons_of_mem _ List.mem_cons_self)) hini
  have hU' : vx_Zq Bundle.tN "UNASSIGNED_STACK" Bundle.steD A s' s'.heap := by rw [hhp]; exact vx_Zq.moved hW0.alike (hU.kept hS.2.1)
  have hN' : vx_Zq Bundle.tN "SUPPRESSED_SENTINEL" Bundle.listD A s' s'.heap := by rw [hhp]; exact vx_Zq.moved hW0.alike (hN.kept hS.2.1)
  have h : ∀ w ∈ Bundle.ownAtoms own ic cls names, w.before args s' = true := vx_own hat' (vx_isRefq hU'.1) (vx_isRefq hN'.1) hU'.2.word hN'.2.word
  have hown' : s'.vm.findClass own = some m.cls := by rw [hvm]; exact hown
  have hins : (Cond.instantiable cls 6).before args s' = true := h _ (by simp [Bundle.ownAtoms])
  obtain ⟨vm₁, cX, kX, hfX, hkX, -, -, X₁, st1⟩ := Y.newCold hexec (own := own) (C := cls) (index := ik) (n := 6) hown' hk' hins hini'
    (g := F0 m pc ls rest) rfl (by rw [hb]; exact d0) (Nat.le_refl _) (Nat.le_refl _)
  generalize hT1 : (T.setVm vm₁).pushCell { cls := cX, slots := kX.instanceTypes.map defaultValue, vm := .none } = T1 at X₁ st1
  have hcat : (Value.ref T.heap.size).category = 1 := rfl
  have hcellA : T1.heap[T.heap.size]? = some (freshCell cX kX) := by rw [← hT1]; exact State.heap_pushCell_size _ _
  have d3' : decode c.code (pc + 3) = .ok (.dup, 1) := by rw [hb]; exact d3
  have d4' : decode c.code (pc + 4) = .ok (.ldc is, 2) := by rw [hb]; exact d4
  have hstr' : vk_R own is text sa s' := vk_R.warm hW0 hstr
  obtain ⟨V, ce, L, Z, hL, hlt, hcl9, hvm9, st⟩ := vx_ctorMadeS X₁ hexec htr (own := own) (cls := cls) (names := names) (ic := ic) hown' hcls hnames h (fun x hx => nomatch hx) hfX hkX hcellA (by rw [hhp]; exact Nat.le_refl _) (msg := .ref sa) rfl
    (g := { method := m, pc := pc + 6, locals := ls, stack := .ref sa :: .ref T.heap.size :: .ref T.heap.size :: rest, locked := none }) rfl hsize (rest := rest) rfl
    (by rw [hb]; exact d6) hRframes (by simp only [List.map_cons, List.sum_cons, hcat]; omega)
  have Z0 := Stand.forget (locs := []) Z (fun y hy => by rw [hL y hy, hhp]; exact Nat.le_refl _)
  obtain ⟨f1, f2⟩ := vx_frame Z0.same
  rw [hhp] at f1 f2
  have hcid : ce.cls = D.1 ci := by
    rw [hcl9]
    have h1 := (hK.1 ci _ hc).2.1
    rw [hvm] at hfX
    exact Option.some.inj (hfX.symm.trans h1)
  have hh : (V.setCell T.heap.size ce).heap[T.heap.size]? = some ce := heapAt_setCell_self (s := V) ce hlt
  subst hA'
  have X5 := vx_back9 X Y Z0
  have X6 : Stand p l e R s m args below meth c (V.setCell T.heap.size ce) locs (cells + 1) (slots + 6) := { X5 with same := X5.same.mono (by omega) (by omega) }
  have hk9 : ∀ (k : Nat) (x : Nat × va_E), ws[k]? = some x → (V.setCell T.heap.size ce).heap[x.1]? = T.heap[x.1]? := fun k x hx => f2 x.1 ((hP k x hx).lt) (fun z hz => nomatch hz)
  obtain ⟨t, a1, b1⟩ := kk T.heap.size (V.setCell T.heap.size ce).heap ((hP.kept hk9).app (fun k x hx => by
      have hz : k < 1 := (List.getElem?_eq_some_iff.mp hx).1
      rw [show k = 0 by omega] at hx
      cases hx
      exact ⟨_, hc, ce, hh, hcid, hvm9, fun k hk => absurd hk (Nat.not_lt_zero k)⟩)) (hD.push hP rfl (hA _ hS.1)) ⟨Nat.le_trans hS.1 f1, fun q h1 h2 => (f2 q (Nat.lt_of_lt_of_le h1 hS.1) (fun z hz => nomatch hz)).trans (hS.2.1 q h1 h2), hS.2.2⟩ _ rfl X6
  refine ⟨t, st1 _ ?_, b1⟩
  show Steps p.tables e below (T1.setTop { method := m, pc := pc + 3, locals := ls, stack := .ref T.heap.size :: rest, locked := none }) _
  jvm_step X₁.here [X₁.here.top, hexec, d3', Value.category]
  exact X₁.ldcString hexec (own := own) (text := text) (index := is) (a := sa) hown' hstr'.1 hstr'.2
    (g := { method := m, pc := pc + 4, locals := ls, stack := .ref T.heap.size :: .ref T.heap.size :: rest, locked := none }) rfl d4' _ (st _ a1)
/-- 'new E()' that isn't thrown at once: the object goes on the stack -/
theorem vx_make0 {cc : ByteArray} {pc : Nat} (hexec : p.tables.exec = Jvm.exec) (hb : c.code = cc) (hl : l.stackTraces = false) {own cls : String} {names : List String} {ik ic ci : Nat} {A : Nat → Prop} {T0 : u_T}
    (hown : s.vm.findClass own = some m.cls) (hcls : Bundle.fit cls = true) (hnames : ∀ n ∈ names, Bundle.fit n = true)
    (hk : (Cond.classLink own ik cls).before args s = true) (hini : (Cond.initialized cls).before args s = true) (hat : ∀ w ∈ vx_at0 own ic cls names, w.before args s = true)
    (hgood : ∀ w ∈ Cond.classLink own ik cls :: Cond.initialized cls :: vx_at0 own ic cls names, vx_ot w = true)
    (hU : vx_Zq Bundle.tN "UNASSIGNED_STACK" Bundle.steD A s s.heap) (hN : vx_Zq Bundle.tN "SUPPRESSED_SENTINEL" Bundle.listD A s s.heap) (hS : va_S A s.heap H locs) (hsize : ls.size = c.maxLocals)
    (d0 : decode cc pc = .ok (.new ik, 3)) (d3 : decode cc (pc + 3) = .ok (.dup, 1)) (d4 : decode cc (pc + 4) = .ok (.invokespecial ic, 3))
    (hK : va_K D cl tys s) (hP : va_P D cl ws H) (hD : va_D A ws) (hA : ∀ q, s.heap.size ≤ q → A q) (hc : cl[ci]? = some (cls, T0, 0))
    (hRframes : names.length + 3 < R.frames) (hRlocals : (rest.map fun v => v.category).sum + (13 * (names.length + 1) + 42) ≤ R.locals) (hRcells : cells + 1 ≤ R.cells) (hRslots : slots + 6 ≤ R.slots)
    (kk : ∀ (q : Nat) (H1 : Heap), va_P D cl (ws ++ [(q, .inr (ci, []))]) H1 → va_D A (ws ++ [(q, .inr (ci, []))]) → va_S A s.heap H1 locs → W p l e R s m args below meth c H1 locs (cells + 1) (slots + 6) Q (F0 m (pc + 7) ls (.ref q :: rest))) :
    W p l e R s m args below meth c H locs cells slots Q (F0 m pc ls rest) := by
  intro T hT X
  subst hT
  have htr : e.platform.stackTraces = false := (show e.platform.stackTraces = l.stackTraces by rw [X.admits.platform]).trans hl
  have Y := vx_rebase X (R' := { frames := R.frames, locals := R.locals, cells := 1, slots := 6 }) (Nat.le_refl _) (Nat.le_refl _) hRcells hRslots
  obtain ⟨s', hA'⟩ : ∃ z, z = (T.setVm s.vm).setFrames (.invoking m args :: below) := ⟨_, rfl⟩
  rw [← hA'] at Y
  have hvm : s'.vm = s.vm := by rw [hA']; rfl
  have hhp : s'.heap = T.heap := by rw [hA']; rfl
  have hW0 : s.WarmedH s'.vm := by rw [hvm]; exact State.WarmedH.refl s
  have hat' : ∀ w ∈ vx_at0 own ic cls names, w.before args s' = true := fun w hw => vx_ot_at hW0 hvm.symm (hgood w (List.mem_cons_of_mem _ (List.mem_cons_of_mem _ hw))) (hat w hw)
  have hk' : (Cond.classLink own ik cls).before args s' = true := vx_ot_at hW0 hvm.symm (hgood _ List.mem_cons_self) hk
  have hini' : (Cond.initialized cls).before args s' = true := vx_ot_at hW0 hvm.symm (hgood _ (List.mem_cons_of_mem _ List.mem_cons_self)) hini
  have hU' : vx_Zq Bundle.tN "UNASSIGNED_STACK" Bundle.steD A s' s'.heap := by rw [hhp]; exact vx_Zq.moved hW0.alike (hU.kept hS.2.1)
  have hN' : vx_Zq Bundle.tN "SUPPRESSED_SENTINEL" Bundle.listD A s' s'.heap := by rw [hhp]; exact vx_Zq.moved hW0.alike (hN.kept hS.2.1)
  have h : ∀ w ∈ Bundle.ownAtoms0 own ic cls names, w.before args s' = true := vx_own hat' (vx_isRefq hU'.1) (vx_isRefq hN'.1) hU'.2.word hN'.2.word
  have hown' : s'.vm.findClass own = some m.cls := by rw [hvm]; exact hown
  have hins : (Cond.instantiable cls 6).before args s' = true := h _ (by simp [Bundle.ownAtoms0])
  obtain ⟨vm₁, cX, kX, hfX, hkX, -, -, X₁, st1⟩ := Y.newCold hexec (own := own) (C := cls) (index := ik) (n := 6) hown' hk' hins hini'
    (g := F0 m pc ls rest) rfl (by rw [hb]; exact d0) (Nat.le_refl _) (Nat.le_refl _)
  generalize hT1 : (T.setVm vm₁).pushCell { cls := cX, slots := kX.instanceTypes.map defaultValue, vm := .none } = T1 at X₁ st1
  have hcat : (Value.ref T.heap.size).category = 1 := rfl
  have hcellA : T1.heap[T.heap.size]? = some (freshCell cX kX) := by rw [← hT1]; exact State.heap_pushCell_size _ _
  have d3' : decode c.code (pc + 3) = .ok (.dup, 1) := by rw [hb]; exact d3
  obtain ⟨V, ce, L, Z, hL, hlt, hcl9, hvm9, st⟩ := vx_ctorMade0 X₁ hexec htr (own := own) (cls := cls) (names := names) (ic := ic) hown' hcls hnames h (fun x hx => nomatch hx) hfX hkX hcellA (by rw [hhp]; exact Nat.le_refl _)
    (g := { method := m, pc := pc + 4, locals := ls, stack := .ref T.heap.size :: .ref T.heap.size :: rest, locked := none }) rfl hsize (rest := rest) rfl
    (by rw [hb]; exact d4) hRframes (by simp only [List.map_cons, List.sum_cons, hcat]; omega)
  have Z0 := Stand.forget (locs := []) Z (fun y hy => by rw [hL y hy, hhp]; exact Nat.le_refl _)
  obtain ⟨f1, f2⟩ := vx_frame Z0.same
  rw [hhp] at f1 f2
  have hcid : ce.cls = D.1 ci := by
    rw [hcl9]
    have h1 := (hK.1 ci _ hc).2.1
    rw [hvm] at hfX
    exact Option.some.inj (hfX.symm.trans h1)
  have hh : (V.setCell T.heap.size ce).heap[T.heap.size]? = some ce := heapAt_setCell_self (s := V) ce hlt
  subst hA'
  have X5 := vx_back9 X Y Z0
  have X6 : Stand p l e R s m args below meth c (V.setCell T.heap.size ce) locs (cells + 1) (slots + 6) := { X5 with same := X5.same.mono (by omega) (by omega) }
  have hk9 : ∀ (k : Nat) (x : Nat × va_E), ws[k]? = some x → (V.setCell T.heap.size ce).heap[x.1]? = T.heap[x.1]? := fun k x hx => f2 x.1 ((hP k x hx).lt) (fun z hz => nomatch hz)
  obtain ⟨t, a1, b1⟩ := kk T.heap.size (V.setCell T.heap.size ce).heap ((hP.kept hk9).app (fun k x hx => by
      have hz : k < 1 := (List.getElem?_eq_some_iff.mp hx).1
      rw [show k = 0 by omega] at hx
      cases hx
      exact ⟨_, hc, ce, hh, hcid, hvm9, fun k hk => absurd hk (Nat.not_lt_zero k)⟩)) (hD.push hP rfl (hA _ hS.1)) ⟨Nat.le_trans hS.1 f1, fun q h1 h2 => (f2 q (Nat.lt_of_lt_of_le h1 hS.1) (fun z hz => nomatch hz)).trans (hS.2.1 q h1 h2), hS.2.2⟩ _ rfl X6
  refine ⟨t, st1 _ ?_, b1⟩
  show Steps p.tables e below (T1.setTop { method := m, pc := pc + 3, locals := ls, stack := .ref T.heap.size :: rest, locked := none }) _
  jvm_step X₁.here [X₁.here.top, hexec, d3', Value.category]
  exact st _ a1
/-- 'throw x' of an object that was made before -/
theorem vx_athrow {cc : ByteArray} {pc : Nat} (hexec : p.tables.exec = Jvm.exec) (hb : c.code = cc) {q : Addr} (hdg : decode cc pc = .ok (.athrow, 1)) (k : vx_W p l e R s m args below meth c H locs cells slots Q (F0 m pc ls rest) q) : W p l e R s m args below meth c H locs cells slots Q (F0 m pc ls (.ref q :: rest)) := by
  intro T hT X
  obtain ⟨t, st, hq⟩ := k T hT X
  refine ⟨t, ?_, hq⟩
  have hdg' : decode c.code pc = .ok (.athrow, 1) := by rw [hb]; exact hdg
  jvm_step X.here [X.here.top, hexec, hdg', athrow.wp_sem]
  exact st
end VXK2
/-! ===== END ===== -/
/-! ===== BEGIN a constructor that throws (launches without stack traces) ===== -/
section VXIA
variable {p : Program} {l : Launch} {e : Env} {R : Room} {s : State} {m : MethodId} {args : Array Value} {below : List Frame} {meth : Method} {c : Code} {T : State} {locs : List Loc} {cells slots : Nat}
theorem vx_callI (X : Stand p l e R s m args below meth c T locs cells slots) (hexec : p.tables.exec = Jvm.exec) {own : String} {index : Nat} {y : MethodName} {bytes : ByteArray} {maxL : Nat}
    (hown : s.vm.findClass own = some m.cls) (hy1 : y.name = "<init>") (hlink : (Cond.methodLink own index y).before args s = true) (hinst : (Cond.instanceMethod y).before args s = true)
    (hcode : (Cond.code y bytes maxL none).before args s = true) (hy : y.cls ≠ "java/lang/invoke/MethodHandle" ∧ y.cls ≠ "java/lang/invoke/VarHandle")
    {W9 : Nat} {Pre : Pt → Array Value → Prop} {Post : Pt → Array Value → Option Value → Pt → Prop} {PostX : Pt → Array Value → Addr → Pt → Prop} (hK : vx_Back l R p e below s args y 3 W9 Pre Post PostX)
    {g : JFrame} (hg : g.method = m) (hsize : g.locals.size = c.maxLocals) {a : Addr} {argsL rest : List Value} (hlen : ∀ sig, parseMethodDescriptor y.desc = some sig → argsL.length = sig.parameters.length)
    (hstack : g.stack = argsL.reverse ++ .ref a :: rest) (hW : 2 * g.monitorRoom + (rest.map fun v => v.category).sum ≤ W9) (hdg : decode c.code g.pc = .ok (.invokespecial index, 3))
    (hpre : ∀ vm₁, s.WarmedH vm₁ → Pre ⟨T.setVm vm₁, locs, cells, slots⟩ (Value.ref a :: argsL).toArray) :
    (∃ (v : Option Value) (vm₁ : Vm) (B : Pt), s.WarmedH vm₁ ∧ Stand p l e R s m args below meth c B.U B.locs B.cells B.slots ∧ Post ⟨T.setVm vm₁, locs, cells, slots⟩ (Value.ref a :: argsL).toArray v B ∧
      ∀ target, Steps p.tables e below (B.U.setTop { g with pc := g.pc + 3, stack := v.toList ++ rest }) target → Steps p.tables e below (T.setTop g) target) ∨
    (∃ (q : Addr) (vm₁ : Vm) (B : Pt), s.WarmedH vm₁ ∧ Stand p l e R s m args below meth c B.U B.locs B.cells B.slots ∧ PostX ⟨T.setVm vm₁, locs, cells, slots⟩ (Value.ref a :: argsL).toArray q B ∧
      Steps p.tables e below (T.setTop g) ((B.U.setTop { g with stack := rest }).pushFrame (.throwing q))) := by
  subst hg
  have hpl : e.platform.magicAccessors = ({} : Platform).magicAccessors := by rw [X.admits.platform]
  obtain ⟨mk, methM, cM, kP, vm₁, hnamed, hmethM, hcodeM, -, hlocalsM, -, hkP, -, hW₁, hstep₁⟩ := Steps.initColdArgs (e := e) X.here hexec X.warmed hpl hown hy1 hy hlink hinst hcode (f := g) rfl hlen hstack hdg
  have X₁ := X.noted hW₁
  rcases hK g.method meth c ⟨T.setVm vm₁, locs, cells, slots⟩ { g with stack := rest } (.invokespecial index) mk (Value.ref a :: argsL).toArray X₁ rfl hsize hdg hW (X₁.named hnamed) (hpre vm₁ X₁.warmed) with ⟨v, B, X', hpost, hsteps⟩ | ⟨q, B, X', hpost, hsteps⟩
  · exact Or.inl ⟨v, vm₁, B, X₁.warmed, X', hpost, fun target h => hstep₁ _ fun acts => by rw [doInvoke_state]; exact hsteps.trans h⟩
  · exact Or.inr ⟨q, vm₁, B, X₁.warmed, X', hpost, hstep₁ _ fun acts => by rw [doInvoke_state]; exact hsteps⟩
end VXIA
section VXIB
variable {p : Program} {l : Launch} {e : Env} {R : Room} {s : State} {m : MethodId} {args : Array Value} {below : List Frame} {meth : Method} {c : Code} {H : Heap} {locs : List Loc} {cells slots : Nat}
variable {y : MethodName} {bytes cc : ByteArray} {maxL nL mc ms n index : Nat} {ret : Option FieldType} {ws : List Cond} {rm : Room} {Pc : Array Value → State → Prop} {Qc : Array Value → State → Outcome → State → Prop} {XC : String → State → State → Prop} {free : Addr → Prop} {Ts : List Cond} {own C : String} {b : Addr} {As rest : List Value} {g : JFrame}
theorem vx_runI (S : CallFix p m c cc nL s args Ts own) (hM : vx_Met l y ws rm Pc Qc XC mc ms free) (cw : CallB R s args own index y bytes maxL none ws rm mc ms n ∧ y.name = "<init>" ∧ (Cond.instanceMethod y).before args s = true) (hp : PreS s H Pc (.ref b :: As))
    (hg : g.method = m) (hn : As.length = n) (hsize : g.locals.size = nL) (hstack : g.stack = As.reverse ++ .ref b :: rest) (hW : 2 * g.monitorRoom + (rest.map fun v => v.category).sum ≤ 8) (hdg : decode cc g.pc = .ok (.invokespecial index, 3)) (hf : cells + mc ≤ R.cells ∧ slots + ms ≤ R.slots) :
    vx_Run p l e R s m args below meth c H locs cells slots mc ms g rest (Qc (Value.ref b :: As).toArray) XC free := by
  have hK : vx_Back l R p e below s args y 3 8 (PreOf R mc ms Pc) (PostOf Qc mc ms free) (vx_Post XC mc ms free) := vx_callBack cw.1 hM hp.1
  obtain ⟨⟨-, -, -, -, -, -, hcode, -, hy, hlen, hl⟩, hy1, hin⟩ := cw
  obtain ⟨hx, hb, hml, ho, -⟩ := S
  have hPc := hp.2
  intro T hT X
  rcases vx_callI X hx (bytes := bytes) (maxL := maxL) ho hy1 hl hin hcode hy hK hg (hsize.trans hml.symm) (a := b) (argsL := As) (rest := rest) (fun sig h => hn.trans (hlen sig h)) hstack hW (by rw [hb]; exact hdg)
    (fun vm₁ hW₁ => ⟨hf.1, hf.2, hPc (T.setVm vm₁) hT hW₁⟩) with ⟨v, vm₁, ⟨U', l2, c2, s2⟩, hW₁, X', ⟨g', mk, t, L, e1, e2, hq, h1, hL, h2, h3⟩, st⟩ | ⟨q, vm₁, ⟨U', l2, c2, s2⟩, hW₁, X', ⟨g', mk, t, L, E, ce, e1, e2, hq, hce, hcv, hcl, h1, hL, h2, h3⟩, st⟩
  · dsimp only [Pt.U, Pt.locs, Pt.cells, Pt.slots] at X' e1 e2 h1 h2 h3 st
    subst h1; subst h2; subst h3
    exact Or.inl ⟨v, (T.setVm vm₁).calling g' mk (Value.ref b :: As).toArray, t, U', L, hT, X', hL, e1, e2, hq, st⟩
  · dsimp only [Pt.U, Pt.locs, Pt.cells, Pt.slots] at X' e1 e2 h1 h2 h3 st hcl
    subst h1; subst h2; subst h3
    exact Or.inr ⟨q, (T.setVm vm₁).calling g' mk (Value.ref b :: As).toArray, t, U', L, E, ce, hT, X', hL, e1, e2, hq, hce, hcv, vx_cls hW₁ hcl, st⟩
end VXIB
/-! ===== END ===== -/
/-! ===== BEGIN a private constructor of a nest mate that throws ===== -/
section VXIC
variable {p : Program} {l : Launch} {e : Env} {R : Room} {s : State} {m : MethodId} {args : Array Value} {below : List Frame} {meth : Method} {c : Code} {T : State} {locs : List Loc} {cells slots : Nat}
theorem vx_callIN (X : Stand p l e R s m args below meth c T locs cells slots) (hexec : p.tables.exec = Jvm.exec) {own : String} {index : Nat} {host : String} {y : MethodName} {bytes : ByteArray} {maxL : Nat}
    (hown : s.vm.findClass own = some m.cls) (hy1 : y.name = "<init>") (hlink : (Cond.methodLinkNest own index y host).before args s = true) (hinst : (Cond.instanceMethod y).before args s = true)
    (hcode : (Cond.code y bytes maxL none).before args s = true) (hy : y.cls ≠ "java/lang/invoke/MethodHandle" ∧ y.cls ≠ "java/lang/invoke/VarHandle")
    {W9 : Nat} {Pre : Pt → Array Value → Prop} {Post : Pt → Array Value → Option Value → Pt → Prop} {PostX : Pt → Array Value → Addr → Pt → Prop} (hK : vx_Back l R p e below s args y 3 W9 Pre Post PostX)
    {g : JFrame} (hg : g.method = m) (hsize : g.locals.size = c.maxLocals) {a : Addr} {argsL rest : List Value} (hlen : ∀ sig, parseMethodDescriptor y.desc = some sig → argsL.length = sig.parameters.length)
    (hstack : g.stack = argsL.reverse ++ .ref a :: rest) (hW : 2 * g.monitorRoom + (rest.map fun v => v.category).sum ≤ W9) (hdg : decode c.code g.pc = .ok (.invokespecial index, 3))
    (hpre : ∀ vm₁, s.WarmedH vm₁ → Pre ⟨T.setVm vm₁, locs, cells, slots⟩ (Value.ref a :: argsL).toArray) :
    (∃ (v : Option Value) (vm₁ : Vm) (B : Pt), s.WarmedH vm₁ ∧ Stand p l e R s m args below meth c B.U B.locs B.cells B.slots ∧ Post ⟨T.setVm vm₁, locs, cells, slots⟩ (Value.ref a :: argsL).toArray v B ∧
      ∀ target, Steps p.tables e below (B.U.setTop { g with pc := g.pc + 3, stack := v.toList ++ rest }) target → Steps p.tables e below (T.setTop g) target) ∨
    (∃ (q : Addr) (vm₁ : Vm) (B : Pt), s.WarmedH vm₁ ∧ Stand p l e R s m args below meth c B.U B.locs B.cells B.slots ∧ PostX ⟨T.setVm vm₁, locs, cells, slots⟩ (Value.ref a :: argsL).toArray q B ∧
      Steps p.tables e below (T.setTop g) ((B.U.setTop { g with stack := rest }).pushFrame (.throwing q))) := by
  subst hg
  have hpl : e.platform.magicAccessors = ({} : Platform).magicAccessors := by rw [X.admits.platform]
  obtain ⟨mk, methM, cM, kP, vm₁, hnamed, hmethM, hcodeM, -, hlocalsM, -, hkP, -, hW₁, hstep₁⟩ := Steps.initColdArgsNest (e := e) X.here hexec X.warmed hpl hown hy1 hy hlink hinst hcode (f := g) rfl hlen hstack hdg
  have X₁ := X.noted hW₁
  rcases hK g.method meth c ⟨T.setVm vm₁, locs, cells, slots⟩ { g with stack := rest } (.invokespecial index) mk (Value.ref a :: argsL).toArray X₁ rfl hsize hdg hW (X₁.named hnamed) (hpre vm₁ X₁.warmed) with ⟨v, B, X', hpost, hsteps⟩ | ⟨q, B, X', hpost, hsteps⟩
  · exact Or.inl ⟨v, vm₁, B, X₁.warmed, X', hpost, fun target h => hstep₁ _ fun acts => by rw [doInvoke_state]; exact hsteps.trans h⟩
  · exact Or.inr ⟨q, vm₁, B, X₁.warmed, X', hpost, hstep₁ _ fun acts => by rw [doInvoke_state]; exact hsteps⟩
end VXIC
section VXID
variable {p : Program} {l : Launch} {e : Env} {R : Room} {s : State} {m : MethodId} {args : Array Value} {below : List Frame} {meth : Method} {c : Code} {H : Heap} {locs : List Loc} {cells slots : Nat}
theorem vx_runIN {y : MethodName} {bytes cc : ByteArray} {maxL nL mc ms n index : Nat} {ws : List Cond} {rm : Room} {Pc : Array Value → State → Prop} {Qc : Array Value → State → Outcome → State → Prop} {XC : String → State → State → Prop} {free : Addr → Prop} {Ts : List Cond} {own host : String} {b : Addr} {As rest : List Value} {g : JFrame}
    (S : CallFix p m c cc nL s args Ts own) (hM : vx_Met l y ws rm Pc Qc XC mc ms free) (cw : va_CN R s args own index y host bytes maxL none ws rm mc ms n ∧ y.name = "<init>" ∧ (Cond.instanceMethod y).before args s = true) (hp : PreS s H Pc (.ref b :: As))
    (hg : g.method = m) (hn : As.length = n) (hsize : g.locals.size = nL) (hstack : g.stack = As.reverse ++ .ref b :: rest) (hW : 2 * g.monitorRoom + (rest.map fun v => v.category).sum ≤ 8) (hdg : decode cc g.pc = .ok (.invokespecial index, 3)) (hf : cells + mc ≤ R.cells ∧ slots + ms ≤ R.slots) :
    vx_Run p l e R s m args below meth c H locs cells slots mc ms g rest (Qc (Value.ref b :: As).toArray) XC free := by
  obtain ⟨⟨⟨hrc, hrs, hfr, hlo, hws, hcw⟩, hcode, hini, hy, hlen, hl⟩, hx1, hx2⟩ := cw
  have hK : vx_Back l R p e below s args y 3 8 (PreOf R mc ms Pc) (PostOf Qc mc ms free) (vx_Post XC mc ms free) := vx_back (bytes := bytes) (maxL := maxL) (ret := none) hM hp.1 hrc hrs hfr hlo hws hcw (fun a' U hW => word_at hW (Or.inl (by first | rfl | simp [Cond.onTables, Cond.keeps, Cond.steady])) hini)
  obtain ⟨hx, hb, hml, ho, -⟩ := S
  have hPc := hp.2
  intro T hT X
  rcases vx_callIN X hx (bytes := bytes) (maxL := maxL) ho hx1 hl hx2 hcode hy hK hg (hsize.trans hml.symm) (a := b) (argsL := As) (rest := rest) (fun sig h => hn.trans (hlen sig h)) hstack hW (by rw [hb]; exact hdg)
    (fun vm₁ hW₁ => ⟨hf.1, hf.2, hPc (T.setVm vm₁) hT hW₁⟩) with ⟨v, vm₁, ⟨U', l2, c2, s2⟩, hW₁, X', ⟨g', mk, t, L, e1, e2, hq, h1, hL, h2, h3⟩, st⟩ | ⟨q, vm₁, ⟨U', l2, c2, s2⟩, hW₁, X', ⟨g', mk, t, L, E, ce, e1, e2, hq, hce, hcv, hcl, h1, hL, h2, h3⟩, st⟩
  · dsimp only [Pt.U, Pt.locs, Pt.cells, Pt.slots] at X' e1 e2 h1 h2 h3 st
    subst h1; subst h2; subst h3
    exact Or.inl ⟨v, (T.setVm vm₁).calling g' mk (Value.ref b :: As).toArray, t, U', L, hT, X', hL, e1, e2, hq, st⟩
  · dsimp only [Pt.U, Pt.locs, Pt.cells, Pt.slots] at X' e1 e2 h1 h2 h3 st hcl
    subst h1; subst h2; subst h3
    exact Or.inr ⟨q, (T.setVm vm₁).calling g' mk (Value.ref b :: As).toArray, t, U', L, E, ce, hT, X', hL, e1, e2, hq, hce, hcv, vx_cls hW₁ hcl, st⟩
end VXID
/-! ===== END ===== -/
/-! ===== BEGIN a method of a class above, found by the receiver, that may throw (follows va_callVU, va_runU of this kit) ===== -/
section
variable {p : Program} {l : Launch} {e : Env} {R : Room} {s : State} {m : MethodId} {args : Array Value} {below : List Frame} {meth : Method} {c : Code} {H : Heap} {locs : List Loc} {cells slots : Nat}
theorem vx_callVU {T : State} {locs : List Loc} {cells slots : Nat} (X : Stand p l e R s m args below meth c T locs cells slots) (hexec : p.tables.exec = Jvm.exec) {own C owner : String} {index : Nat} {x y : MethodName} {bytes : ByteArray} {maxL : Nat} {ret : Option FieldType}
    (hown : s.vm.findClass own = some m.cls) (hlink : (Cond.methodLink own index x).before args s = true) (hsame : (Cond.sameMethod x.cls owner x.name x.desc).before args s = true)
    (hd0 : va_Decl s ⟨owner, x.name, x.desc⟩) (howner : owner ≠ "java/lang/invoke/MethodHandle" ∧ owner ≠ "java/lang/invoke/VarHandle")
    (hsel : (Cond.selects C x y).before args s = true) (hinst : (Cond.instanceMethod y).before args s = true) (hcode : (Cond.code y bytes maxL ret).before args s = true)
    {W : Nat} {Pre : Pt → Array Value → Prop} {Post : Pt → Array Value → Option Value → Pt → Prop} {PostX : Pt → Array Value → Addr → Pt → Prop} (hK : vx_Back l R p e below s args y 3 W Pre Post PostX)
    {b : Addr} {cellB : Cell} (hcell : T.heap[b]? = some cellB) (hobj : cellB.vm.isStatics = false) (hcls : s.vm.findClass C = some cellB.cls)
    {g : JFrame} (hg : g.method = m) (hsize : g.locals.size = c.maxLocals) {argsL rest : List Value} (hlen : ∀ sig, parseMethodDescriptor x.desc = some sig → argsL.length = sig.parameters.length)
    (hstack : g.stack = argsL.reverse ++ .ref b :: rest) (hW : 2 * g.monitorRoom + (rest.map fun v => v.category).sum ≤ W) (hdg : decode c.code g.pc = .ok (.invokevirtual index, 3))
    (hpre : ∀ vm₁, s.WarmedH vm₁ → Pre ⟨T.setVm vm₁, locs, cells, slots⟩ (Value.ref b :: argsL).toArray) :
    (∃ (v : Option Value) (vm₁ : Vm) (B : Pt), s.WarmedH vm₁ ∧ Stand p l e R s m args below meth c B.U B.locs B.cells B.slots ∧ Post ⟨T.setVm vm₁, locs, cells, slots⟩ (Value.ref b :: argsL).toArray v B ∧
      ∀ target, Steps p.tables e below (B.U.setTop { g with pc := g.pc + 3, stack := v.toList ++ rest }) target → Steps p.tables e below (T.setTop g) target) ∨
    (∃ (q : Addr) (vm₁ : Vm) (B : Pt), s.WarmedH vm₁ ∧ Stand p l e R s m args below meth c B.U B.locs B.cells B.slots ∧ PostX ⟨T.setVm vm₁, locs, cells, slots⟩ (Value.ref b :: argsL).toArray q B ∧
      Steps p.tables e below (T.setTop g) ((B.U.setTop { g with stack := rest }).pushFrame (.throwing q))) := by
  obtain ⟨r0, r, hn, hrm, hstR, hsigR⟩ := hd0
  obtain ⟨cn, ck, r1, hcn, hck, hni, hf, hn1⟩ := Cond.sameMethod_found hsame
  cases hn.symm.trans hn1
  obtain ⟨mk, methM, hnamed, hmethM, -, habM⟩ := Cond.instanceMethod_spec hinst
  obtain ⟨c2, r2, m2, q1, q2, q3, q4, kP, hkP, hkPi⟩ := Cond.selects_spec hsel
  cases hcls.symm.trans q1
  cases hf.symm.trans q2
  cases hnamed.symm.trans q3
  have hselP : selectMethod e.platform s.vm cellB.cls r0 = .method mk := by rw [Launch.admits_selectMethod X.admits]; exact q4
  obtain ⟨vm₁, X₁, hstep₁⟩ := X.invokevirtualUp hexec hown hlink hsame howner hn hrm hstR (a := b) (cell := cellB) hcell
    (fun z h => by rw [h] at hobj; cases hobj) hselP hmethM habM hkP hkPi (g := g) hg (argsL := argsL) (rest := rest) (hlen _ hsigR) hstack hdg
  rcases hK m meth c ⟨T.setVm vm₁, locs, cells, slots⟩ { g with stack := rest } (.invokevirtual index) mk (Value.ref b :: argsL).toArray X₁ hg hsize hdg hW (X₁.named hnamed) (hpre vm₁ X₁.warmed) with ⟨v, B, X', hpost, hsteps⟩ | ⟨q, B, X', hpost, hsteps⟩
  · exact Or.inl ⟨v, vm₁, B, X₁.warmed, X', hpost, fun target h => hstep₁ _ fun acts => by rw [doInvoke_state]; exact hsteps.trans h⟩
  · exact Or.inr ⟨q, vm₁, B, X₁.warmed, X', hpost, hstep₁ _ fun acts => by rw [doInvoke_state]; exact hsteps⟩
theorem vx_runU {x y : MethodName} {bytes cc : ByteArray} {maxL nL mc ms n index : Nat} {ret : Option FieldType} {ws : List Cond} {rm : Room} {Pc : Array Value → State → Prop} {Qc : Array Value → State → Outcome → State → Prop} {XC : String → State → State → Prop} {free : Addr → Prop} {Ts : List Cond} {own C owner : String} {b : Addr} {As rest : List Value} {g : JFrame}
    (S : CallFix p m c cc nL s args Ts own) (hM : vx_Met l y ws rm Pc Qc XC mc ms free) (cw : va_CU R s args own C owner index x y bytes maxL ret ws rm mc ms n) (hp : PreV s H C b Pc As)
    (hg : g.method = m) (hn : As.length = n) (hsize : g.locals.size = nL) (hstack : g.stack = As.reverse ++ .ref b :: rest) (hW : 2 * g.monitorRoom + (rest.map fun v => v.category).sum ≤ 8) (hdg : decode cc g.pc = .ok (.invokevirtual index, 3)) (hf : cells + mc ≤ R.cells ∧ slots + ms ≤ R.slots) :
    vx_Run p l e R s m args below meth c H locs cells slots mc ms g rest (Qc (Value.ref b :: As).toArray) XC free := by
  obtain ⟨hrc, hrs, hfr, hlo, hws, hcw⟩ := cw.back
  have hini := cw.init
  have hK : vx_Back l R p e below s args y 3 8 (PreOf R mc ms Pc) (PostOf Qc mc ms free) (vx_Post XC mc ms free) := vx_back (bytes := bytes) (maxL := maxL) (ret := ret) hM hp.1 hrc hrs hfr hlo hws hcw (fun a' U hW => word_at hW (Or.inl (by first | rfl | simp [Cond.onTables, Cond.keeps, Cond.steady])) hini)
  obtain ⟨hx, hb, hml, ho, -⟩ := S
  obtain ⟨-, ⟨cellB, hcB, hoB, hclB⟩, hPc⟩ := hp
  intro T hT X
  rcases vx_callVU X hx (C := C) (owner := owner) (bytes := bytes) (maxL := maxL) (ret := ret) ho cw.link cw.same cw.decl cw.notMH cw.sel cw.inst cw.code hK (by rw [hT]; exact hcB) hoB hclB hg (hsize.trans hml.symm) (argsL := As) (rest := rest) (fun sig h => hn.trans (cw.len sig h)) hstack hW (by rw [hb]; exact hdg)
    (fun vm₁ hW₁ => ⟨hf.1, hf.2, hPc (T.setVm vm₁) hT hW₁⟩) with ⟨v, vm₁, ⟨U', l2, c2, s2⟩, hW₁, X', ⟨g', mk, t, L, e1, e2, hq, h1, hL, h2, h3⟩, st⟩ | ⟨q, vm₁, ⟨U', l2, c2, s2⟩, hW₁, X', ⟨g', mk, t, L, E, ce, e1, e2, hq, hce, hcv, hcl, h1, hL, h2, h3⟩, st⟩
  · dsimp only [Pt.U, Pt.locs, Pt.cells, Pt.slots] at X' e1 e2 h1 h2 h3 st
    subst h1; subst h2; subst h3
    exact Or.inl ⟨v, (T.setVm vm₁).calling g' mk (Value.ref b :: As).toArray, t, U', L, hT, X', hL, e1, e2, hq, st⟩
  · dsimp only [Pt.U, Pt.locs, Pt.cells, Pt.slots] at X' e1 e2 h1 h2 h3 st hcl
    subst h1; subst h2; subst h3
    exact Or.inr ⟨q, (T.setVm vm₁).calling g' mk (Value.ref b :: As).toArray, t, U', L, E, ce, hT, X', hL, e1, e2, hq, hce, hcv, vx_cls hW₁ hcl, st⟩
end
/-! ===== END ===== -/
/-! ===== BEGIN super.m(..) that may throw (follows va_callSU, va_runSU) ===== -/
section
variable {p : Program} {l : Launch} {e : Env} {R : Room} {s : State} {m : MethodId} {args : Array Value} {below : List Frame} {meth : Method} {c : Code} {H : Heap} {locs : List Loc} {cells slots : Nat}
theorem vx_callSU {T : State} {locs : List Loc} {cells slots : Nat} (X : Stand p l e R s m args below meth c T locs cells slots) (hexec : p.tables.exec = Jvm.exec) {own : String} {index : Nat} {y : MethodName} {bytes : ByteArray} {maxL : Nat} {ret : Option FieldType}
    (hown : s.vm.findClass own = some m.cls) (hlink : (Cond.methodLink own index y).before args s = true) (hsame : (Cond.sameMethod y.cls y.cls y.name y.desc).before args s = true) (hsup : (Cond.superclass own y.cls).before args s = true)
    (hinst : (Cond.instanceMethod y).before args s = true) (hcode : (Cond.code y bytes maxL ret).before args s = true) (hno : y.name ≠ "<init>")
    {W : Nat} {Pre : Pt → Array Value → Prop} {Post : Pt → Array Value → Option Value → Pt → Prop} {PostX : Pt → Array Value → Addr → Pt → Prop} (hK : vx_Back l R p e below s args y 3 W Pre Post PostX)
    {b : Addr} {cellB : Cell} {kB : Class} (hcell : T.heap[b]? = some cellB) (hobj : cellB.vm.isStatics = false) (hkB : s.vm.classes[cellB.cls]? = some kB)
    {g : JFrame} (hg : g.method = m) (hsize : g.locals.size = c.maxLocals) {argsL rest : List Value} (hlen : ∀ sig, parseMethodDescriptor y.desc = some sig → argsL.length = sig.parameters.length)
    (hstack : g.stack = argsL.reverse ++ .ref b :: rest) (hW : 2 * g.monitorRoom + (rest.map fun v => v.category).sum ≤ W) (hdg : decode c.code g.pc = .ok (.invokespecial index, 3))
    (hpre : ∀ vm₁, s.WarmedH vm₁ → Pre ⟨T.setVm vm₁, locs, cells, slots⟩ (Value.ref b :: argsL).toArray) :
    (∃ (v : Option Value) (vm₁ : Vm) (B : Pt), s.WarmedH vm₁ ∧ Stand p l e R s m args below meth c B.U B.locs B.cells B.slots ∧ Post ⟨T.setVm vm₁, locs, cells, slots⟩ (Value.ref b :: argsL).toArray v B ∧
      ∀ target, Steps p.tables e below (B.U.setTop { g with pc := g.pc + 3, stack := v.toList ++ rest }) target → Steps p.tables e below (T.setTop g) target) ∨
    (∃ (q : Addr) (vm₁ : Vm) (B : Pt), s.WarmedH vm₁ ∧ Stand p l e R s m args below meth c B.U B.locs B.cells B.slots ∧ PostX ⟨T.setVm vm₁, locs, cells, slots⟩ (Value.ref b :: argsL).toArray q B ∧
      Steps p.tables e below (T.setTop g) ((B.U.setTop { g with stack := rest }).pushFrame (.throwing q))) := by
  obtain ⟨mk, methM, hnamed, hmethM, hstM, habM⟩ := Cond.instanceMethod_spec hinst
  obtain ⟨methM', cM, hmethM', -, -, -, -, -, -, hsigM⟩ := Cond.code_spec hnamed hcode
  cases hmethM.symm.trans hmethM'
  obtain ⟨ps, dk, kp, hps, hdk, hkp, hsuper, -, -, hnid⟩ := Cond.superclass_spec hown hsup
  have hn : s.methodNamed? ⟨y.cls, y.name, y.desc⟩ = some mk := hnamed
  have hpm : ps = mk.cls := Option.some.inj (hps.symm.trans (findClass_of_methodNamed hnamed))
  have hsub : s.vm.isSubclass ps mk.cls = true := by rw [hpm]; simp [Vm.isSubclass, Vm.isSubclassAux]
  obtain ⟨vm₁, X₁, hstep₁⟩ := X.invokespecialUp hexec hown hlink hsame hn hmethM hstM habM hno hdk hnid hps hsuper hsub (a := b) (cell := cellB) hcell
    (fun z h => by rw [h] at hobj; cases hobj) hkB (g := g) hg (argsL := argsL) (rest := rest) (hlen _ hsigM) hstack hdg
  rcases hK m meth c ⟨T.setVm vm₁, locs, cells, slots⟩ { g with stack := rest } (.invokespecial index) mk (Value.ref b :: argsL).toArray X₁ hg hsize hdg hW (X₁.named hnamed) (hpre vm₁ X₁.warmed) with ⟨v, B, X', hpost, hsteps⟩ | ⟨q, B, X', hpost, hsteps⟩
  · exact Or.inl ⟨v, vm₁, B, X₁.warmed, X', hpost, fun target h => hstep₁ _ (by rw [doInvoke_state]; exact hsteps.trans h)⟩
  · exact Or.inr ⟨q, vm₁, B, X₁.warmed, X', hpost, hstep₁ _ (by rw [doInvoke_state]; exact hsteps)⟩
theorem vx_runSU {y : MethodName} {bytes cc : ByteArray} {maxL nL mc ms n index : Nat} {ret : Option FieldType} {ws : List Cond} {rm : Room} {Pc : Array Value → State → Prop} {Qc : Array Value → State → Outcome → State → Prop} {XC : String → State → State → Prop} {free : Addr → Prop} {Ts : List Cond} {own C : String} {cC : ClassId} {b : Addr} {As rest : List Value} {g : JFrame}
    (hat : ClassAt s C cC) (S : CallFix p m c cc nL s args Ts own) (hM : vx_Met l y ws rm Pc Qc XC mc ms free) (cw : va_CS R s args own index y bytes maxL ret ws rm mc ms n) (hp : PreV s H C b Pc As)
    (hg : g.method = m) (hn : As.length = n) (hsize : g.locals.size = nL) (hstack : g.stack = As.reverse ++ .ref b :: rest) (hW : 2 * g.monitorRoom + (rest.map fun v => v.category).sum ≤ 8) (hdg : decode cc g.pc = .ok (.invokespecial index, 3)) (hf : cells + mc ≤ R.cells ∧ slots + ms ≤ R.slots) :
    vx_Run p l e R s m args below meth c H locs cells slots mc ms g rest (Qc (Value.ref b :: As).toArray) XC free := by
  obtain ⟨⟨hrc, hrs, hfr, hlo, hws, hcw⟩, hl1, hl2, hl3, hl4, hini, hcode, hno, hlen⟩ := cw
  have hK : vx_Back l R p e below s args y 3 8 (PreOf R mc ms Pc) (PostOf Qc mc ms free) (vx_Post XC mc ms free) := vx_back (bytes := bytes) (maxL := maxL) (ret := ret) hM hp.1 hrc hrs hfr hlo hws hcw (fun a' U hW => word_at hW (Or.inl (by first | rfl | simp [Cond.onTables, Cond.keeps, Cond.steady])) hini)
  obtain ⟨hx, hb, hml, ho, -⟩ := S
  obtain ⟨-, ⟨cellB, hcB, hoB, hclB⟩, hPc⟩ := hp
  obtain ⟨hfc, kB, hkB, -⟩ := hat
  cases hfc.symm.trans hclB
  intro T hT X
  rcases vx_callSU X hx (bytes := bytes) (maxL := maxL) (ret := ret) ho hl1 hl2 hl3 hl4 hcode hno hK (by rw [hT]; exact hcB) hoB hkB hg (hsize.trans hml.symm) (argsL := As) (rest := rest) (fun sig h => hn.trans (hlen sig h)) hstack hW (by rw [hb]; exact hdg)
    (fun vm₁ hW₁ => ⟨hf.1, hf.2, hPc (T.setVm vm₁) hT hW₁⟩) with ⟨v, vm₁, ⟨U', l2, c2, s2⟩, hW₁, X', ⟨g', mk, t, L, e1, e2, hq, h1, hL, h2, h3⟩, st⟩ | ⟨q, vm₁, ⟨U', l2, c2, s2⟩, hW₁, X', ⟨g', mk, t, L, E, ce, e1, e2, hq, hce, hcv, hcl, h1, hL, h2, h3⟩, st⟩
  · dsimp only [Pt.U, Pt.locs, Pt.cells, Pt.slots] at X' e1 e2 h1 h2 h3 st
    subst h1; subst h2; subst h3
    exact Or.inl ⟨v, (T.setVm vm₁).calling g' mk (Value.ref b :: As).toArray, t, U', L, hT, X', hL, e1, e2, hq, st⟩
  · dsimp only [Pt.U, Pt.locs, Pt.cells, Pt.slots] at X' e1 e2 h1 h2 h3 st hcl
    subst h1; subst h2; subst h3
    exact Or.inr ⟨q, (T.setVm vm₁).calling g' mk (Value.ref b :: As).toArray, t, U', L, E, ce, hT, X', hL, e1, e2, hq, hce, hcv, vx_cls hW₁ hcl, st⟩
end
/-! ===== END ===== -/
/-! ===== BEGIN a private method of a nest mate that may throw (follows va_callVN, va_callSN, va_runVN, va_runSN) ===== -/
section
variable {p : Program} {l : Launch} {e : Env} {R : Room} {s : State} {m : MethodId} {args : Array Value} {below : List Frame} {meth : Method} {c : Code} {H : Heap} {locs : List Loc} {cells slots : Nat}
variable {T : State}
theorem vx_callVN (X : Stand p l e R s m args below meth c T locs cells slots) (hexec : p.tables.exec = Jvm.exec) {own C : String} {index : Nat} {host : String} {y : MethodName} {bytes : ByteArray} {maxL : Nat} {ret : Option FieldType}
    (hown : s.vm.findClass own = some m.cls) (hlink : (Cond.methodLinkNest own index y host).before args s = true) (hinst : (Cond.instanceMethod y).before args s = true) (hsel : (Cond.selects C y y).before args s = true)
    (hcode : (Cond.code y bytes maxL ret).before args s = true) (hy : y.cls ≠ "java/lang/invoke/MethodHandle" ∧ y.cls ≠ "java/lang/invoke/VarHandle")
    {W : Nat} {Pre : Pt → Array Value → Prop} {Post : Pt → Array Value → Option Value → Pt → Prop} {PostX : Pt → Array Value → Addr → Pt → Prop} (hK : vx_Back l R p e below s args y 3 W Pre Post PostX)
    {b : Addr} {cellB : Cell} (hcell : T.heap[b]? = some cellB) (hobj : cellB.vm.isStatics = false) (hcls : s.vm.findClass C = some cellB.cls)
    {g : JFrame} (hg : g.method = m) (hsize : g.locals.size = c.maxLocals) {argsL rest : List Value} (hlen : ∀ sig, parseMethodDescriptor y.desc = some sig → argsL.length = sig.parameters.length)
    (hstack : g.stack = argsL.reverse ++ .ref b :: rest) (hW : 2 * g.monitorRoom + (rest.map fun v => v.category).sum ≤ W) (hdg : decode c.code g.pc = .ok (.invokevirtual index, 3))
    (hpre : ∀ vm₁, s.WarmedH vm₁ → Pre ⟨T.setVm vm₁, locs, cells, slots⟩ (Value.ref b :: argsL).toArray) :
    (∃ (v : Option Value) (vm₁ : Vm) (B : Pt), s.WarmedH vm₁ ∧ Stand p l e R s m args below meth c B.U B.locs B.cells B.slots ∧ Post ⟨T.setVm vm₁, locs, cells, slots⟩ (Value.ref b :: argsL).toArray v B ∧
      ∀ target, Steps p.tables e below (B.U.setTop { g with pc := g.pc + 3, stack := v.toList ++ rest }) target → Steps p.tables e below (T.setTop g) target) ∨
    (∃ (q : Addr) (vm₁ : Vm) (B : Pt), s.WarmedH vm₁ ∧ Stand p l e R s m args below meth c B.U B.locs B.cells B.slots ∧ PostX ⟨T.setVm vm₁, locs, cells, slots⟩ (Value.ref b :: argsL).toArray q B ∧
      Steps p.tables e below (T.setTop g) ((B.U.setTop { g with stack := rest }).pushFrame (.throwing q))) := by
  obtain ⟨mk, methM, hnamed, hmethM, hstM, habM⟩ := Cond.instanceMethod_spec hinst
  obtain ⟨methM', cM, hmethM', -, -, -, -, -, -, hsigM⟩ := Cond.code_spec hnamed hcode
  cases hmethM.symm.trans hmethM'
  obtain ⟨c2, r2, m2, q1, q2, q3, q4, kP, hkP, hkPi⟩ := Cond.selects_spec hsel
  cases hcls.symm.trans q1
  cases (State.methodFound?_of_named hnamed hy).symm.trans q2
  cases hnamed.symm.trans q3
  have hselP : selectMethod e.platform s.vm cellB.cls mk = .method mk := by rw [Launch.admits_selectMethod X.admits]; exact q4
  obtain ⟨vm₁, X₁, hstep₁⟩ := X.invokevirtualNest hexec hown hlink hnamed hmethM hstM hkP hkPi hy (a := b) (cell := cellB) hcell
    (fun z h => by rw [h] at hobj; cases hobj) hselP hmethM habM hkP hkPi (g := g) hg (argsL := argsL) (rest := rest) (hlen _ hsigM) hstack hdg
  rcases hK m meth c ⟨T.setVm vm₁, locs, cells, slots⟩ { g with stack := rest } (.invokevirtual index) mk (Value.ref b :: argsL).toArray X₁ hg hsize hdg hW (X₁.named hnamed) (hpre vm₁ X₁.warmed) with ⟨v, B, X', hpost, hsteps⟩ | ⟨q, B, X', hpost, hsteps⟩
  · exact Or.inl ⟨v, vm₁, B, X₁.warmed, X', hpost, fun target h => hstep₁ _ fun acts => by rw [doInvoke_state]; exact hsteps.trans h⟩
  · exact Or.inr ⟨q, vm₁, B, X₁.warmed, X', hpost, hstep₁ _ fun acts => by rw [doInvoke_state]; exact hsteps⟩
theorem vx_callSN (X : Stand p l e R s m args below meth c T locs cells slots) (hexec : p.tables.exec = Jvm.exec) {own : String} {index : Nat} {host : String} {y : MethodName} {bytes : ByteArray} {maxL : Nat} {ret : Option FieldType}
    (hown : s.vm.findClass own = some m.cls) (hlink : (Cond.methodLinkNest own index y host).before args s = true) (hstat : (Cond.static y).before args s = true) (hinit : (Cond.initialized y.cls).before args s = true)
    (hcode : (Cond.code y bytes maxL ret).before args s = true) (hy : y.cls ≠ "java/lang/invoke/MethodHandle" ∧ y.cls ≠ "java/lang/invoke/VarHandle")
    {W : Nat} {Pre : Pt → Array Value → Prop} {Post : Pt → Array Value → Option Value → Pt → Prop} {PostX : Pt → Array Value → Addr → Pt → Prop} (hK : vx_Back l R p e below s args y 3 W Pre Post PostX)
    {g : JFrame} (hg : g.method = m) (hsize : g.locals.size = c.maxLocals) {argsL rest : List Value} (hlen : ∀ sig, parseMethodDescriptor y.desc = some sig → argsL.length = sig.parameters.length)
    (hstack : g.stack = argsL.reverse ++ rest) (hW : 2 * g.monitorRoom + (rest.map fun v => v.category).sum ≤ W) (hdg : decode c.code g.pc = .ok (.invokestatic index, 3))
    (hpre : ∀ vm₁, s.WarmedH vm₁ → Pre ⟨T.setVm vm₁, locs, cells, slots⟩ argsL.toArray) :
    (∃ (v : Option Value) (vm₁ : Vm) (B : Pt), s.WarmedH vm₁ ∧ Stand p l e R s m args below meth c B.U B.locs B.cells B.slots ∧ Post ⟨T.setVm vm₁, locs, cells, slots⟩ argsL.toArray v B ∧
      ∀ target, Steps p.tables e below (B.U.setTop { g with pc := g.pc + 3, stack := v.toList ++ rest }) target → Steps p.tables e below (T.setTop g) target) ∨
    (∃ (q : Addr) (vm₁ : Vm) (B : Pt), s.WarmedH vm₁ ∧ Stand p l e R s m args below meth c B.U B.locs B.cells B.slots ∧ PostX ⟨T.setVm vm₁, locs, cells, slots⟩ argsL.toArray q B ∧
      Steps p.tables e below (T.setTop g) ((B.U.setTop { g with stack := rest }).pushFrame (.throwing q))) := by
  obtain ⟨mk, hnamed⟩ := Cond.code_named hcode
  obtain ⟨methM, cM, hmethM, -, -, -, -, -, -, hsigM⟩ := Cond.code_spec hnamed hcode
  have hstatic : methM.isStatic = true := Cond.static_spec hnamed hmethM hstat
  obtain ⟨kP, hkP, -⟩ := className_of_methodNamed hnamed
  have hinitP : kP.init = .initialized := Cond.initialized_spec (findClass_of_methodNamed hnamed) hkP hinit
  obtain ⟨vm₁, X₁, hstep₁⟩ := X.invokestaticNest hexec hown hlink hnamed hmethM hstatic hkP hinitP hy (g := g) hg (argsL := argsL) (rest := rest) (hlen _ hsigM) hstack hdg
  rcases hK m meth c ⟨T.setVm vm₁, locs, cells, slots⟩ { g with stack := rest } (.invokestatic index) mk argsL.toArray X₁ hg hsize hdg hW (X₁.named hnamed) (hpre vm₁ X₁.warmed) with ⟨v, B, X', hpost, hsteps⟩ | ⟨q, B, X', hpost, hsteps⟩
  · exact Or.inl ⟨v, vm₁, B, X₁.warmed, X', hpost, fun target h => hstep₁ _ fun acts => by rw [doInvoke_state]; exact hsteps.trans h⟩
  · exact Or.inr ⟨q, vm₁, B, X₁.warmed, X', hpost, hstep₁ _ fun acts => by rw [doInvoke_state]; exact hsteps⟩
theorem vx_runVN {y : MethodName} {bytes cc : ByteArray} {maxL nL mc ms n index : Nat} {ret : Option FieldType} {ws : List Cond} {rm : Room} {Pc : Array Value → State → Prop} {Qc : Array Value → State → Outcome → State → Prop} {XC : String → State → State → Prop} {free : Addr → Prop} {Ts : List Cond} {own C host : String} {b : Addr} {As rest : List Value} {g : JFrame}
    (S : CallFix p m c cc nL s args Ts own) (hM : vx_Met l y ws rm Pc Qc XC mc ms free) (cw : va_CN R s args own index y host bytes maxL ret ws rm mc ms n ∧ (Cond.instanceMethod y).before args s = true ∧ (Cond.selects C y y).before args s = true) (hp : PreV s H C b Pc As)
    (hg : g.method = m) (hn : As.length = n) (hsize : g.locals.size = nL) (hstack : g.stack = As.reverse ++ .ref b :: rest) (hW : 2 * g.monitorRoom + (rest.map fun v => v.category).sum ≤ 8) (hdg : decode cc g.pc = .ok (.invokevirtual index, 3)) (hf : cells + mc ≤ R.cells ∧ slots + ms ≤ R.slots) :
    vx_Run p l e R s m args below meth c H locs cells slots mc ms g rest (Qc (Value.ref b :: As).toArray) XC free := by
  obtain ⟨⟨⟨hrc, hrs, hfr, hlo, hws, hcw⟩, hcode, hini, hy, hlen, hl⟩, hx1, hx2⟩ := cw
  have hK : vx_Back l R p e below s args y 3 8 (PreOf R mc ms Pc) (PostOf Qc mc ms free) (vx_Post XC mc ms free) := vx_back (bytes := bytes) (maxL := maxL) (ret := ret) hM hp.1 hrc hrs hfr hlo hws hcw (fun a' U hW => word_at hW (Or.inl (by first | rfl | simp [Cond.onTables, Cond.keeps, Cond.steady])) hini)
  obtain ⟨hx, hb, hml, ho, -⟩ := S
  obtain ⟨-, ⟨cellB, hcB, hoB, hclB⟩, hPc⟩ := hp
  intro T hT X
  rcases vx_callVN X hx (C := C) (bytes := bytes) (maxL := maxL) (ret := ret) ho hl hx1 hx2 hcode hy hK (by rw [hT]; exact hcB) hoB hclB hg (hsize.trans hml.symm) (argsL := As) (rest := rest) (fun sig h => hn.trans (hlen sig h)) hstack hW (by rw [hb]; exact hdg)
    (fun vm₁ hW₁ => ⟨hf.1, hf.2, hPc (T.setVm vm₁) hT hW₁⟩) with ⟨v, vm₁, ⟨U', l2, c2, s2⟩, hW₁, X', ⟨g', mk, t, L, e1, e2, hq, h1, hL, h2, h3⟩, st⟩ | ⟨q, vm₁, ⟨U', l2, c2, s2⟩, hW₁, X', ⟨g', mk, t, L, E, ce, e1, e2, hq, hce, hcv, hcl, h1, hL, h2, h3⟩, st⟩
  · dsimp only [Pt.U, Pt.locs, Pt.cells, Pt.slots] at X' e1 e2 h1 h2 h3 st
    subst h1; subst h2; subst h3
    exact Or.inl ⟨v, (T.setVm vm₁).calling g' mk (Value.ref b :: As).toArray, t, U', L, hT, X', hL, e1, e2, hq, st⟩
  · dsimp only [Pt.U, Pt.locs, Pt.cells, Pt.slots] at X' e1 e2 h1 h2 h3 st hcl
    subst h1; subst h2; subst h3
    exact Or.inr ⟨q, (T.setVm vm₁).calling g' mk (Value.ref b :: As).toArray, t, U', L, E, ce, hT, X', hL, e1, e2, hq, hce, hcv, vx_cls hW₁ hcl, st⟩
theorem vx_runSN {y : MethodName} {bytes cc : ByteArray} {maxL nL mc ms n index : Nat} {ret : Option FieldType} {ws : List Cond} {rm : Room} {Pc : Array Value → State → Prop} {Qc : Array Value → State → Outcome → State → Prop} {XC : String → State → State → Prop} {free : Addr → Prop} {Ts : List Cond} {own host : String} {As rest : List Value} {g : JFrame}
    (S : CallFix p m c cc nL s args Ts own) (hM : vx_Met l y ws rm Pc Qc XC mc ms free) (cw : va_CN R s args own index y host bytes maxL ret ws rm mc ms n ∧ (Cond.static y).before args s = true ∧ True) (hp : PreS s H Pc As)
    (hg : g.method = m) (hn : As.length = n) (hsize : g.locals.size = nL) (hstack : g.stack = As.reverse ++ rest) (hW : 2 * g.monitorRoom + (rest.map fun v => v.category).sum ≤ 8) (hdg : decode cc g.pc = .ok (.invokestatic index, 3)) (hf : cells + mc ≤ R.cells ∧ slots + ms ≤ R.slots) :
    vx_Run p l e R s m args below meth c H locs cells slots mc ms g rest (Qc As.toArray) XC free := by
  obtain ⟨⟨⟨hrc, hrs, hfr, hlo, hws, hcw⟩, hcode, hini, hy, hlen, hl⟩, hx1, hx2⟩ := cw
  have hK : vx_Back l R p e below s args y 3 8 (PreOf R mc ms Pc) (PostOf Qc mc ms free) (vx_Post XC mc ms free) := vx_back (bytes := bytes) (maxL := maxL) (ret := ret) hM hp.1 hrc hrs hfr hlo hws hcw (fun a' U hW => word_at hW (Or.inl (by first | rfl | simp [Cond.onTables, Cond.keeps, Cond.steady])) hini)
  obtain ⟨hx, hb, hml, ho, -⟩ := S
  have hPc := hp.2
  intro T hT X
  rcases vx_callSN X hx (bytes := bytes) (maxL := maxL) (ret := ret) ho hl hx1 hini hcode hy hK hg (hsize.trans hml.symm) (argsL := As) (rest := rest) (fun sig h => hn.trans (hlen sig h)) hstack hW (by rw [hb]; exact hdg)
    (fun vm₁ hW₁ => ⟨hf.1, hf.2, hPc (T.setVm vm₁) hT hW₁⟩) with ⟨v, vm₁, ⟨U', l2, c2, s2⟩, hW₁, X', ⟨g', mk, t, L, e1, e2, hq, h1, hL, h2, h3⟩, st⟩ | ⟨q, vm₁, ⟨U', l2, c2, s2⟩, hW₁, X', ⟨g', mk, t, L, E, ce, e1, e2, hq, hce, hcv, hcl, h1, hL, h2, h3⟩, st⟩
  · dsimp only [Pt.U, Pt.locs, Pt.cells, Pt.slots] at X' e1 e2 h1 h2 h3 st
    subst h1; subst h2; subst h3
    exact Or.inl ⟨v, (T.setVm vm₁).calling g' mk As.toArray, t, U', L, hT, X', hL, e1, e2, hq, st⟩
  · dsimp only [Pt.U, Pt.locs, Pt.cells, Pt.slots] at X' e1 e2 h1 h2 h3 st hcl
    subst h1; subst h2; subst h3
    exact Or.inr ⟨q, (T.setVm vm₁).calling g' mk As.toArray, t, U', L, E, ce, hT, X', hL, e1, e2, hq, hce, hcv, vx_cls hW₁ hcl, st⟩
end
/-! ===== END ===== -/
/-! ===== BEGIN calls by an interface of methods that may throw (vx_callIF, vx_runF follow va_callIF, va_runF of this kit) ===== -/
section
variable {p : Program} {l : Launch} {e : Env} {R : Room} {s : State} {m : MethodId} {args : Array Value} {below : List Frame} {meth : Method} {c : Code} {H : Heap} {locs : List Loc} {cells slots : Nat} {Q : State → Prop}
variable {mc ms : Nat} {free : Addr → Prop} {A0 A1 : Nat → Prop} {H0 : Heap} {a : Array Value} {pc : Nat} {ls : Array Slot} {st0 rest : List Value}
def vx_Run5 (p : Program) (l : Launch) (e : Env) (R : Room) (s : State) (m : MethodId) (args : Array Value) (below : List Frame) (meth : Method) (c : Code) (H : Heap) (locs : List Loc) (cells slots mc ms : Nat) (g : JFrame) (rest : List Value) (Qa : State → Outcome → State → Prop) (XC : String → State → State → Prop) (free : Addr → Prop) : Prop :=
  ∀ T : State, T.heap = H → Stand p l e R s m args below meth c T locs cells slots →
    (∃ (v : Option Value) (st₀ t T' : State) (L : List Loc), st₀.heap = H ∧ Stand p l e R s m args below meth c T' (locs ++ L) (cells + mc) (slots + ms) ∧ (∀ q ∈ L, free q.base) ∧ T'.heap = t.heap ∧ T'.vm = t.vm ∧ Qa st₀ (.returned v) t ∧
      Goes p e below T g T' { g with pc := g.pc + 5, stack := v.toList ++ rest }) ∨
    (∃ (q : Addr) (st₀ t T' : State) (L : List Loc) (E : String) (ce : Cell), st₀.heap = H ∧ Stand p l e R s m args below meth c T' (locs ++ L) (cells + mc) (slots + ms) ∧ (∀ z ∈ L, free z.base) ∧ T'.heap = t.heap ∧ T'.vm = t.vm ∧ XC E st₀ t ∧ t.heap[q]? = some ce ∧ ce.vm = .none ∧ s.vm.findClass E = some ce.cls ∧
      Steps p.tables e below (T.setTop g) ((T'.setTop { g with stack := rest }).pushFrame (.throwing q)))
theorem vx_callIF {T : State} (X : Stand p l e R s m args below meth c T locs cells slots) (hexec : p.tables.exec = Jvm.exec) {own C : String} {index count : Nat} {x y : MethodName} {bytes : ByteArray} {maxL : Nat} {ret : Option FieldType}
    (hown : s.vm.findClass own = some m.cls) (hlink : (Cond.methodLink own index x).before args s = true) (hdecl : (Cond.declares x).before args s = true) (hface : (Cond.interfaceMethod x.cls x.cls x.name x.desc).before args s = true)
    (hsel : (Cond.selects C x y).before args s = true) (hinst : (Cond.instanceMethod y).before args s = true) (hpub : (Cond.publicMethod y).before args s = true) (hunh : (Cond.unhidden C x.name x.desc).before args s = true)
    (hcast : (Cond.castable C x.cls).before args s = true) (hcode : (Cond.code y bytes maxL ret).before args s = true) (hx : x.cls ≠ "java/lang/invoke/MethodHandle" ∧ x.cls ≠ "java/lang/invoke/VarHandle")
    {W9 : Nat} {Pre : Pt → Array Value → Prop} {Post : Pt → Array Value → Option Value → Pt → Prop} {PostX : Pt → Array Value → Addr → Pt → Prop} (hK : vx_Back l R p e below s args y 5 W9 Pre Post PostX)
    {b : Addr} {cellB : Cell} {kB : Class} (hcell : T.heap[b]? = some cellB) (hobj : cellB.vm.isStatics = false) (hcls : s.vm.findClass C = some cellB.cls) (hkB : s.vm.classes[cellB.cls]? = some kB)
    {g : JFrame} (hg : g.method = m) (hsize : g.locals.size = c.maxLocals) {argsL rest : List Value} (hlen : ∀ sig, parseMethodDescriptor x.desc = some sig → argsL.length = sig.parameters.length)
    (hstack : g.stack = argsL.reverse ++ .ref b :: rest) (hW : 2 * g.monitorRoom + (rest.map fun v => v.category).sum ≤ W9) (hdg : decode c.code g.pc = .ok (.invokeinterface index count, 5))
    (hpre : ∀ vm₁, s.WarmedH vm₁ → Pre ⟨T.setVm vm₁, locs, cells, slots⟩ (Value.ref b :: argsL).toArray) :
    (∃ (v : Option Value) (vm₁ : Vm) (B : Pt), s.WarmedH vm₁ ∧ Stand p l e R s m args below meth c B.U B.locs B.cells B.slots ∧ Post ⟨T.setVm vm₁, locs, cells, slots⟩ (Value.ref b :: argsL).toArray v B ∧
      ∀ target, Steps p.tables e below (B.U.setTop { g with pc := g.pc + 5, stack := v.toList ++ rest }) target → Steps p.tables e below (T.setTop g) target) ∨
    (∃ (q : Addr) (vm₁ : Vm) (B : Pt), s.WarmedH vm₁ ∧ Stand p l e R s m args below meth c B.U B.locs B.cells B.slots ∧ PostX ⟨T.setVm vm₁, locs, cells, slots⟩ (Value.ref b :: argsL).toArray q B ∧
      Steps p.tables e below (T.setTop g) ((B.U.setTop { g with stack := rest }).pushFrame (.throwing q))) := by
  obtain ⟨r0, r, hn, hrm, hstR, hsigR⟩ := Cond.declares_spec hdecl
  obtain ⟨cL, kL, r1, hcL, hkL, hiL, hfoundL, hn1⟩ := Cond.interfaceMethod_spec hface
  cases hn.symm.trans hn1
  have hr0cls : r0.cls = cL := Option.some.inj ((findClass_of_methodNamed hn).symm.trans hcL)
  obtain ⟨hnameR, hdescR⟩ := name_of_methodNamed hn hrm
  obtain ⟨mk, methM, hnamed, hmethM, -, habM⟩ := Cond.instanceMethod_spec hinst
  obtain ⟨c2, r2, m2, q1, q2, q3, q4, -⟩ := Cond.selects_spec hsel
  cases hcls.symm.trans q1
  cases hfoundL.symm.trans q2
  cases hnamed.symm.trans q3
  have hselP : selectMethod e.platform s.vm cellB.cls r0 = .method mk := by rw [Launch.admits_selectMethod X.admits]; exact q4
  have hpubM : hasFlag methM.accessFlags Acc.public_ = true := Cond.publicMethod_spec hnamed hmethM hpub
  have hway : ((cellB.cls :: s.vm.superclasses cellB.cls).any fun k => (declaredIn s.vm r.name r.desc k).any fun (_, z) => z.isPrivate || z.isStatic) = false := by
    rw [hnameR, hdescR]; exact Cond.unhidden_spec hcls hunh
  obtain ⟨c3, t3, w1, w2, w3⟩ := Cond.castable_spec hcast
  cases hcls.symm.trans w1
  cases hcL.symm.trans w2
  obtain ⟨vm₁, X₁, hstep₁⟩ := X.invokeinterface hexec hown hlink hn hrm hstR (by rw [hr0cls]; exact hkL) hiL hx (a := b) (cell := cellB) (kcell := kB) hcell
    (fun z h => by rw [h] at hobj; cases hobj) hkB (by rw [hr0cls]; exact w3) hselP hmethM hway hpubM habM (g := g) hg (argsL := argsL) (rest := rest) (hlen _ hsigR) hstack hdg
  rcases hK m meth c ⟨T.setVm vm₁, locs, cells, slots⟩ { g with stack := rest } (.invokeinterface index count) mk (Value.ref b :: argsL).toArray X₁ hg hsize hdg hW (X₁.named hnamed) (hpre vm₁ X₁.warmed) with ⟨v, B, X', hpost, hsteps⟩ | ⟨q, B, X', hpost, hsteps⟩
  · exact Or.inl ⟨v, vm₁, B, X₁.warmed, X', hpost, fun target h => hstep₁ _ fun acts => by rw [doInvoke_state]; exact hsteps.trans h⟩
  · exact Or.inr ⟨q, vm₁, B, X₁.warmed, X', hpost, hstep₁ _ fun acts => by rw [doInvoke_state]; exact hsteps⟩
theorem vx_runF {x y : MethodName} {bytes cc : ByteArray} {maxL nL mc ms n index count : Nat} {ret : Option FieldType} {ws : List Cond} {rm : Room} {Pc : Array Value → State → Prop} {Qc : Array Value → State → Outcome → State → Prop} {XC : String → State → State → Prop} {free : Addr → Prop} {Ts : List Cond} {own C : String} {cC : ClassId} {b : Addr} {As rest : List Value} {g : JFrame}
    (hat : ClassAt s C cC) (S : CallFix p m c cc nL s args Ts own) (hM : vx_Met l y ws rm Pc Qc XC mc ms free) (cw : va_CI R s args own C index x y bytes maxL ret ws rm mc ms n) (hp : PreV s H C b Pc As)
    (hg : g.method = m) (hn : As.length = n) (hsize : g.locals.size = nL) (hstack : g.stack = As.reverse ++ .ref b :: rest) (hW : 2 * g.monitorRoom + (rest.map fun v => v.category).sum ≤ 8) (hdg : decode cc g.pc = .ok (.invokeinterface index count, 5)) (hf : cells + mc ≤ R.cells ∧ slots + ms ≤ R.slots) :
    vx_Run5 p l e R s m args below meth c H locs cells slots mc ms g rest (Qc (Value.ref b :: As).toArray) XC free := by
  obtain ⟨hrc, hrs, hfr, hlo, hws, hcw⟩ := cw.back
  have hini := cw.init
  have hK : vx_Back l R p e below s args y 5 8 (PreOf R mc ms Pc) (PostOf Qc mc ms free) (vx_Post XC mc ms free) := vx_back (bytes := bytes) (maxL := maxL) (ret := ret) hM hp.1 hrc hrs hfr hlo hws hcw (fun a' U hW => word_at hW (Or.inl (by first | rfl | simp [Cond.onTables, Cond.keeps, Cond.steady])) hini)
  obtain ⟨hx, hb, hml, ho, -⟩ := S
  obtain ⟨-, ⟨cellB, hcB, hoB, hclB⟩, hPc⟩ := hp
  obtain ⟨hfc, kB, hkB, -⟩ := hat
  cases hfc.symm.trans hclB
  intro T hT X
  rcases vx_callIF X hx (C := C) (bytes := bytes) (maxL := maxL) (ret := ret) ho cw.link cw.decl cw.face cw.sel cw.inst cw.pub cw.unh cw.cast cw.code cw.notMH hK (by rw [hT]; exact hcB) hoB hclB hkB hg (hsize.trans hml.symm) (argsL := As) (rest := rest) (fun sig h => hn.trans (cw.len sig h)) hstack hW (by rw [hb]; exact hdg)
    (fun vm₁ hW₁ => ⟨hf.1, hf.2, hPc (T.setVm vm₁) hT hW₁⟩) with ⟨v, vm₁, ⟨U', l2, c2, s2⟩, hW₁, X', ⟨g', mk, t, L, e1, e2, hq, h1, hL, h2, h3⟩, st⟩ | ⟨q, vm₁, ⟨U', l2, c2, s2⟩, hW₁, X', ⟨g', mk, t, L, E, ce, e1, e2, hq, hce, hcv, hcl, h1, hL, h2, h3⟩, st⟩
  · dsimp only [Pt.U, Pt.locs, Pt.cells, Pt.slots] at X' e1 e2 h1 h2 h3 st
    subst h1; subst h2; subst h3
    exact Or.inl ⟨v, (T.setVm vm₁).calling g' mk (Value.ref b :: As).toArray, t, U', L, hT, X', hL, e1, e2, hq, st⟩
  · dsimp only [Pt.U, Pt.locs, Pt.cells, Pt.slots] at X' e1 e2 h1 h2 h3 st hcl
    subst h1; subst h2; subst h3
    exact Or.inr ⟨q, (T.setVm vm₁).calling g' mk (Value.ref b :: As).toArray, t, U', L, E, ce, hT, X', hL, e1, e2, hq, hce, hcv, vx_cls hW₁ hcl, st⟩
theorem vx_callFv {S SX : Type} {post : S → Prop} {px : SX → Prop} {B : S → State → Prop} {BX : String → SX → State → Prop} {AX : Nat → Prop} (hr : vx_Run5 p l e R s m args below meth c H locs cells slots mc ms (F0 m pc ls st0) rest (va_Qv post B A1 a) (vx_X px BX AX) free) (hS : va_S A0 H0 H locs) (hA : ∀ q, q < H.size → A1 q → A0 q) (hf : ∀ q, free q → A0 q) (hAX : ∀ q, q < H.size → AX q → A0 q)
    (kx : ∀ (E : String) (ce : Cell) (q9 : Addr) (u : SX) (t : State) (H1 : Heap) (locs1 : List Loc), t.heap = H1 → s.vm.Alike t.vm → px u → BX E u t → H.size ≤ H1.size → (∀ q : Nat, q < H.size → ¬ AX q → H1[q]? = H[q]?) → va_S A0 H0 H1 locs1 → H1[q9]? = some ce → ce.vm = .none → s.vm.findClass E = some ce.cls → vx_W p l e R s m args below meth c H1 locs1 (cells + mc) (slots + ms) Q (F0 m pc ls rest) q9)
    (kk : ∀ (u : S) (t : State) (H1 : Heap) (locs1 : List Loc), t.heap = H1 → s.vm.Alike t.vm → post u → B u t → H.size ≤ H1.size → (∀ q : Nat, q < H.size → ¬ A1 q → H1[q]? = H[q]?) → va_S A0 H0 H1 locs1 → W p l e R s m args below meth c H1 locs1 (cells + mc) (slots + ms) Q (F0 m (pc + 5) ls (rest))) : W p l e R s m args below meth c H locs cells slots Q (F0 m pc ls st0) := by
  intro T hT X
  rcases hr T hT X with ⟨v, st₀, t, T', L, h0, X', hL, e1, e2, ⟨⟨u, hv, hp, hb⟩, hF⟩, st⟩ | ⟨q, st₀, t, T', L, E, ce, h0, X', hL, e1, e2, ⟨u, hp, hb, hF⟩, hce, hcv, hcl, st⟩
  · cases hv
    obtain ⟨k1, k2, k3⟩ := vx_keep h0 e1 hS hA hf hL hF
    obtain ⟨t2, a1, b1⟩ := kk u t T'.heap (locs ++ L) e1.symm (by rw [← e2]; exact X'.warmed.alike) hp hb k1 k2 k3 T' rfl X'
    exact ⟨t2, st t2 a1, b1⟩
  · obtain ⟨k1, k2, k3⟩ := vx_keep h0 e1 hS hAX hf hL hF
    obtain ⟨t2, a1, b1⟩ := kx E ce q u t T'.heap (locs ++ L) e1.symm (by rw [← e2]; exact X'.warmed.alike) hp hb k1 k2 k3 (by rw [e1]; exact hce) hcv hcl T' rfl X'
    exact ⟨t2, st.trans a1, b1⟩
theorem vx_callFi {S SX : Type} {post : Int32 → S → Prop} {px : SX → Prop} {B : S → State → Prop} {BX : String → SX → State → Prop} {AX : Nat → Prop} (hr : vx_Run5 p l e R s m args below meth c H locs cells slots mc ms (F0 m pc ls st0) rest (va_Qi post B A1 a) (vx_X px BX AX) free) (hS : va_S A0 H0 H locs) (hA : ∀ q, q < H.size → A1 q → A0 q) (hf : ∀ q, free q → A0 q) (hAX : ∀ q, q < H.size → AX q → A0 q)
    (kx : ∀ (E : String) (ce : Cell) (q9 : Addr) (u : SX) (t : State) (H1 : Heap) (locs1 : List Loc), t.heap = H1 → s.vm.Alike t.vm → px u → BX E u t → H.size ≤ H1.size → (∀ q : Nat, q < H.size → ¬ AX q → H1[q]? = H[q]?) → va_S A0 H0 H1 locs1 → H1[q9]? = some ce → ce.vm = .none → s.vm.findClass E = some ce.cls → vx_W p l e R s m args below meth c H1 locs1 (cells + mc) (slots + ms) Q (F0 m pc ls rest) q9)
    (kk : ∀ (r : Int32) (u : S) (t : State) (H1 : Heap) (locs1 : List Loc), t.heap = H1 → s.vm.Alike t.vm → post r u → B u t → H.size ≤ H1.size → (∀ q : Nat, q < H.size → ¬ A1 q → H1[q]? = H[q]?) → va_S A0 H0 H1 locs1 → W p l e R s m args below meth c H1 locs1 (cells + mc) (slots + ms) Q (F0 m (pc + 5) ls (.int r :: rest))) : W p l e R s m args below meth c H locs cells slots Q (F0 m pc ls st0) := by
  intro T hT X
  rcases hr T hT X with ⟨v, st₀, t, T', L, h0, X', hL, e1, e2, ⟨⟨r, u, hv, hp, hb⟩, hF⟩, st⟩ | ⟨q, st₀, t, T', L, E, ce, h0, X', hL, e1, e2, ⟨u, hp, hb, hF⟩, hce, hcv, hcl, st⟩
  · cases hv
    obtain ⟨k1, k2, k3⟩ := vx_keep h0 e1 hS hA hf hL hF
    obtain ⟨t2, a1, b1⟩ := kk r u t T'.heap (locs ++ L) e1.symm (by rw [← e2]; exact X'.warmed.alike) hp hb k1 k2 k3 T' rfl X'
    exact ⟨t2, st t2 a1, b1⟩
  · obtain ⟨k1, k2, k3⟩ := vx_keep h0 e1 hS hAX hf hL hF
    obtain ⟨t2, a1, b1⟩ := kx E ce q u t T'.heap (locs ++ L) e1.symm (by rw [← e2]; exact X'.warmed.alike) hp hb k1 k2 k3 (by rw [e1]; exact hce) hcv hcl T' rfl X'
    exact ⟨t2, st.trans a1, b1⟩
theorem vx_callFl {S SX : Type} {post : Int64 → S → Prop} {px : SX → Prop} {B : S → State → Prop} {BX : String → SX → State → Prop} {AX : Nat → Prop} (hr : vx_Run5 p l e R s m args below meth c H locs cells slots mc ms (F0 m pc ls st0) rest (va_Ql post B A1 a) (vx_X px BX AX) free) (hS : va_S A0 H0 H locs) (hA : ∀ q, q < H.size → A1 q → A0 q) (hf : ∀ q, free q → A0 q) (hAX : ∀ q, q < H.size → AX q → A0 q)
    (kx : ∀ (E : String) (ce : Cell) (q9 : Addr) (u : SX) (t : State) (H1 : Heap) (locs1 : List Loc), t.heap = H1 → s.vm.Alike t.vm → px u → BX E u t → H.size ≤ H1.size → (∀ q : Nat, q < H.size → ¬ AX q → H1[q]? = H[q]?) → va_S A0 H0 H1 locs1 → H1[q9]? = some ce → ce.vm = .none → s.vm.findClass E = some ce.cls → vx_W p l e R s m args below meth c H1 locs1 (cells + mc) (slots + ms) Q (F0 m pc ls rest) q9)
    (kk : ∀ (r : Int64) (u : S) (t : State) (H1 : Heap) (locs1 : List Loc), t.heap = H1 → s.vm.Alike t.vm → post r u → B u t → H.size ≤ H1.size → (∀ q : Nat, q < H.size → ¬ A1 q → H1[q]? = H[q]?) → va_S A0 H0 H1 locs1 → W p l e R s m args below meth c H1 locs1 (cells + mc) (slots + ms) Q (F0 m (pc + 5) ls (.long r :: rest))) : W p l e R s m args below meth c H locs cells slots Q (F0 m pc ls st0) := by
  intro T hT X
  rcases hr T hT X with ⟨v, st₀, t, T', L, h0, X', hL, e1, e2, ⟨⟨r, u, hv, hp, hb⟩, hF⟩, st⟩ | ⟨q, st₀, t, T', L, E, ce, h0, X', hL, e1, e2, ⟨u, hp, hb, hF⟩, hce, hcv, hcl, st⟩
  · cases hv
    obtain ⟨k1, k2, k3⟩ := vx_keep h0 e1 hS hA hf hL hF
    obtain ⟨t2, a1, b1⟩ := kk r u t T'.heap (locs ++ L) e1.symm (by rw [← e2]; exact X'.warmed.alike) hp hb k1 k2 k3 T' rfl X'
    exact ⟨t2, st t2 a1, b1⟩
  · obtain ⟨k1, k2, k3⟩ := vx_keep h0 e1 hS hAX hf hL hF
    obtain ⟨t2, a1, b1⟩ := kx E ce q u t T'.heap (locs ++ L) e1.symm (by rw [← e2]; exact X'.warmed.alike) hp hb k1 k2 k3 (by rw [e1]; exact hce) hcv hcl T' rfl X'
    exact ⟨t2, st.trans a1, b1⟩
theorem vx_callFf {S SX : Type} {post : UInt32 → S → Prop} {px : SX → Prop} {B : S → State → Prop} {BX : String → SX → State → Prop} {AX : Nat → Prop} (hr : vx_Run5 p l e R s m args below meth c H locs cells slots mc ms (F0 m pc ls st0) rest (va_Qf post B A1 a) (vx_X px BX AX) free) (hS : va_S A0 H0 H locs) (hA : ∀ q, q < H.size → A1 q → A0 q) (hf : ∀ q, free q → A0 q) (hAX : ∀ q, q < H.size → AX q → A0 q)
    (kx : ∀ (E : String) (ce : Cell) (q9 : Addr) (u : SX) (t : State) (H1 : Heap) (locs1 : List Loc), t.heap = H1 → s.vm.Alike t.vm → px u → BX E u t → H.size ≤ H1.size → (∀ q : Nat, q < H.size → ¬ AX q → H1[q]? = H[q]?) → va_S A0 H0 H1 locs1 → H1[q9]? = some ce → ce.vm = .none → s.vm.findClass E = some ce.cls → vx_W p l e R s m args below meth c H1 locs1 (cells + mc) (slots + ms) Q (F0 m pc ls rest) q9)
    (kk : ∀ (r : UInt32) (u : S) (t : State) (H1 : Heap) (locs1 : List Loc), t.heap = H1 → s.vm.Alike t.vm → post r u → B u t → H.size ≤ H1.size → (∀ q : Nat, q < H.size → ¬ A1 q → H1[q]? = H[q]?) → va_S A0 H0 H1 locs1 → W p l e R s m args below meth c H1 locs1 (cells + mc) (slots + ms) Q (F0 m (pc + 5) ls (.float r :: rest))) : W p l e R s m args below meth c H locs cells slots Q (F0 m pc ls st0) := by
  intro T hT X
  rcases hr T hT X with ⟨v, st₀, t, T', L, h0, X', hL, e1, e2, ⟨⟨r, u, hv, hp, hb⟩, hF⟩, st⟩ | ⟨q, st₀, t, T', L, E, ce, h0, X', hL, e1, e2, ⟨u, hp, hb, hF⟩, hce, hcv, hcl, st⟩
  · cases hv
    obtain ⟨k1, k2, k3⟩ := vx_keep h0 e1 hS hA hf hL hF
    obtain ⟨t2, a1, b1⟩ := kk r u t T'.heap (locs ++ L) e1.symm (by rw [← e2]; exact X'.warmed.alike) hp hb k1 k2 k3 T' rfl X'
    exact ⟨t2, st t2 a1, b1⟩
  · obtain ⟨k1, k2, k3⟩ := vx_keep h0 e1 hS hAX hf hL hF
    obtain ⟨t2, a1, b1⟩ := kx E ce q u t T'.heap (locs ++ L) e1.symm (by rw [← e2]; exact X'.warmed.alike) hp hb k1 k2 k3 (by rw [e1]; exact hce) hcv hcl T' rfl X'
    exact ⟨t2, st.trans a1, b1⟩
theorem vx_callFd {S SX : Type} {post : UInt64 → S → Prop} {px : SX → Prop} {B : S → State → Prop} {BX : String → SX → State → Prop} {AX : Nat → Prop} (hr : vx_Run5 p l e R s m args below meth c H locs cells slots mc ms (F0 m pc ls st0) rest (va_Qd post B A1 a) (vx_X px BX AX) free) (hS : va_S A0 H0 H locs) (hA : ∀ q, q < H.size → A1 q → A0 q) (hf : ∀ q, free q → A0 q) (hAX : ∀ q, q < H.size → AX q → A0 q)
    (kx : ∀ (E : String) (ce : Cell) (q9 : Addr) (u : SX) (t : State) (H1 : Heap) (locs1 : List Loc), t.heap = H1 → s.vm.Alike t.vm → px u → BX E u t → H.size ≤ H1.size → (∀ q : Nat, q < H.size → ¬ AX q → H1[q]? = H[q]?) → va_S A0 H0 H1 locs1 → H1[q9]? = some ce → ce.vm = .none → s.vm.findClass E = some ce.cls → vx_W p l e R s m args below meth c H1 locs1 (cells + mc) (slots + ms) Q (F0 m pc ls rest) q9)
    (kk : ∀ (r : UInt64) (u : S) (t : State) (H1 : Heap) (locs1 : List Loc), t.heap = H1 → s.vm.Alike t.vm → post r u → B u t → H.size ≤ H1.size → (∀ q : Nat, q < H.size → ¬ A1 q → H1[q]? = H[q]?) → va_S A0 H0 H1 locs1 → W p l e R s m args below meth c H1 locs1 (cells + mc) (slots + ms) Q (F0 m (pc + 5) ls (.double r :: rest))) : W p l e R s m args below meth c H locs cells slots Q (F0 m pc ls st0) := by
  intro T hT X
  rcases hr T hT X with ⟨v, st₀, t, T', L, h0, X', hL, e1, e2, ⟨⟨r, u, hv, hp, hb⟩, hF⟩, st⟩ | ⟨q, st₀, t, T', L, E, ce, h0, X', hL, e1, e2, ⟨u, hp, hb, hF⟩, hce, hcv, hcl, st⟩
  · cases hv
    obtain ⟨k1, k2, k3⟩ := vx_keep h0 e1 hS hA hf hL hF
    obtain ⟨t2, a1, b1⟩ := kk r u t T'.heap (locs ++ L) e1.symm (by rw [← e2]; exact X'.warmed.alike) hp hb k1 k2 k3 T' rfl X'
    exact ⟨t2, st t2 a1, b1⟩
  · obtain ⟨k1, k2, k3⟩ := vx_keep h0 e1 hS hAX hf hL hF
    obtain ⟨t2, a1, b1⟩ := kx E ce q u t T'.heap (locs ++ L) e1.symm (by rw [← e2]; exact X'.warmed.alike) hp hb k1 k2 k3 (by rw [e1]; exact hce) hcv hcl T' rfl X'
    exact ⟨t2, st.trans a1, b1⟩
end
/-! ===== END ===== -/
/-! ===== BEGIN by an interface, a method with a table of its own that may throw (follows va_callIFW, va_runFW) ===== -/
section
variable {p : Program} {l : Launch} {e : Env} {R : Room} {s : State} {m : MethodId} {args : Array Value} {below : List Frame} {meth : Method} {c : Code} {H : Heap} {locs : List Loc} {cells slots : Nat}
theorem vx_callIFW {T : State} (X : Stand p l e R s m args below meth c T locs cells slots) (hexec : p.tables.exec = Jvm.exec) {own C : String} {index count : Nat} {x y : MethodName} {bytes : ByteArray} {maxL : Nat} {ret : Option FieldType} {hh : List (Nat × Nat × Nat × Nat)}
    (hown : s.vm.findClass own = some m.cls) (hlink : (Cond.methodLink own index x).before args s = true) (hdecl : (Cond.declares x).before args s = true) (hface : (Cond.interfaceMethod x.cls x.cls x.name x.desc).before args s = true)
    (hsel : (Cond.selects C x y).before args s = true) (hinst : (Cond.instanceMethod y).before args s = true) (hpub : (Cond.publicMethod y).before args s = true) (hunh : (Cond.unhidden C x.name x.desc).before args s = true)
    (hcast : (Cond.castable C x.cls).before args s = true) (hcode : (Cond.codeWith y bytes maxL ret hh).before args s = true) (hx : x.cls ≠ "java/lang/invoke/MethodHandle" ∧ x.cls ≠ "java/lang/invoke/VarHandle")
    {W : Nat} {Pre : Pt → Array Value → Prop} {Post : Pt → Array Value → Option Value → Pt → Prop} {PostX : Pt → Array Value → Addr → Pt → Prop} (hK : vx_Back l R p e below s args y 5 W Pre Post PostX)
    {b : Addr} {cellB : Cell} {kB : Class} (hcell : T.heap[b]? = some cellB) (hobj : cellB.vm.isStatics = false) (hcls : s.vm.findClass C = some cellB.cls) (hkB : s.vm.classes[cellB.cls]? = some kB)
    {g : JFrame} (hg : g.method = m) (hsize : g.locals.size = c.maxLocals) {argsL rest : List Value} (hlen : ∀ sig, parseMethodDescriptor x.desc = some sig → argsL.length = sig.parameters.length)
    (hstack : g.stack = argsL.reverse ++ .ref b :: rest) (hW : 2 * g.monitorRoom + (rest.map fun v => v.category).sum ≤ W) (hdg : decode c.code g.pc = .ok (.invokeinterface index count, 5))
    (hpre : ∀ vm₁, s.WarmedH vm₁ → Pre ⟨T.setVm vm₁, locs, cells, slots⟩ (Value.ref b :: argsL).toArray) :
    (∃ (v : Option Value) (vm₁ : Vm) (B : Pt), s.WarmedH vm₁ ∧ Stand p l e R s m args below meth c B.U B.locs B.cells B.slots ∧ Post ⟨T.setVm vm₁, locs, cells, slots⟩ (Value.ref b :: argsL).toArray v B ∧
      ∀ target, Steps p.tables e below (B.U.setTop { g with pc := g.pc + 5, stack := v.toList ++ rest }) target → Steps p.tables e below (T.setTop g) target) ∨
    (∃ (q : Addr) (vm₁ : Vm) (B : Pt), s.WarmedH vm₁ ∧ Stand p l e R s m args below meth c B.U B.locs B.cells B.slots ∧ PostX ⟨T.setVm vm₁, locs, cells, slots⟩ (Value.ref b :: argsL).toArray q B ∧
      Steps p.tables e below (T.setTop g) ((B.U.setTop { g with stack := rest }).pushFrame (.throwing q))) := by
  obtain ⟨r0, r, hn, hrm, hstR, hsigR⟩ := Cond.declares_spec hdecl
  obtain ⟨cL, kL, r1, hcL, hkL, hiL, hfoundL, hn1⟩ := Cond.interfaceMethod_spec hface
  cases hn.symm.trans hn1
  have hr0cls : r0.cls = cL := Option.some.inj ((findClass_of_methodNamed hn).symm.trans hcL)
  obtain ⟨hnameR, hdescR⟩ := name_of_methodNamed hn hrm
  obtain ⟨mk, methM, hnamed, hmethM, -, habM⟩ := Cond.instanceMethod_spec hinst
  obtain ⟨c2, r2, m2, q1, q2, q3, q4, -⟩ := Cond.selects_spec hsel
  cases hcls.symm.trans q1
  cases hfoundL.symm.trans q2
  cases hnamed.symm.trans q3
  have hselP : selectMethod e.platform s.vm cellB.cls r0 = .method mk := by rw [Launch.admits_selectMethod X.admits]; exact q4
  have hpubM : hasFlag methM.accessFlags Acc.public_ = true := Cond.publicMethod_spec hnamed hmethM hpub
  have hway : ((cellB.cls :: s.vm.superclasses cellB.cls).any fun k => (declaredIn s.vm r.name r.desc k).any fun (_, z) => z.isPrivate || z.isStatic) = false := by
    rw [hnameR, hdescR]; exact Cond.unhidden_spec hcls hunh
  obtain ⟨c3, t3, w1, w2, w3⟩ := Cond.castable_spec hcast
  cases hcls.symm.trans w1
  cases hcL.symm.trans w2
  obtain ⟨vm₁, X₁, hstep₁⟩ := X.invokeinterface hexec hown hlink hn hrm hstR (by rw [hr0cls]; exact hkL) hiL hx (a := b) (cell := cellB) (kcell := kB) hcell
    (fun z h => by rw [h] at hobj; cases hobj) hkB (by rw [hr0cls]; exact w3) hselP hmethM hway hpubM habM (g := g) hg (argsL := argsL) (rest := rest) (hlen _ hsigR) hstack hdg
  rcases hK m meth c ⟨T.setVm vm₁, locs, cells, slots⟩ { g with stack := rest } (.invokeinterface index count) mk (Value.ref b :: argsL).toArray X₁ hg hsize hdg hW (X₁.named hnamed) (hpre vm₁ X₁.warmed) with ⟨v, B, X', hpost, hsteps⟩ | ⟨q, B, X', hpost, hsteps⟩
  · exact Or.inl ⟨v, vm₁, B, X₁.warmed, X', hpost, fun target h => hstep₁ _ fun acts => by rw [doInvoke_state]; exact hsteps.trans h⟩
  · exact Or.inr ⟨q, vm₁, B, X₁.warmed, X', hpost, hstep₁ _ fun acts => by rw [doInvoke_state]; exact hsteps⟩
theorem vx_runFW {x y : MethodName} {bytes cc : ByteArray} {maxL nL mc ms n index count : Nat} {ret : Option FieldType} {hh : List (Nat × Nat × Nat × Nat)} {ws : List Cond} {rm : Room} {Pc : Array Value → State → Prop} {Qc : Array Value → State → Outcome → State → Prop} {XC : String → State → State → Prop} {free : Addr → Prop} {Ts : List Cond} {own C : String} {cC : ClassId} {b : Addr} {As rest : List Value} {g : JFrame}
    (hat : ClassAt s C cC) (S : CallFix p m c cc nL s args Ts own) (hM : vx_Met l y ws rm Pc Qc XC mc ms free) (cw : va_CIW R s args own C index x y bytes maxL ret hh ws rm mc ms n) (hp : PreV s H C b Pc As)
    (hg : g.method = m) (hn : As.length = n) (hsize : g.locals.size = nL) (hstack : g.stack = As.reverse ++ .ref b :: rest) (hW : 2 * g.monitorRoom + (rest.map fun v => v.category).sum ≤ 8) (hdg : decode cc g.pc = .ok (.invokeinterface index count, 5)) (hf : cells + mc ≤ R.cells ∧ slots + ms ≤ R.slots) :
    vx_Run5 p l e R s m args below meth c H locs cells slots mc ms g rest (Qc (Value.ref b :: As).toArray) XC free := by
  obtain ⟨hrc, hrs, hfr, hlo, hws, hcw⟩ := cw.back
  have hini := cw.init
  have hK : vx_Back l R p e below s args y 5 8 (PreOf R mc ms Pc) (PostOf Qc mc ms free) (vx_Post XC mc ms free) := vx_backW (hh := hh) (bytes := bytes) (maxL := maxL) (ret := ret) hM hp.1 hrc hrs hfr hlo hws hcw (fun a' U hW => word_at hW (Or.inl (by first | rfl | simp [Cond.onTables, Cond.keeps, Cond.steady])) hini)
  obtain ⟨hx, hb, hml, ho, -⟩ := S
  obtain ⟨-, ⟨cellB, hcB, hoB, hclB⟩, hPc⟩ := hp
  obtain ⟨hfc, kB, hkB, -⟩ := hat
  cases hfc.symm.trans hclB
  intro T hT X
  rcases vx_callIFW X hx (C := C) (hh := hh) (bytes := bytes) (maxL := maxL) (ret := ret) ho cw.link cw.decl cw.face cw.sel cw.inst cw.pub cw.unh cw.cast cw.code cw.notMH hK (by rw [hT]; exact hcB) hoB hclB hkB hg (hsize.trans hml.symm) (argsL := As) (rest := rest) (fun sig h => hn.trans (cw.len sig h)) hstack hW (by rw [hb]; exact hdg)
    (fun vm₁ hW₁ => ⟨hf.1, hf.2, hPc (T.setVm vm₁) hT hW₁⟩) with ⟨v, vm₁, ⟨U', l2, c2, s2⟩, hW₁, X', ⟨g', mk, t, L, e1, e2, hq, h1, hL, h2, h3⟩, st⟩ | ⟨q, vm₁, ⟨U', l2, c2, s2⟩, hW₁, X', ⟨g', mk, t, L, E, ce, e1, e2, hq, hce, hcv, hcl, h1, hL, h2, h3⟩, st⟩
  · dsimp only [Pt.U, Pt.locs, Pt.cells, Pt.slots] at X' e1 e2 h1 h2 h3 st
    subst h1; subst h2; subst h3
    exact Or.inl ⟨v, (T.setVm vm₁).calling g' mk (Value.ref b :: As).toArray, t, U', L, hT, X', hL, e1, e2, hq, st⟩
  · dsimp only [Pt.U, Pt.locs, Pt.cells, Pt.slots] at X' e1 e2 h1 h2 h3 st hcl
    subst h1; subst h2; subst h3
    exact Or.inr ⟨q, (T.setVm vm₁).calling g' mk (Value.ref b :: As).toArray, t, U', L, E, ce, hT, X', hL, e1, e2, hq, hce, hcv, vx_cls hW₁ hcl, st⟩
end
/-! ===== END ===== -/
/-! ===== BEGIN .. of methods that hand back an object of the pool ===== -/
section
variable {p : Program} {l : Launch} {e : Env} {R : Room} {s : State} {m : MethodId} {args : Array Value} {below : List Frame} {meth : Method} {c : Code} {H : Heap} {locs : List Loc} {cells slots : Nat} {Q : State → Prop}
variable {mc ms : Nat} {free : Addr → Prop} {A0 A1 : Nat → Prop} {H0 : Heap} {a : Array Value} {pc : Nat} {ls : Array Slot} {st0 rest : List Value}
theorem vx_callq {S SX : Type} {post : Option Nat → S → Prop} {px : SX → Prop} {B : S → State → Prop} {BX : String → SX → State → Prop} {AX : Nat → Prop} (hr : vx_Run p l e R s m args below meth c H locs cells slots mc ms (F0 m pc ls st0) rest (va_Qq post B A1 a) (vx_X px BX AX) free) (hS : va_S A0 H0 H locs) (hA : ∀ q, q < H.size → A1 q → A0 q) (hf : ∀ q, free q → A0 q) (hAX : ∀ q, q < H.size → AX q → A0 q)
    (kx : ∀ (E : String) (ce : Cell) (q9 : Addr) (u : SX) (t : State) (H1 : Heap) (locs1 : List Loc), t.heap = H1 → s.vm.Alike t.vm → px u → BX E u t → H.size ≤ H1.size → (∀ q : Nat, q < H.size → ¬ AX q → H1[q]? = H[q]?) → va_S A0 H0 H1 locs1 → H1[q9]? = some ce → ce.vm = .none → s.vm.findClass E = some ce.cls → vx_W p l e R s m args below meth c H1 locs1 (cells + mc) (slots + ms) Q (F0 m pc ls rest) q9)
    (kk : ∀ (r : Option Nat) (u : S) (t : State) (H1 : Heap) (locs1 : List Loc), t.heap = H1 → s.vm.Alike t.vm → post r u → B u t → H.size ≤ H1.size → (∀ q : Nat, q < H.size → ¬ A1 q → H1[q]? = H[q]?) → va_S A0 H0 H1 locs1 → W p l e R s m args below meth c H1 locs1 (cells + mc) (slots + ms) Q (F0 m (pc + 3) ls (va_rf r :: rest))) : W p l e R s m args below meth c H locs cells slots Q (F0 m pc ls st0) := by
  intro T hT X
  rcases hr T hT X with ⟨v, st₀, t, T', L, h0, X', hL, e1, e2, ⟨⟨r, u, hv, hp, hb⟩, hF⟩, st⟩ | ⟨q, st₀, t, T', L, E, ce, h0, X', hL, e1, e2, ⟨u, hp, hb, hF⟩, hce, hcv, hcl, st⟩
  · cases hv
    obtain ⟨k1, k2, k3⟩ := vx_keep h0 e1 hS hA hf hL hF
    obtain ⟨t2, a1, b1⟩ := kk r u t T'.heap (locs ++ L) e1.symm (by rw [← e2]; exact X'.warmed.alike) hp hb k1 k2 k3 T' rfl X'
    exact ⟨t2, st t2 a1, b1⟩
  · obtain ⟨k1, k2, k3⟩ := vx_keep h0 e1 hS hAX hf hL hF
    obtain ⟨t2, a1, b1⟩ := kx E ce q u t T'.heap (locs ++ L) e1.symm (by rw [← e2]; exact X'.warmed.alike) hp hb k1 k2 k3 (by rw [e1]; exact hce) hcv hcl T' rfl X'
    exact ⟨t2, st.trans a1, b1⟩
end
/-! ===== END ===== -/
/-! ===== BEGIN .. a constant ===== -/
section
variable {p : Program} {l : Launch} {e : Env} {R : Room} {s : State} {m : MethodId} {args : Array Value} {below : List Frame} {meth : Method} {c : Code} {H : Heap} {locs : List Loc} {cells slots : Nat} {Q : State → Prop}
variable {mc ms : Nat} {free : Addr → Prop} {A0 A1 : Nat → Prop} {H0 : Heap} {a : Array Value} {pc : Nat} {ls : Array Slot} {st0 rest : List Value}
theorem vx_calle {ad : Nat → Nat} {S SX : Type} {post : Option Nat → S → Prop} {px : SX → Prop} {B : S → State → Prop} {BX : String → SX → State → Prop} {AX : Nat → Prop} (hr : vx_Run p l e R s m args below meth c H locs cells slots mc ms (F0 m pc ls st0) rest (va_Qe ad post B A1 a) (vx_X px BX AX) free) (hS : va_S A0 H0 H locs) (hA : ∀ q, q < H.size → A1 q → A0 q) (hf : ∀ q, free q → A0 q) (hAX : ∀ q, q < H.size → AX q → A0 q)
    (kx : ∀ (E : String) (ce : Cell) (q9 : Addr) (u : SX) (t : State) (H1 : Heap) (locs1 : List Loc), t.heap = H1 → s.vm.Alike t.vm → px u → BX E u t → H.size ≤ H1.size → (∀ q : Nat, q < H.size → ¬ AX q → H1[q]? = H[q]?) → va_S A0 H0 H1 locs1 → H1[q9]? = some ce → ce.vm = .none → s.vm.findClass E = some ce.cls → vx_W p l e R s m args below meth c H1 locs1 (cells + mc) (slots + ms) Q (F0 m pc ls rest) q9)
    (kk : ∀ (r : Option Nat) (u : S) (t : State) (H1 : Heap) (locs1 : List Loc), t.heap = H1 → s.vm.Alike t.vm → post r u → B u t → H.size ≤ H1.size → (∀ q : Nat, q < H.size → ¬ A1 q → H1[q]? = H[q]?) → va_S A0 H0 H1 locs1 → W p l e R s m args below meth c H1 locs1 (cells + mc) (slots + ms) Q (F0 m (pc + 3) ls (va_re ad r :: rest))) : W p l e R s m args below meth c H locs cells slots Q (F0 m pc ls st0) := by
  intro T hT X
  rcases hr T hT X with ⟨v, st₀, t, T', L, h0, X', hL, e1, e2, ⟨⟨r, u, hv, hp, hb⟩, hF⟩, st⟩ | ⟨q, st₀, t, T', L, E, ce, h0, X', hL, e1, e2, ⟨u, hp, hb, hF⟩, hce, hcv, hcl, st⟩
  · cases hv
    obtain ⟨k1, k2, k3⟩ := vx_keep h0 e1 hS hA hf hL hF
    obtain ⟨t2, a1, b1⟩ := kk r u t T'.heap (locs ++ L) e1.symm (by rw [← e2]; exact X'.warmed.alike) hp hb k1 k2 k3 T' rfl X'
    exact ⟨t2, st t2 a1, b1⟩
  · obtain ⟨k1, k2, k3⟩ := vx_keep h0 e1 hS hAX hf hL hF
    obtain ⟨t2, a1, b1⟩ := kx E ce q u t T'.heap (locs ++ L) e1.symm (by rw [← e2]; exact X'.warmed.alike) hp hb k1 k2 k3 (by rw [e1]; exact hce) hcv hcl T' rfl X'
    exact ⟨t2, st.trans a1, b1⟩
end
/-! ===== END ===== -/
/-! ===== BEGIN .. by an interface, an object ===== -/
section
variable {p : Program} {l : Launch} {e : Env} {R : Room} {s : State} {m : MethodId} {args : Array Value} {below : List Frame} {meth : Method} {c : Code} {H : Heap} {locs : List Loc} {cells slots : Nat} {Q : State → Prop}
variable {mc ms : Nat} {free : Addr → Prop} {A0 A1 : Nat → Prop} {H0 : Heap} {a : Array Value} {pc : Nat} {ls : Array Slot} {st0 rest : List Value}
theorem vx_callFq {S SX : Type} {post : Option Nat → S → Prop} {px : SX → Prop} {B : S → State → Prop} {BX : String → SX → State → Prop} {AX : Nat → Prop} (hr : vx_Run5 p l e R s m args below meth c H locs cells slots mc ms (F0 m pc ls st0) rest (va_Qq post B A1 a) (vx_X px BX AX) free) (hS : va_S A0 H0 H locs) (hA : ∀ q, q < H.size → A1 q → A0 q) (hf : ∀ q, free q → A0 q) (hAX : ∀ q, q < H.size → AX q → A0 q)
    (kx : ∀ (E : String) (ce : Cell) (q9 : Addr) (u : SX) (t : State) (H1 : Heap) (locs1 : List Loc), t.heap = H1 → s.vm.Alike t.vm → px u → BX E u t → H.size ≤ H1.size → (∀ q : Nat, q < H.size → ¬ AX q → H1[q]? = H[q]?) → va_S A0 H0 H1 locs1 → H1[q9]? = some ce → ce.vm = .none → s.vm.findClass E = some ce.cls → vx_W p l e R s m args below meth c H1 locs1 (cells + mc) (slots + ms) Q (F0 m pc ls rest) q9)
    (kk : ∀ (r : Option Nat) (u : S) (t : State) (H1 : Heap) (locs1 : List Loc), t.heap = H1 → s.vm.Alike t.vm → post r u → B u t → H.size ≤ H1.size → (∀ q : Nat, q < H.size → ¬ A1 q → H1[q]? = H[q]?) → va_S A0 H0 H1 locs1 → W p l e R s m args below meth c H1 locs1 (cells + mc) (slots + ms) Q (F0 m (pc + 5) ls (va_rf r :: rest))) : W p l e R s m args below meth c H locs cells slots Q (F0 m pc ls st0) := by
  intro T hT X
  rcases hr T hT X with ⟨v, st₀, t, T', L, h0, X', hL, e1, e2, ⟨⟨r, u, hv, hp, hb⟩, hF⟩, st⟩ | ⟨q, st₀, t, T', L, E, ce, h0, X', hL, e1, e2, ⟨u, hp, hb, hF⟩, hce, hcv, hcl, st⟩
  · cases hv
    obtain ⟨k1, k2, k3⟩ := vx_keep h0 e1 hS hA hf hL hF
    obtain ⟨t2, a1, b1⟩ := kk r u t T'.heap (locs ++ L) e1.symm (by rw [← e2]; exact X'.warmed.alike) hp hb k1 k2 k3 T' rfl X'
    exact ⟨t2, st t2 a1, b1⟩
  · obtain ⟨k1, k2, k3⟩ := vx_keep h0 e1 hS hAX hf hL hF
    obtain ⟨t2, a1, b1⟩ := kx E ce q u t T'.heap (locs ++ L) e1.symm (by rw [← e2]; exact X'.warmed.alike) hp hb k1 k2 k3 (by rw [e1]; exact hce) hcv hcl T' rfl X'
    exact ⟨t2, st.trans a1, b1⟩
end
/-! ===== END ===== -/
/-! ===== BEGIN .. by an interface, a constant ===== -/
section
variable {p : Program} {l : Launch} {e : Env} {R : Room} {s : State} {m : MethodId} {args : Array Value} {below : List Frame} {meth : Method} {c : Code} {H : Heap} {locs : List Loc} {cells slots : Nat} {Q : State → Prop}
variable {mc ms : Nat} {free : Addr → Prop} {A0 A1 : Nat → Prop} {H0 : Heap} {a : Array Value} {pc : Nat} {ls : Array Slot} {st0 rest : List Value}
theorem vx_callFe {ad : Nat → Nat} {S SX : Type} {post : Option Nat → S → Prop} {px : SX → Prop} {B : S → State → Prop} {BX : String → SX → State → Prop} {AX : Nat → Prop} (hr : vx_Run5 p l e R s m args below meth c H locs cells slots mc ms (F0 m pc ls st0) rest (va_Qe ad post B A1 a) (vx_X px BX AX) free) (hS : va_S A0 H0 H locs) (hA : ∀ q, q < H.size → A1 q → A0 q) (hf : ∀ q, free q → A0 q) (hAX : ∀ q, q < H.size → AX q → A0 q)
    (kx : ∀ (E : String) (ce : Cell) (q9 : Addr) (u : SX) (t : State) (H1 : Heap) (locs1 : List Loc), t.heap = H1 → s.vm.Alike t.vm → px u → BX E u t → H.size ≤ H1.size → (∀ q : Nat, q < H.size → ¬ AX q → H1[q]? = H[q]?) → va_S A0 H0 H1 locs1 → H1[q9]? = some ce → ce.vm = .none → s.vm.findClass E = some ce.cls → vx_W p l e R s m args below meth c H1 locs1 (cells + mc) (slots + ms) Q (F0 m pc ls rest) q9)
    (kk : ∀ (r : Option Nat) (u : S) (t : State) (H1 : Heap) (locs1 : List Loc), t.heap = H1 → s.vm.Alike t.vm → post r u → B u t → H.size ≤ H1.size → (∀ q : Nat, q < H.size → ¬ A1 q → H1[q]? = H[q]?) → va_S A0 H0 H1 locs1 → W p l e R s m args below meth c H1 locs1 (cells + mc) (slots + ms) Q (F0 m (pc + 5) ls (va_re ad r :: rest))) : W p l e R s m args below meth c H locs cells slots Q (F0 m pc ls st0) := by
  intro T hT X
  rcases hr T hT X with ⟨v, st₀, t, T', L, h0, X', hL, e1, e2, ⟨⟨r, u, hv, hp, hb⟩, hF⟩, st⟩ | ⟨q, st₀, t, T', L, E, ce, h0, X', hL, e1, e2, ⟨u, hp, hb, hF⟩, hce, hcv, hcl, st⟩
  · cases hv
    obtain ⟨k1, k2, k3⟩ := vx_keep h0 e1 hS hA hf hL hF
    obtain ⟨t2, a1, b1⟩ := kk r u t T'.heap (locs ++ L) e1.symm (by rw [← e2]; exact X'.warmed.alike) hp hb k1 k2 k3 T' rfl X'
    exact ⟨t2, st t2 a1, b1⟩
  · obtain ⟨k1, k2, k3⟩ := vx_keep h0 e1 hS hAX hf hL hF
    obtain ⟨t2, a1, b1⟩ := kx E ce q u t T'.heap (locs ++ L) e1.symm (by rw [← e2]; exact X'.warmed.alike) hp hb k1 k2 k3 (by rw [e1]; exact hce) hcv hcl T' rfl X'
    exact ⟨t2, st.trans a1, b1⟩
end
/-! ===== END ===== -/
/-! ===== BEGIN what the machine throws by itself: null at a field, at athrow ===== -/
section VXM2
variable {p : Program} {l : Launch} {e : Env} {R : Room} {s : State} {m : MethodId} {args : Array Value} {below : List Frame} {meth : Method} {c : Code} {H : Heap} {locs : List Loc} {cells slots : Nat}
variable {Q : State → Prop} {cc : ByteArray} {pc : Nat} {ls : Array Slot} {rest : List Value}
theorem vx_getfN {D cl tys} {own ref C : String} {T : u_T} {N ci index : Nat} {Ts : List Cond} (hexec : p.tables.exec = Jvm.exec) (hb : c.code = cc) (hts : ∀ w ∈ Ts, w.before args s = true) (hin : ∀ w ∈ u_ws C T N, w ∈ Ts) (hown : s.vm.findClass own = some m.cls) (hK : va_K D cl tys s) (hc : cl[ci]? = some (C, T, N)) (k : Nat) (hk : k < N) (hlink : (Cond.fieldLink own index ref (T k).2.1 (T k).2.2.1).before args s = true) (hsame : ∀ x, s.fieldFound? (T k).1 (T k).2.1 (T k).2.2.1 = some x → s.fieldFound? ref (T k).2.1 (T k).2.2.1 = some x) (hdg : decode cc pc = .ok (.getfield index, 3)) (kk : vx_NoteN p l e R s m args below meth c H locs cells slots Q (F0 m pc ls rest)) : W p l e R s m args below meth c H locs cells slots Q (F0 m pc ls (.null :: rest)) := by
  obtain ⟨hS, hfc, kC, hkC, -⟩ := hK.1 ci _ hc
  obtain ⟨cf, kf, fi, f, hi, -⟩ := hS k hk
  intro U hU X
  obtain ⟨vm', X1, st1⟩ := X.getfieldNull hexec hown hlink (hsame _ hi) (u_facts hfc hkC (u_lays hts hin hk) hi).1 (g := F0 m pc ls (.null :: rest)) rfl (rest := rest) rfl (by rw [hb]; exact hdg)
  obtain ⟨t, st, q⟩ := kk (U.setVm vm') hU X1
  exact ⟨t, st1 t st, q⟩
theorem vx_getfNN {D cl tys} {own ref C host : String} {T : u_T} {N ci index : Nat} {Ts : List Cond} (hexec : p.tables.exec = Jvm.exec) (hb : c.code = cc) (hts : ∀ w ∈ Ts, w.before args s = true) (hin : ∀ w ∈ u_ws C T N, w ∈ Ts) (hown : s.vm.findClass own = some m.cls) (hK : va_K D cl tys s) (hc : cl[ci]? = some (C, T, N)) (k : Nat) (hk : k < N) (hlink : (Cond.fieldLinkNest own index ref (T k).2.1 (T k).2.2.1 host).before args s = true) (hsame : ∀ x, s.fieldFound? (T k).1 (T k).2.1 (T k).2.2.1 = some x → s.fieldFound? ref (T k).2.1 (T k).2.2.1 = some x) (hdg : decode cc pc = .ok (.getfield index, 3)) (kk : vx_NoteN p l e R s m args below meth c H locs cells slots Q (F0 m pc ls rest)) : W p l e R s m args below meth c H locs cells slots Q (F0 m pc ls (.null :: rest)) := by
  obtain ⟨hS, hfc, kC, hkC, -⟩ := hK.1 ci _ hc
  obtain ⟨cf, kf, fi, f, hi, -⟩ := hS k hk
  intro U hU X
  obtain ⟨vm', X1, st1⟩ := X.getfieldNullNest hexec hown hlink (hsame _ hi) (u_facts hfc hkC (u_lays hts hin hk) hi).1 (g := F0 m pc ls (.null :: rest)) rfl (rest := rest) rfl (by rw [hb]; exact hdg)
  obtain ⟨t, st, q⟩ := kk (U.setVm vm') hU X1
  exact ⟨t, st1 t st, q⟩
theorem vx_putfN {D cl tys} {own ref C : String} {T : u_T} {N ci index : Nat} {Ts : List Cond} (hexec : p.tables.exec = Jvm.exec) (hb : c.code = cc) (hts : ∀ w ∈ Ts, w.before args s = true) (hin : ∀ w ∈ u_ws C T N, w ∈ Ts) (hown : s.vm.findClass own = some m.cls) (hK : va_K D cl tys s) (hc : cl[ci]? = some (C, T, N)) (k : Nat) (hk : k < N) (hlink : (Cond.fieldLink own index ref (T k).2.1 (T k).2.2.1).before args s = true) (hsame : ∀ x, s.fieldFound? (T k).1 (T k).2.1 (T k).2.2.1 = some x → s.fieldFound? ref (T k).2.1 (T k).2.2.1 = some x) (hfin : (T k).2.2.2 = false) {v : Value} (hdg : decode cc pc = .ok (.putfield index, 3)) (kk : vx_NoteN p l e R s m args below meth c H locs cells slots Q (F0 m pc ls rest)) : W p l e R s m args below meth c H locs cells slots Q (F0 m pc ls (v :: .null :: rest)) := by
  obtain ⟨hS, hfc, kC, hkC, -⟩ := hK.1 ci _ hc
  obtain ⟨cf, kf, fi, f, hi, -⟩ := hS k hk
  have hlay := hts _ (hin _ (u_in_lay hk))
  unfold u_lay at hlay
  rw [if_neg (by rw [hfin]; decide)] at hlay
  obtain ⟨c9, k9, cf9, kf9, fi9, f9, -, -, hi9, hst9, hnf9, -⟩ := Cond.lays_spec hlay
  cases hi.symm.trans hi9
  intro U hU X
  obtain ⟨vm', X1, st1⟩ := X.putfieldNull hexec hown hlink (hsame _ hi) hst9 hnf9 (g := F0 m pc ls (v :: .null :: rest)) rfl (v := v) (rest := rest) rfl (by rw [hb]; exact hdg)
  obtain ⟨t, st, q⟩ := kk (U.setVm vm') hU X1
  exact ⟨t, st1 t st, q⟩
theorem vx_putfNN {D cl tys} {own ref C host : String} {T : u_T} {N ci index : Nat} {Ts : List Cond} (hexec : p.tables.exec = Jvm.exec) (hb : c.code = cc) (hts : ∀ w ∈ Ts, w.before args s = true) (hin : ∀ w ∈ u_ws C T N, w ∈ Ts) (hown : s.vm.findClass own = some m.cls) (hK : va_K D cl tys s) (hc : cl[ci]? = some (C, T, N)) (k : Nat) (hk : k < N) (hlink : (Cond.fieldLinkNest own index ref (T k).2.1 (T k).2.2.1 host).before args s = true) (hsame : ∀ x, s.fieldFound? (T k).1 (T k).2.1 (T k).2.2.1 = some x → s.fieldFound? ref (T k).2.1 (T k).2.2.1 = some x) (hfin : (T k).2.2.2 = false) {v : Value} (hdg : decode cc pc = .ok (.putfield index, 3)) (kk : vx_NoteN p l e R s m args below meth c H locs cells slots Q (F0 m pc ls rest)) : W p l e R s m args below meth c H locs cells slots Q (F0 m pc ls (v :: .null :: rest)) := by
  obtain ⟨hS, hfc, kC, hkC, -⟩ := hK.1 ci _ hc
  obtain ⟨cf, kf, fi, f, hi, -⟩ := hS k hk
  have hlay := hts _ (hin _ (u_in_lay hk))
  unfold u_lay at hlay
  rw [if_neg (by rw [hfin]; decide)] at hlay
  obtain ⟨c9, k9, cf9, kf9, fi9, f9, -, -, hi9, hst9, hnf9, -⟩ := Cond.lays_spec hlay
  cases hi.symm.trans hi9
  intro U hU X
  obtain ⟨vm', X1, st1⟩ := X.putfieldNullNest hexec hown hlink (hsame _ hi) hst9 hnf9 (g := F0 m pc ls (v :: .null :: rest)) rfl (v := v) (rest := rest) rfl (by rw [hb]; exact hdg)
  obtain ⟨t, st, q⟩ := kk (U.setVm vm') hU X1
  exact ⟨t, st1 t st, q⟩
theorem vx_athrowN (hexec : p.tables.exec = Jvm.exec) (hb : c.code = cc) (hdg : decode cc pc = .ok (.athrow, 1)) (k : vx_NoteN p l e R s m args below meth c H locs cells slots Q (F0 m pc ls rest)) : W p l e R s m args below meth c H locs cells slots Q (F0 m pc ls (.null :: rest)) := by
  intro T hT X
  obtain ⟨t, st, q⟩ := k T hT X
  exact ⟨t, X.athrowNull hexec (g := F0 m pc ls (.null :: rest)) rfl (rest := rest) rfl (by rw [hb]; exact hdg) t st, q⟩
end VXM2
/-! ===== END ===== -/
end
section
/-! ===== a small language: numbers are Int, cells by number, the shape of the world apart from its numbers ===== -/
abbrev SX : Type := Lean.Data.AC.Expr
abbrev XH : Type := Nat → Nat → Int
abbrev XC : Type := Nat × Nat × List (Nat × Nat)
abbrev XS : Type := List XC
abbrev XT : Type := (XS × Nat × Nat) × XH
abbrev XK : Type := Nat → Option (Nat × Nat × Nat × Int)
abbrev XD : Type := Nat → Option (Instr × Nat)
def j32 (x : Int) : Int := (Int32.ofInt x).toInt
def j64 (x : Int) : Int := (Int64.ofInt x).toInt
def j_iop (k : Nat) (x y : Int) : Int := match k with
  | 0 => j32 (x + y)
  | 1 => j32 (x - y)
  | 2 => j32 (x * y)
  | 3 => (Int32.ofInt x &&& Int32.ofInt y).toInt
  | 4 => (Int32.ofInt x ||| Int32.ofInt y).toInt
  | 5 => (Int32.ofInt x ^^^ Int32.ofInt y).toInt
  | 6 => (Int32.ofInt x <<< (Int32.ofInt y &&& 31)).toInt
  | 7 => (Int32.ofInt x >>> (Int32.ofInt y &&& 31)).toInt
  | _ => ((Int32.ofInt x).toUInt32 >>> ((Int32.ofInt y).toUInt32 &&& Int32.toUInt32 31)).toInt32.toInt
def j_lop (k : Nat) (x y : Int) : Int := match k with
  | 0 => j64 (x + y)
  | 1 => j64 (x - y)
  | 2 => j64 (x * y)
  | 3 => (Int64.ofInt x &&& Int64.ofInt y).toInt
  | _ => (Int64.ofInt x ||| Int64.ofInt y).toInt
def j_lsh (k : Nat) (x y : Int) : Int := match k with
  | 0 => (Int64.ofInt x <<< ((Int32.ofInt y).toInt64 &&& 63)).toInt
  | 1 => (Int64.ofInt x >>> ((Int32.ofInt y).toInt64 &&& 63)).toInt
  | _ => ((Int64.ofInt x).toUInt64 >>> ((Int32.ofInt y).toInt64.toUInt64 &&& Int64.toUInt64 63)).toInt64.toInt
def j_div (k : Nat) (x y : Int) : Int := match k with
  | 0 => j32 (x.tdiv y)
  | 1 => x.tmod y
  | 2 => j64 (x.tdiv y)
  | _ => x.tmod y
def j_un (k : Nat) (x : Int) : Int := match k with
  | 0 => j32 (-x)
  | 1 => j64 (-x)
  | 2 => x
  | 3 => j32 x
  | _ => ((Int32.ofInt x).toInt8.toInt32).toInt
def j_cmp (k : Nat) (x y : Int) : Bool := match k with
  | 0 => decide (x = y)
  | 1 => decide (x ≠ y)
  | 2 => decide (x < y)
  | 3 => decide (x ≥ y)
  | 4 => decide (x > y)
  | _ => decide (x ≤ y)
def j_b (b : Bool) : Int := if b then 1 else 0
def j_hd (x : List Int) : Int := x.headD 0
def j_up (h : XH) (o k : Nat) (v : Int) : XH := fun a b => if a = o ∧ b = k then v else h a b
def j_len (g : XS) (o : Nat) : Int := match g[o]? with
  | some (_, n, _) => (n : Int)
  | none => 0
def j_rf (g : XS) (o k : Nat) : Option Int := match g[o]? with
  | some (_, _, sl) => match sl[k]? with
    | some (_, r + 1) => some (r : Int)
    | _ => none
  | none => none
def j_setR (g : XS) (o k : Nat) (r : Nat) : XS := match g[o]? with
  | some (kd, n, sl) => match sl[k]? with
    | some (ty, _) => g.set o (kd, n, sl.set k (ty, r + 1))
    | none => g
  | none => g
def sx_n (x : SX) : Nat := match x with
  | .var n => n
  | _ => 0
def sx_l : SX → List Nat
  | .op (.var n) r => n :: sx_l r
  | _ => []
/-- a label: n / 2, less than 0 where n is odd -/
def sx_z (n : Nat) : Int := if n % 2 = 0 then ((n / 2 : Nat) : Int) else -((n / 2 + 1 : Nat) : Int)
abbrev XP : Type := Nat → List Int → XT → Option (Nat × List Int × XT)
abbrev XE : Type := List Int → XT → Option (List Int × XT)
abbrev XR : Type := List Int → XT → Option (Nat × List Int × List Int × XT)
section JEV
variable (xs : Nat → Int) (L : Nat) (ck : Nat → List Nat) (F : XP)
def n_aload (k : Nat) (A B : XE) : XE := fun en st => (A en st).bind fun x => (B en x.2).bind fun y =>
  match k with
  | 0 => if 0 ≤ j_hd y.1 ∧ j_hd y.1 < j_len y.2.1.1 (j_hd x.1).toNat then some ([y.2.2 (j_hd x.1).toNat (j_hd y.1).toNat], y.2) else none
  | 1 => if 0 ≤ j_hd y.1 ∧ j_hd y.1 < (L : Int) then some ([xs (j_hd y.1).toNat], y.2) else none
  | _ => if 0 ≤ j_hd y.1 ∧ j_hd y.1 < 24 then some ([j_hd y.1], y.2) else none
def n_alen (k : Nat) (A : XE) : XE := fun en st => (A en st).bind fun x =>
  match k with
  | 0 => some ([j_len x.2.1.1 (j_hd x.1).toNat], x.2)
  | 1 => some ([(L : Int)], x.2)
  | _ => some ([24], x.2)
def n_bin (op : Int → Int → Int) (A B : XE) : XE := fun en st => (A en st).bind fun x => (B en x.2).bind fun y => some ([op (j_hd x.1) (j_hd y.1)], y.2)
def n_cmp (op : Int → Int → Bool) (A B : XE) : XE := fun en st => (A en st).bind fun x => (B en x.2).bind fun y => some ([j_b (op (j_hd x.1) (j_hd y.1))], y.2)
def n_nz (B : XE) : XE := fun en st => (B en st).bind fun x => some ([j_b (decide (j_hd x.1 ≠ 0))], x.2)
def n_ife (A B C : XE) : XE := fun en st => (A en st).bind fun x => if j_hd x.1 = 0 then C en x.2 else B en x.2
def n_call (f : Nat) (A : XE) : XE := fun en st => (A en st).bind fun x => (F f x.1 x.2).bind fun r => if r.1 = 1 then some r.2 else none
/-- codeW, keptW of the Word -/
def n_wf (cW : Nat → Nat → Int) (k : Nat) (A : XE) : XE := fun en st => (A en st).bind fun x => some ([cW k (j_hd x.1).toNat], x.2)
def n_new (ci f : Nat) (A : XE) : XE := fun en st =>
  let o := st.1.1.length
  (A en ((st.1.1 ++ [(10 + ci, 0, (ck ci).map fun k => (k, 0))], st.1.2.1 + 1, st.1.2.2 + (ck ci).length), fun a b => if a = o then 0 else st.2 a b)).bind fun x =>
    (F f ((o : Int) :: x.1) x.2).bind fun r => if r.1 = 1 then some ([(o : Int)], r.2.2) else none
def n_newa (ty : Nat) (A : XE) : XE := fun en st => (A en st).bind fun x =>
  if 0 ≤ j_hd x.1 ∧ j_hd x.1 ≤ 67108864 then
    let o := x.2.1.1.length
    some ([(o : Int)], ((x.2.1.1 ++ [(ty, (j_hd x.1).toNat, [])], x.2.1.2.1 + 1, x.2.1.2.2 + (j_hd x.1).toNat), fun a b => if a = o then 0 else x.2.2 a b))
  else none
/-- the array that A answers, then a place of it gets B's value -/
def n_ainit (i : Nat) (A B : XE) : XE := fun en st => (A en st).bind fun x => (B en x.2).bind fun y =>
  if (i : Int) < j_len y.2.1.1 (j_hd x.1).toNat then some (x.1, (y.2.1, j_up y.2.2 (j_hd x.1).toNat i (j_hd y.1))) else none
def nodeE (cW : Nat → Nat → Int) (t : Nat) (a b c : SX) (A B C : XE) : XE := match t with
  | 1 => fun _ st => some ([if sx_n c = 0 then (sx_n a : Int) else -(sx_n a : Int)], st)
  | 3 => fun en st => some ([en.getD (sx_n a) 0], st)
  | 4 => fun en st => (A en st).bind fun x => some ([x.2.2 (j_hd x.1).toNat (sx_n b)], x.2)
  | 5 => fun en st => (A en st).bind fun x => (j_rf x.2.1.1 (j_hd x.1).toNat (sx_n b)).bind fun r => some ([r], x.2)
  | 7 => n_aload xs L (sx_n c) A B
  | 10 => n_alen L (sx_n c) A
  | 13 => n_wf cW (sx_n c) A
  | 14 => n_bin (j_iop (sx_n c)) A B
  | 15 => n_bin (j_lop (sx_n c)) A B
  | 16 => n_bin (j_lsh (sx_n c)) A B
  | 17 => fun en st => (A en st).bind fun x => (B en x.2).bind fun y => if j_hd y.1 = 0 then none else some ([j_div (sx_n c) (j_hd x.1) (j_hd y.1)], y.2)
  | 18 => fun en st => (A en st).bind fun x => some ([j_un (sx_n c) (j_hd x.1)], x.2)
  | 20 => n_cmp (j_cmp (sx_n c)) A B
  | 21 => fun en st => (A en st).bind fun x => some ([j_b (j_cmp (sx_n c) (j_hd x.1) 0)], x.2)
  | 22 => n_cmp (j_cmp (sx_n c)) A B
  | 23 => n_cmp (j_cmp (sx_n c)) A B
  | 24 => A
  | 25 => n_ife A (n_nz B) (fun _ st => some ([0], st))
  | 26 => n_ife A (fun _ st => some ([1], st)) (n_nz B)
  | 27 => fun en st => (A en st).bind fun x => some ([j_b (decide (j_hd x.1 = 0))], x.2)
  | 28 => n_ife A B C
  | 30 => fun en st => (A en st).bind fun x => (B en x.2).bind fun y => some (x.1 ++ y.1, y.2)
  | 31 => fun _ st => some ([], st)
  | 32 => n_call F (sx_n b) A
  | 34 => n_new ck F (sx_n b) (sx_n c) A
  | 35 => n_newa (sx_n b) A
  | 36 => n_ainit (sx_n c) A B
  | _ => fun _ _ => none
def evE (cW : Nat → Nat → Int) : SX → XE
  | .op (.var t) (.op a (.op b c)) => nodeE xs L ck F cW t a b c (evE cW a) (evE cW b) (evE cW c)
  | _ => fun _ _ => none
def s_seq (A B : XR) : XR := fun en st => (A en st).bind fun r => if r.1 = 0 then B r.2.2.1 r.2.2.2 else some r
def s_loop (C : XE) (B P : XR) : Nat → XR
  | 0 => fun _ _ => none
  | k + 1 => fun en st => (C en st).bind fun x => if j_hd x.1 = 0 then some (0, [], en, x.2) else
      (B en x.2).bind fun r =>
        if r.1 = 0 ∨ r.1 = 3 then (P r.2.2.1 r.2.2.2).bind fun q => if q.1 = 0 then s_loop C B P k q.2.2.1 q.2.2.2 else none
        else if r.1 = 2 then some (0, [], r.2.2.1, r.2.2.2) else some r
def s_do (B : XR) (C : XE) : Nat → XR
  | 0 => fun _ _ => none
  | k + 1 => fun en st => (B en st).bind fun r =>
      if r.1 = 0 ∨ r.1 = 3 then (C r.2.2.1 r.2.2.2).bind fun x => if j_hd x.1 = 0 then some (0, [], r.2.2.1, x.2) else s_do B C k r.2.2.1 x.2
      else if r.1 = 2 then some (0, [], r.2.2.1, r.2.2.2) else some r
def s_putf (k : Nat) (A B : XE) : XR := fun en st => (A en st).bind fun x => (B en x.2).bind fun y => some (0, [], en, (y.2.1, j_up y.2.2 (j_hd x.1).toNat k (j_hd y.1)))
def s_putfC (k op : Nat) (A B : XE) : XR := fun en st => (A en st).bind fun x => (B en x.2).bind fun y => some (0, [], en, (y.2.1, j_up y.2.2 (j_hd x.1).toNat k (j_iop op (x.2.2 (j_hd x.1).toNat k) (j_hd y.1))))
def s_ast (ty : Nat) (A B C : XE) : XR := fun en st => (A en st).bind fun x => (B en x.2).bind fun y => (C en y.2).bind fun z =>
  if 0 ≤ j_hd y.1 ∧ j_hd y.1 < j_len z.2.1.1 (j_hd x.1).toNat then some (0, [], en, (z.2.1, j_up z.2.2 (j_hd x.1).toNat (j_hd y.1).toNat (match ty with
    | 8 => ((Int32.ofInt (j_hd z.1)).toInt8.toInt32).toInt
    | 9 => (Int32.ofInt (j_hd z.1) &&& 1).toInt
    | _ => j_hd z.1))) else none
def s_astC (op : Nat) (A B C : XE) : XR := fun en st => (A en st).bind fun x => (B en x.2).bind fun y =>
  if 0 ≤ j_hd y.1 ∧ j_hd y.1 < j_len y.2.1.1 (j_hd x.1).toNat then (C en y.2).bind fun z =>
    if j_hd y.1 < j_len z.2.1.1 (j_hd x.1).toNat then some (0, [], en, (z.2.1, j_up z.2.2 (j_hd x.1).toNat (j_hd y.1).toNat (j_iop op (y.2.2 (j_hd x.1).toNat (j_hd y.1).toNat) (j_hd z.1)))) else none else none
def s_if (A : XE) (B C : XR) : XR := fun en st => (A en st).bind fun x => if j_hd x.1 = 0 then C en x.2 else B en x.2
def s_sw (A : XE) (B : XR) : XR := fun en st => (A en st).bind fun x => (B (j_hd x.1 :: en) x.2).bind fun r => if r.1 = 2 then some (0, r.2) else some r
/-- out[0] = f(..), caught: answers 1; else goes on -/
def s_try (f : Nat) (A B : XE) : XR := fun en st => (A en st).bind fun x => (B en x.2).bind fun y => (F f y.1 y.2).bind fun r =>
  if r.1 = 1 then (if 0 < j_len r.2.2.1.1 (j_hd x.1).toNat then some (0, [], en, (r.2.2.1, j_up r.2.2.2 (j_hd x.1).toNat 0 (j_hd r.2.1))) else none)
  else if r.1 = 4 then some (1, [1], en, r.2.2) else none
variable (K : Nat)
def nodeS (cW : Nat → Nat → Int) (t : Nat) (a b c : SX) (A B C : XR) : XR :=
  let e := evE xs L ck F cW
  match t with
  | 1 => fun en st => some (0, [], en, st)
  | 2 => s_seq A B
  | 3 => fun en st => (e b en st).bind fun x => some (0, [], en.set (sx_n a) (j_hd x.1), x.2)
  | 4 => fun en st => some (0, [], en.set (sx_n a) (j32 (en.getD (sx_n a) 0 + (if sx_n c = 0 then (sx_n b : Int) else -(sx_n b : Int)))), st)
  | 5 => s_putf (sx_n c) (e a) (e b)
  | 6 => s_putfC (sx_n c / 16) (sx_n c % 16) (e a) (e b)
  | 7 => match c with
    | .op (.var ty) v => s_ast ty (e a) (e b) (e v)
    | _ => fun _ _ => none
  | 8 => match c with
    | .op (.var op) v => s_astC op (e a) (e b) (e v)
    | _ => fun _ _ => none
  | 9 => fun en st => (e a en st).bind fun x => some (0, [], en, x.2)
  | 10 => s_if (e a) B (fun en st => some (0, [], en, st))
  | 11 => s_if (e a) B C
  | 12 => s_loop (e a) B C K
  | 13 => s_do B (e a) K
  | 14 => fun en st => some (2, [], en, st)
  | 15 => fun en st => some (3, [], en, st)
  | 16 => fun en st => (e a en st).bind fun x => some (1, x.1, en, x.2)
  | 27 => fun en st => (e a en st).bind fun x => if j_hd x.1 = 0 ∨ j_hd x.1 = 1 then some (1, x.1, en, x.2) else none
  | 17 => fun en st => some (1, [], en, st)
  | 18 => fun en st => some (4, [], en, ((st.1.1, st.1.2.1 + 1, st.1.2.2 + 6), st.2))
  | 19 => s_sw (e a) B
  | 20 => A
  | 21 => fun en st => (e a en st).bind fun x => (e b en x.2).bind fun y => some (0, [], en, ((j_setR y.2.1.1 (j_hd x.1).toNat (sx_n c) (j_hd y.1).toNat, y.2.1.2), y.2.2))
  | 22 => fun en st => some (0, [], en, st)
  | 23 => fun en st => (e a en st).bind fun x => (e b en x.2).bind fun y => if j_hd y.1 = 0 ∨ j_hd y.1 = 1 then some (0, [], en, (y.2.1, j_up y.2.2 (j_hd x.1).toNat (sx_n c) (j_hd y.1))) else none
  | 24 => s_try F (sx_n c) (e a) (e b)
  | 28 => s_if (e a) B (fun en st => some (2, [], en, st))
  | 25 => fun en st => if (sx_l a).any (fun n => decide (en.headD 0 = sx_z n)) then (B en.tail st).bind fun r => if r.1 = 0 then none else some r else C en st
  | 26 => fun en st => A en.tail st
  | _ => fun _ _ => none
def evS (cW : Nat → Nat → Int) : SX → XR
  | .op (.var t) (.op a (.op b c)) => nodeS xs L ck F K cW t a b c (evS cW a) (evS cW b) (evS cW c)
  | _ => fun _ _ => none
end JEV
def j_lay : List Nat → List Int → List Int
  | k :: ks, v :: vs => if k = 2 then v :: 0 :: j_lay ks vs else v :: j_lay ks vs
  | [], _ => []
  | _ :: _, [] => []
def j_layT : List Nat → List Nat
  | k :: ks => if k = 2 then 2 :: 0 :: j_layT ks else k :: j_layT ks
  | [] => []
def j_pad {α : Type} (z : α) (n : Nat) (l : List α) : List α := l ++ List.replicate (n - l.length) z
/-- a method: own class, maxLocals, kinds of its arguments, of its answer, body -/
abbrev XM : Type := Nat × Nat × List Nat × List Nat × SX
def evF (xs : Nat → Int) (L : Nat) (ck : Nat → List Nat) (K : Nat) (cW : Nat → Nat → Int) (M : Nat → XM) : Nat → XP
  | 0 => fun _ _ _ => none
  | n + 1 => fun f args st =>
    (evS xs L ck (evF xs L ck K cW M n) K cW (M f).2.2.2.2 (j_pad 0 (M f).2.1 (j_lay (M f).2.2.1 args)) st).bind fun r =>
      if (r.1 = 1 ∨ r.1 = 4) ∧ st.1.2.1 ≤ r.2.2.2.1.2.1 ∧ st.1.2.2 ≤ r.2.2.2.1.2.2 ∧ (st.1.1.map (·.1)).isPrefixOf (r.2.2.2.1.1.map (·.1)) = true then some (r.1, r.2.1, r.2.2.2) else none
end
section
/-! ===== the checker: does this bytecode do what that tree says ===== -/
/-- a field's kind: -1 a boolean's -/
def j_kd (v : Int) : Nat := if v = -1 then 1 else v.toNat
def a_const (lk : XK) : Instr → Option (Nat × Int)
  | .iconst n => if -1 ≤ n ∧ n ≤ 5 then some (1, n) else none
  | .bipush n => if -128 ≤ n ∧ n < 128 then some (1, n) else none
  | .sipush n => if -32768 ≤ n ∧ n < 32768 then some (1, n) else none
  | .lconst n => some (2, ((n : Nat) : Int))
  | .ldc i => match lk i with
    | some (3, _, _, v) => some (1, v)
    | _ => none
  | .ldc_w i => match lk i with
    | some (3, _, _, v) => some (1, v)
    | _ => none
  | .ldc2_w i => match lk i with
    | some (4, _, _, v) => some (2, v)
    | _ => none
  | .getstatic i => match lk i with
    | some (2, kd, _, v) => some (kd, v)
    | _ => none
  | _ => none
def a_load : Instr → Option (Nat × Nat)
  | .iload i => some (1, i)
  | .iload_n i => some (1, i.val)
  | .lload i => some (2, i)
  | .lload_n i => some (2, i.val)
  | .aload i => some (3, i)
  | .aload_n i => some (3, i.val)
  | _ => none
def a_store : Instr → Option (Nat × Nat)
  | .istore i => some (1, i)
  | .istore_n i => some (1, i.val)
  | .lstore i => some (2, i)
  | .lstore_n i => some (2, i.val)
  | .astore i => some (3, i)
  | .astore_n i => some (3, i.val)
  | _ => none
def a_getf (lk : XK) : Instr → Option (Nat × Nat × Nat × Int)
  | .getfield i => lk i
  | _ => none
def a_putf (lk : XK) : Instr → Option (Nat × Nat × Nat × Int)
  | .putfield i => lk i
  | _ => none
def a_new (lk : XK) : Instr → Option (Nat × Nat × Nat × Int)
  | .new i => lk i
  | _ => none
/-- which method, and by which instruction: 0 virtual, 1 static, 2 special -/
def a_call (lk : XK) : Instr → Option Nat
  | .invokevirtual i => match lk i with
    | some (6, f, 0, _) => some f
    | _ => none
  | .invokestatic i => match lk i with
    | some (6, f, 1, _) => some f
    | _ => none
  | .invokespecial i => match lk i with
    | some (6, f, 2, _) => some f
    | _ => none
  | _ => none
def a_ald : Instr → Option Nat
  | .iaload => some 6
  | .laload => some 7
  | .baload => some 8
  | .aaload => some 4
  | _ => none
def a_ast : Instr → Option Nat
  | .iastore => some 6
  | .lastore => some 7
  | .bastore => some 8
  | _ => none
def a_iop : Instr → Option Nat
  | .iadd => some 0
  | .isub => some 1
  | .imul => some 2
  | .iand => some 3
  | .ior => some 4
  | .ixor => some 5
  | .ishl => some 6
  | .ishr => some 7
  | .iushr => some 8
  | _ => none
def a_lop : Instr → Option Nat
  | .ladd => some 0
  | .lsub => some 1
  | .lmul => some 2
  | .land => some 3
  | .lor => some 4
  | _ => none
def a_lsh : Instr → Option Nat
  | .lshl => some 0
  | .lshr => some 1
  | .lushr => some 2
  | _ => none
/-- kind, number -/
def a_div : Instr → Option (Nat × Nat)
  | .idiv => some (1, 0)
  | .irem => some (1, 1)
  | .ldiv => some (2, 2)
  | .lrem => some (2, 3)
  | _ => none
/-- number, kind, kind behind it -/
def a_un : Instr → Option (Nat × Nat × Nat)
  | .ineg => some (0, 1, 1)
  | .lneg => some (1, 2, 2)
  | .i2l => some (2, 1, 2)
  | .l2i => some (3, 2, 1)
  | .i2b => some (4, 1, 1)
  | _ => none
def a_cn : Jvm.ClassFile.Cond → Nat
  | .eq => 0
  | .ne => 1
  | .lt => 2
  | .ge => 3
  | .gt => 4
  | .le => 5
def a_icmp : Instr → Option (Nat × Int)
  | .if_icmp q off => some (a_cn q, off)
  | _ => none
def a_if : Instr → Option (Nat × Int)
  | .ifCond q off => some (a_cn q, off)
  | _ => none
def a_acmp : Instr → Option (Nat × Int)
  | .if_acmp .eq off => some (0, off)
  | .if_acmp .ne off => some (1, off)
  | _ => none
def a_goto : Instr → Option Int
  | .goto off => some off
  | _ => none
def a_iinc : Instr → Option (Nat × Int)
  | .iinc i n => some (i, n)
  | _ => none
/-- an instruction without operands, by a number -/
def a_op0 : Instr → Nat
  | .dup => 1
  | .dup2 => 2
  | .pop => 3
  | .arraylength => 4
  | .lcmp => 5
  | .athrow => 6
  | .ireturn => 11
  | .lreturn => 12
  | .areturn => 13
  | .return_ => 14
  | _ => 0
def a_atype : Instr → Option Nat
  | .newarray .int => some 6
  | .newarray .long => some 7
  | .newarray .byte => some 8
  | .newarray .boolean => some 9
  | _ => none
def k_cl (k : Nat) : Nat := if k = 1 then 1 else if k = 2 then 2 else 3
def k_cat (k : Nat) : Nat := if k = 2 then 2 else 1
def k_cats (ks : List Nat) : Nat := (ks.map k_cat).sum
/-- which array kind an instruction that was told 8 may work at -/
def k_arr (told ty : Nat) : Bool := if told = 8 then ty == 8 || ty == 9 else ty == told
def k_elem (ty : Nat) : Nat := if ty = 7 then 2 else 1
def j_neg (k : Nat) : Nat := if k % 2 = 0 then k + 1 else k - 1
def j_tgt (pc : Nat) (off : Int) : Option Nat := if 0 ≤ (pc : Int) + off then some ((pc : Int) + off).toNat else none
def j_ultN (dec : XD) : Nat → Nat → Nat
  | 0, pc => pc
  | n + 1, pc => match (dec pc).bind (fun q => if q.2 = 3 then a_goto q.1 else none) with
    | some off => match j_tgt pc off with
      | some t => j_ultN dec n t
      | none => pc
    | none => pc
def j_ult (dec : XD) (pc : Nat) : Nat := j_ultN dec 5 pc
/-- the instruction there, as f reads it, and the next place -/
def c_ins {α : Type} (dec : XD) (pc : Nat) (f : Instr → Option α) : Option (α × Nat) := (dec pc).bind fun q => (f q.1).bind fun a => some (a, pc + q.2)
def c_op0 (dec : XD) (pc k : Nat) : Bool := match dec pc with
  | some (i, n) => a_op0 i == k && n == 1
  | none => false
def c_goto (dec : XD) (pc : Nat) : Bool := match c_ins dec pc a_goto with
  | some (_, n) => n == pc + 3
  | none => false
abbrev XN : Type := List Nat → Nat → Nat → Nat → Option (List Nat × Nat × List Nat)
def c_all (dec : XD) (ts : List Nat) (pc : Nat) : Bool := ts.all fun t => j_ult dec t == j_ult dec pc
def c_one (dec : XD) (lk : XK) (pc : Nat) (v : Int) : Bool := match c_ins dec pc (a_const lk) with
  | some ((kd, x), p) => kd == 1 && x == v && p == pc + 1
  | none => false
/-- a condition as a number: by a jump if it is false -/
def c_mat (dec : XD) (lk : XK) (r : Option (List Nat × Nat × List Nat)) : Option (List Nat × Nat × List Nat) := r.bind fun q =>
  if c_one dec lk q.2.1 1 && c_goto dec (q.2.1 + 1) && c_one dec lk (q.2.1 + 4) 0 && c_all dec q.2.2 (q.2.1 + 4) && j_ult dec (q.2.1 + 1) == j_ult dec (q.2.1 + 5)
  then some ([1], q.2.1 + 5, []) else none
/-- a jump: its sense, target -/
def c_br (dec : XD) (pc : Nat) (f : Instr → Option (Nat × Int)) (k md : Nat) : Option (Nat × List Nat) := (c_ins dec pc f).bind fun r =>
  (j_tgt pc r.1.2).bind fun t => if r.2 = pc + 3 ∧ ((md = 1 ∧ r.1.1 = j_neg k) ∨ (md = 2 ∧ r.1.1 = k)) ∧ k < 6 then some (r.2, [t]) else none
section JCK
variable (dec : XD) (lk : XK) (pk rk : Nat → List Nat) (thr : Nat → Bool)
def c_two (A B : XN) (ka kb : List Nat) (τ : List Nat) (d pc : Nat) : Option Nat := (A τ d 0 pc).bind fun r =>
  if r.1 = ka then (B τ (d + k_cats ka) 0 r.2.1).bind fun q => if q.1 = kb then some q.2.1 else none else none
def c_jmp (t : Nat) (c : SX) (A B C : XN) (τ : List Nat) (d md pc : Nat) : Option (List Nat × Nat × List Nat) := match t with
  | 20 => (c_two A B [1] [1] τ d pc).bind fun p => (c_br dec p a_icmp (sx_n c) md).bind fun r => some ([], r.1, r.2)
  | 21 => (A τ d 0 pc).bind fun q => if q.1 = [1] then (c_br dec q.2.1 a_if (sx_n c) md).bind fun r => some ([], r.1, r.2) else none
  | 22 => (c_two A B [2] [2] τ d pc).bind fun p => if c_op0 dec p 5 then (c_br dec (p + 1) a_if (sx_n c) md).bind fun r => some ([], r.1, r.2) else none
  | 23 => (c_two A B [3] [3] τ d pc).bind fun p => if sx_n c < 2 then (c_br dec p a_acmp (sx_n c) md).bind fun r => some ([], r.1, r.2) else none
  | 24 => (A τ d 0 pc).bind fun q => if q.1 = [1] then (c_br dec q.2.1 a_if 1 md).bind fun r => some ([], r.1, r.2) else none
  | 25 => (A τ d 1 pc).bind fun r => (B τ d md r.2.1).bind fun q =>
      if md = 1 then some ([], q.2.1, r.2.2 ++ q.2.2) else if md = 2 ∧ c_all dec r.2.2 q.2.1 = true then some ([], q.2.1, q.2.2) else none
  | 26 => (A τ d 2 pc).bind fun r => (B τ d md r.2.1).bind fun q =>
      if md = 2 then some ([], q.2.1, r.2.2 ++ q.2.2) else if md = 1 ∧ c_all dec r.2.2 q.2.1 = true then some ([], q.2.1, q.2.2) else none
  | 27 => if md = 1 then A τ d 2 pc else if md = 2 then A τ d 1 pc else none
  | 28 => (A τ d 1 pc).bind fun r => (B τ d 1 r.2.1).bind fun q => if c_goto dec q.2.1 && c_all dec r.2.2 (q.2.1 + 3) then
      (C τ d md (q.2.1 + 3)).bind fun u =>
        if md = 1 ∧ j_ult dec q.2.1 = j_ult dec u.2.1 then some ([], u.2.1, q.2.2 ++ u.2.2)
        else if md = 2 ∧ c_all dec q.2.2 u.2.1 = true then some ([], u.2.1, q.2.1 :: u.2.2) else none
      else none
  | _ => none
def c_val (t : Nat) (a b c : SX) (A B C : XN) (τ : List Nat) (d pc : Nat) : Option (List Nat × Nat × List Nat) := match t with
  | 1 => (c_ins dec pc (a_const lk)).bind fun r => if r.1.1 = sx_n b ∧ r.1.1 ≠ 0 ∧ r.1.2 = (if sx_n c = 0 then (sx_n a : Int) else -(sx_n a : Int)) then some ([r.1.1], r.2, []) else none
  | 3 => (c_ins dec pc a_load).bind fun r => (τ[sx_n a]?).bind fun kd => if r.1.2 = sx_n a ∧ kd ≠ 0 ∧ k_cl kd = r.1.1 then some ([kd], r.2, []) else none
  | 4 => (A τ d 0 pc).bind fun q => (c_ins dec q.2.1 (a_getf lk)).bind fun r =>
      if r.1.1 = 0 ∧ q.1 = [10 + r.1.2.1] ∧ r.1.2.2.1 = sx_n b ∧ r.2 = q.2.1 + 3 ∧ (r.1.2.2.2 = 1 ∨ r.1.2.2.2 = 2 ∨ r.1.2.2.2 = -1) then some ([j_kd r.1.2.2.2], r.2, []) else none
  | 5 => (A τ d 0 pc).bind fun q => (c_ins dec q.2.1 (a_getf lk)).bind fun r =>
      if r.1.1 = 0 ∧ q.1 = [10 + r.1.2.1] ∧ r.1.2.2.1 = sx_n b ∧ r.2 = q.2.1 + 3 ∧ 6 ≤ r.1.2.2.2 then some ([r.1.2.2.2.toNat], r.2, []) else none
  | 7 => (A τ d 0 pc).bind fun q => (B τ (d + 1) 0 q.2.1).bind fun r => (c_ins dec r.2.1 a_ald).bind fun u =>
      if r.1 = [1] ∧ u.2 = r.2.1 + 1 then match sx_n c with
        | 0 => match q.1 with
          | [ty] => if 6 ≤ ty ∧ ty < 10 ∧ k_arr u.1 ty = true then some ([k_elem ty], u.2, []) else none
          | _ => none
        | 1 => if q.1 = [5] ∧ u.1 = 6 then some ([1], u.2, []) else none
        | 2 => if q.1 = [4] ∧ u.1 = 4 then some ([3], u.2, []) else none
        | _ => none
      else none
  | 10 => (A τ d 0 pc).bind fun q => if c_op0 dec q.2.1 4 = true then match sx_n c with
        | 0 => match q.1 with
          | [ty] => if 6 ≤ ty ∧ ty < 10 then some ([1], q.2.1 + 1, []) else none
          | _ => none
        | 1 => if q.1 = [5] then some ([1], q.2.1 + 1, []) else none
        | 2 => if q.1 = [4] then some ([1], q.2.1 + 1, []) else none
        | _ => none
      else none
  | 13 => (A τ d 0 pc).bind fun q => (c_ins dec q.2.1 (a_getf lk)).bind fun r =>
      if r.1.1 = 1 ∧ q.1 = [3] ∧ r.1.2.2.1 = sx_n c ∧ r.2 = q.2.1 + 3 ∧ (r.1.2.2.2 = 1 ∨ r.1.2.2.2 = 2) then some ([r.1.2.2.2.toNat], r.2, []) else none
  | 14 => (c_two A B [1] [1] τ d pc).bind fun p => (c_ins dec p a_iop).bind fun r => if r.1 = sx_n c ∧ r.2 = p + 1 then some ([1], r.2, []) else none
  | 15 => (c_two A B [2] [2] τ d pc).bind fun p => (c_ins dec p a_lop).bind fun r => if r.1 = sx_n c ∧ r.2 = p + 1 then some ([2], r.2, []) else none
  | 16 => (c_two A B [2] [1] τ d pc).bind fun p => (c_ins dec p a_lsh).bind fun r => if r.1 = sx_n c ∧ r.2 = p + 1 then some ([2], r.2, []) else none
  | 17 => let k := if sx_n c < 2 then 1 else 2
      (c_two A B [k] [k] τ d pc).bind fun p => (c_ins dec p a_div).bind fun r => if r.1 = (k, sx_n c) ∧ r.2 = p + 1 then some ([k], r.2, []) else none
  | 18 => (A τ d 0 pc).bind fun q => (c_ins dec q.2.1 a_un).bind fun r => if q.1 = [r.1.2.1] ∧ r.1.1 = sx_n c ∧ r.2 = q.2.1 + 1 then some ([r.1.2.2], r.2, []) else none
  | 24 => (A τ d 0 pc).bind fun q => if q.1 = [1] then some ([1], q.2.1, []) else none
  | 28 => (A τ d 1 pc).bind fun r => (B τ d 0 r.2.1).bind fun q => if c_goto dec q.2.1 && c_all dec r.2.2 (q.2.1 + 3) then
      (C τ d 0 (q.2.1 + 3)).bind fun u => if q.1 = u.1 ∧ j_ult dec q.2.1 = j_ult dec u.2.1 then some (u.1, u.2.1, []) else none
      else none
  | 30 => (A τ d 0 pc).bind fun q => (B τ (d + k_cats q.1) 0 q.2.1).bind fun r => some (q.1 ++ r.1, r.2.1, [])
  | 31 => some ([], pc, [])
  | 32 => (A τ d 0 pc).bind fun q => (c_ins dec q.2.1 (a_call lk)).bind fun r =>
      if r.1 = sx_n b ∧ q.1 = pk r.1 ∧ thr r.1 = false ∧ d ≤ 8 ∧ r.2 = q.2.1 + 3 then some (rk r.1, r.2, []) else none
  | 34 => (c_ins dec pc (a_new lk)).bind fun r => if r.1.1 = 5 ∧ r.1.2.1 = sx_n b ∧ r.2 = pc + 3 ∧ c_op0 dec (pc + 3) 1 = true then
      (A τ (d + 2) 0 (pc + 4)).bind fun q => (c_ins dec q.2.1 (a_call lk)).bind fun u =>
        if u.1 = sx_n c ∧ pk u.1 = (10 + sx_n b) :: q.1 ∧ rk u.1 = [] ∧ thr u.1 = false ∧ d + 1 ≤ 8 ∧ u.2 = q.2.1 + 3 then some ([10 + sx_n b], u.2, []) else none
      else none
  | 35 => (A τ d 0 pc).bind fun q => (c_ins dec q.2.1 a_atype).bind fun r => if q.1 = [1] ∧ r.1 = sx_n b ∧ r.2 = q.2.1 + 2 then some ([r.1], r.2, []) else none
  | 36 => (A τ d 0 pc).bind fun q => match q.1 with
      | [ty] => if (ty = 6 ∨ ty = 7) ∧ c_op0 dec q.2.1 1 = true then
          (c_ins dec (q.2.1 + 1) (a_const lk)).bind fun r => if r.1 = (1, (sx_n c : Int)) then
            (B τ (d + 3) 0 r.2).bind fun u => (c_ins dec u.2.1 a_ast).bind fun w => if u.1 = [k_elem ty] ∧ w.1 = ty ∧ w.2 = u.2.1 + 1 then some ([ty], w.2, []) else none
          else none
        else none
      | _ => none
  | _ => none
/-- is it a condition, to be made a number where a number is wanted -/
def c_isC (t : Nat) : Bool := t == 20 || t == 21 || t == 22 || t == 23 || t == 25 || t == 26 || t == 27
def nodeC (t : Nat) (a b c : SX) (A B C : XN) : XN := fun τ d md pc =>
  if md = 0 then (if c_isC t then c_mat dec lk (c_jmp dec t c A B C τ d 1 pc) else c_val dec lk pk rk thr t a b c A B C τ d pc)
  else c_jmp dec t c A B C τ d md pc
def chE : SX → XN
  | .op (.var t) (.op a (.op b c)) => nodeC dec lk pk rk thr t a b c (chE a) (chE b) (chE c)
  | _ => fun _ _ _ _ => none
variable (lp : XK) (rt : List Nat) (rz : Bool) (hnd : Nat → Option (Nat × Nat))
abbrev XG : Type := List Nat → List Nat → List Nat → Nat → Option (List Nat × Nat × Bool × List Nat × List Nat)
def k_sub (τ τ' : List Nat) : Bool := τ.length == τ'.length && (List.range τ.length).all fun i => τ.getD i 0 == 0 || τ.getD i 0 == τ'.getD i 0
/-- may kind kd be laid at slot i -/
def k_fit (τ : List Nat) (i kd : Nat) : Bool := decide (i < τ.length) && kd != 0 && (τ.getD i 0 == 0 || τ.getD i 0 == kd) && (i == 0 || τ.getD (i - 1) 0 != 2) && (kd != 2 || (decide (i + 1 < τ.length) && τ.getD (i + 1) 0 == 0))
/-- a switch: where label v goes -/
def c_swT (pc : Nat) (v : Int) : Option Nat := (dec pc).bind fun q => match q.1 with
  | .tableswitch df lo hi offs => if v < lo ∨ hi < v then j_tgt pc df else (offs[(v - lo).toNat]?).bind fun o => j_tgt pc o
  | .lookupswitch df ps => j_tgt pc (Op.lookupswitch.offset ps.toList df v)
  | _ => none
def c_swOk (pc : Nat) : Bool := match dec pc with
  | some (.tableswitch _ _ _ _, _) => true
  | some (.lookupswitch _ ps, _) => (ps.toList.zip (ps.toList.drop 1)).all fun (a, next) => decide (a.1 < next.1)
  | _ => false
def c_swD (pc : Nat) : Option Nat := (dec pc).bind fun q => match q.1 with
  | .tableswitch df _ _ _ => j_tgt pc df
  | .lookupswitch df _ => j_tgt pc df
  | _ => none
def c_swL (pc : Nat) : List Int := match dec pc with
  | some (.tableswitch _ lo hi _, _) => (List.range (hi - lo + 1).toNat).map fun (i : Nat) => lo + (i : Int)
  | some (.lookupswitch _ ps, _) => ps.toList.map (·.1)
  | _ => []
def sx_cases : SX → Bool
  | .op (.var 25) (.op _ (.op _ c)) => sx_cases c
  | .op (.var 26) _ => true
  | _ => false
def k_ok (τ : List Nat) : Bool := decide (τ.headD 0 < 500)
def sx_all : SX → List Nat
  | .op (.var 25) (.op a (.op _ c)) => sx_l a ++ sx_all c
  | _ => []
def c_throw (pc : Nat) : Bool := match c_ins dec pc (a_new lk) with
  | some ((8, _), p) => p == pc + 3 && c_op0 dec (pc + 3) 1 && c_op0 dec (pc + 7) 6 && (match dec (pc + 4) with
    | some (.invokespecial i, n) => n == 3 && (match lk i with
      | some (9, _) => true
      | _ => false)
    | _ => false)
  | _ => false
def nodeG (t : Nat) (a b c : SX) (A B C : XG) : XG := fun τ τB τC pc =>
  let e := chE dec lk pk rk thr
  match t with
  | 1 => some (τ, pc, true, [], [])
  | 2 => (A τ τB τC pc).bind fun r => if r.2.2.1 then (B r.1 τB τC r.2.1).bind fun q => some (q.1, q.2.1, q.2.2.1, r.2.2.2.1 ++ q.2.2.2.1, r.2.2.2.2 ++ q.2.2.2.2) else none
  | 3 => (e b τ 0 0 pc).bind fun r => match r.1 with
      | [kd] => (c_ins dec r.2.1 a_store).bind fun q => if q.1 = (k_cl kd, sx_n a) ∧ k_fit τ (sx_n a) kd = true ∧ kd < 500 then some (τ.set (sx_n a) kd, q.2, true, [], []) else none
      | _ => none
  | 4 => (c_ins dec pc a_iinc).bind fun r => if r.1 = (sx_n a, (if sx_n c = 0 then (sx_n b : Int) else -(sx_n b : Int))) ∧ τ[sx_n a]? = some 1 ∧ (r.2 = pc + 3 ∨ r.2 = pc + 6) then some (τ, r.2, true, [], []) else none
  | 5 => (e a τ 0 0 pc).bind fun q => (e b τ 1 0 q.2.1).bind fun r => (c_ins dec r.2.1 (a_putf lp)).bind fun u =>
      if u.1.1 = 0 ∧ q.1 = [10 + u.1.2.1] ∧ u.1.2.2.1 = sx_n c ∧ u.2 = r.2.1 + 3 ∧ (u.1.2.2.2 = 1 ∨ u.1.2.2.2 = 2) ∧ r.1 = [u.1.2.2.2.toNat] then some (τ, u.2, true, [], []) else none
  | 6 => (e a τ 0 0 pc).bind fun q => if c_op0 dec q.2.1 1 = true then (c_ins dec (q.2.1 + 1) (a_getf lk)).bind fun g =>
      if g.1.1 = 0 ∧ q.1 = [10 + g.1.2.1] ∧ g.1.2.2.1 = sx_n c / 16 ∧ g.2 = q.2.1 + 4 ∧ g.1.2.2.2 = 1 then
        (e b τ 2 0 g.2).bind fun r => (c_ins dec r.2.1 a_iop).bind fun o => (c_ins dec o.2 (a_putf lp)).bind fun u =>
          if r.1 = [1] ∧ o.1 = sx_n c % 16 ∧ o.2 = r.2.1 + 1 ∧ u.1 = g.1 ∧ u.2 = o.2 + 3 then some (τ, u.2, true, [], []) else none
      else none else none
  | 7 => match c with
      | .op (.var ty) v => (e a τ 0 0 pc).bind fun q => (e b τ 1 0 q.2.1).bind fun r => (e v τ 2 0 r.2.1).bind fun u => (c_ins dec u.2.1 a_ast).bind fun w =>
          if 6 ≤ ty ∧ ty < 10 ∧ q.1 = [ty] ∧ r.1 = [1] ∧ u.1 = [k_elem ty] ∧ k_arr w.1 ty = true ∧ w.2 = u.2.1 + 1 then some (τ, w.2, true, [], []) else none
      | _ => none
  | 8 => match c with
      | .op (.var op) v => (e a τ 0 0 pc).bind fun q => (e b τ 1 0 q.2.1).bind fun r => if c_op0 dec r.2.1 2 = true then (c_ins dec (r.2.1 + 1) a_ald).bind fun g =>
          if q.1 = [6] ∧ r.1 = [1] ∧ g.1 = 6 ∧ g.2 = r.2.1 + 2 then (e v τ 3 0 g.2).bind fun u => (c_ins dec u.2.1 a_iop).bind fun o => (c_ins dec o.2 a_ast).bind fun w =>
            if u.1 = [1] ∧ o.1 = op ∧ o.2 = u.2.1 + 1 ∧ w.1 = 6 ∧ w.2 = o.2 + 1 then some (τ, w.2, true, [], []) else none
          else none else none
      | _ => none
  | 9 => (e a τ 0 0 pc).bind fun q => match q.1 with
      | [] => some (τ, q.2.1, true, [], [])
      | [k] => if k ≠ 2 ∧ c_op0 dec q.2.1 3 = true then some (τ, q.2.1 + 1, true, [], []) else none
      | _ => none
  | 10 => (e a τ 0 1 pc).bind fun q => (B τ τB τC q.2.1).bind fun r => if k_sub τ r.1 = true ∧ c_all dec q.2.2 r.2.1 = true then some (τ, r.2.1, true, r.2.2.2) else none
  | 11 => (e a τ 0 1 pc).bind fun q => (B τ τB τC q.2.1).bind fun r => if k_sub τ r.1 = true ∧ (r.2.2.1 = true → c_goto dec r.2.1 = true) ∧ c_all dec q.2.2 (if r.2.2.1 then r.2.1 + 3 else r.2.1) = true then
      (C τ τB τC (if r.2.2.1 then r.2.1 + 3 else r.2.1)).bind fun u => if k_sub τ u.1 = true ∧ (r.2.2.1 = true → j_ult dec r.2.1 = j_ult dec u.2.1) then
        some (τ, u.2.1, r.2.2.1 || u.2.2.1, r.2.2.2.1 ++ u.2.2.2.1, r.2.2.2.2 ++ u.2.2.2.2) else none
      else none
  | 12 => (e a τ 0 1 pc).bind fun q => (B τ τ τ q.2.1).bind fun r => (C τ [] [] r.2.1).bind fun u =>
      if k_sub τ r.1 = true ∧ k_sub τ u.1 = true ∧ u.2.2 = (true, [], []) ∧ c_goto dec u.2.1 = true ∧ j_ult dec u.2.1 = j_ult dec pc ∧ c_all dec q.2.2 (u.2.1 + 3) = true ∧ c_all dec r.2.2.2.1 (u.2.1 + 3) = true ∧ c_all dec r.2.2.2.2 r.2.1 = true
      then some (τ, u.2.1 + 3, true, [], []) else none
  | 13 => (B τ τ τ pc).bind fun r => (e a τ 0 2 r.2.1).bind fun q =>
      if k_sub τ r.1 = true ∧ c_all dec q.2.2 pc = true ∧ c_all dec r.2.2.2.1 q.2.1 = true ∧ c_all dec r.2.2.2.2 r.2.1 = true then some (τ, q.2.1, true, [], []) else none
  | 14 => if k_sub τB τ = true then some (τ, if c_goto dec pc then pc + 3 else pc, false, [pc], []) else none
  | 15 => if k_sub τC τ = true then some (τ, if c_goto dec pc then pc + 3 else pc, false, [], [pc]) else none
  | 16 => (e a τ 0 0 pc).bind fun q => match q.1 with
      | [kd] => if kd ≠ 0 ∧ rt = [kd] ∧ rz = false ∧ c_op0 dec q.2.1 (10 + k_cl kd) = true then some (τ, q.2.1 + 1, false, [], []) else none
      | _ => none
  | 27 => (e a τ 0 0 pc).bind fun q => if q.1 = [1] ∧ rt = [1] ∧ rz = true ∧ c_op0 dec q.2.1 11 = true then some (τ, q.2.1 + 1, false, [], []) else none
  | 17 => if rt = [] ∧ c_op0 dec pc 14 = true then some (τ, pc + 1, false, [], []) else none
  | 18 => if c_throw dec lk pc = true then some (τ, pc + 8, false, [], []) else none
  | 19 => (e a τ 0 0 pc).bind fun q => (dec q.2.1).bind fun w => (c_swD dec q.2.1).bind fun df => (B ((500 + q.2.1) :: τ) τ τC (q.2.1 + w.2)).bind fun r =>
      if q.1 = [1] ∧ c_swOk dec q.2.1 = true ∧ sx_cases b = true ∧ c_all dec r.2.2.2.1 r.2.1 = true ∧ ((c_swL dec q.2.1).all fun v => (sx_all b).any (fun n => decide (v = sx_z n)) || c_swT dec q.2.1 v == some df) = true
      then some (τ, r.2.1, r.2.2.1 || !r.2.2.2.1.isEmpty, [], r.2.2.2.2) else none
  | 20 => (A τ τB τC pc).bind fun r => if k_sub τ r.1 = true then some (τ, r.2) else none
  | 21 => (e a τ 0 0 pc).bind fun q => (e b τ 1 0 q.2.1).bind fun r => (c_ins dec r.2.1 (a_putf lp)).bind fun u =>
      if u.1.1 = 0 ∧ q.1 = [10 + u.1.2.1] ∧ u.1.2.2.1 = sx_n c ∧ u.2 = r.2.1 + 3 ∧ 6 ≤ u.1.2.2.2 ∧ r.1 = [u.1.2.2.2.toNat] then some (τ, u.2, true, [], []) else none
  | 22 => (c_ins dec pc a_load).bind fun r => match dec r.2 with
      | some (.invokespecial i, 3) => if r.1 = (3, 0) ∧ 10 ≤ τ.getD 0 0 ∧ (match lk i with
          | some (10, _) => true
          | _ => false) = true then some (τ, r.2 + 3, true, [], []) else none
      | _ => none
  | 23 => (e a τ 0 0 pc).bind fun q => (e b τ 1 0 q.2.1).bind fun r => (c_ins dec r.2.1 (a_putf lp)).bind fun u =>
      if u.1.1 = 0 ∧ q.1 = [10 + u.1.2.1] ∧ u.1.2.2.1 = sx_n c ∧ u.2 = r.2.1 + 3 ∧ u.1.2.2.2 = -1 ∧ r.1 = [1] then some (τ, u.2, true, [], []) else none
  | 24 => (e a τ 0 0 pc).bind fun q => if q.1 = [7] ∧ c_one dec lk q.2.1 0 = true then (e b τ 2 0 (q.2.1 + 1)).bind fun r => (c_ins dec r.2.1 (a_call lk)).bind fun u => (hnd r.2.1).bind fun z =>
      if u.1 = sx_n c ∧ u.2 = r.2.1 + 3 ∧ r.1 = pk u.1 ∧ rk u.1 = [1] ∧ thr u.1 = true ∧ rt = [1] ∧ rz = false ∧ τ.getD z.2 0 = 0 ∧ k_fit τ z.2 3 = true ∧ c_ins dec (r.2.1 + 3) a_un = some ((2, 1, 2), r.2.1 + 4) ∧ c_ins dec (r.2.1 + 4) a_ast = some (7, r.2.1 + 5) ∧
        j_ult dec (r.2.1 + 5) = j_ult dec (z.1 + 2) ∧ c_one dec lk z.1 1 = true ∧ c_op0 dec (z.1 + 1) 11 = true
      then some (τ, z.1 + 2, true, [], []) else none else none
  | 28 => (e a τ 0 1 pc).bind fun q => (B τ τB τC q.2.1).bind fun r => if r.2.2.1 = false ∧ q.2.2 ≠ [] ∧ k_sub τB τ = true then some (τ, r.2.1, false, q.2.2 ++ r.2.2.2.1, r.2.2.2.2) else none
  | 25 => match τ with
      | sw :: τ1 => if 500 ≤ sw ∧ ((sx_l a).all fun n => c_swT dec (sw - 500) (sx_z n) == some pc) = true then (B τ1 τB τC pc).bind fun r => if r.2.2.1 = false then
          (C τ τB τC r.2.1).bind fun q => some (τ, q.2.1, q.2.2.1, r.2.2.2.1 ++ q.2.2.2.1, r.2.2.2.2 ++ q.2.2.2.2) else none else none
      | [] => none
  | 26 => match τ with
      | sw :: τ1 => if 500 ≤ sw ∧ c_swD dec (sw - 500) = some pc then (A τ1 τB τC pc).bind fun r => if k_sub τ1 r.1 = true then some (τ, r.2) else none else none
      | [] => none
  | _ => none
def chS : SX → XG
  | .op (.var t) (.op a (.op b c)) => nodeG dec lk pk rk thr lp rt rz hnd t a b c (chS a) (chS b) (chS c)
  | _ => fun _ _ _ _ => none
end JCK
end
section
/-! ===== the checker is right: expressions ===== -/
theorem j_if {α : Type} {c : Prop} [Decidable c] {a b : α} (h : (if c then some a else none) = some b) : c ∧ a = b := by
  split at h
  · exact ⟨by assumption, Option.some.inj h⟩
  · cases h
theorem j_ifx {α : Type} {c : Prop} [Decidable c] {a : Option α} {b : α} (h : (if c then a else none) = some b) : c ∧ a = some b := by
  split at h
  · exact ⟨by assumption, h⟩
  · cases h
theorem j_bd {α β : Type} {o : Option α} {f : α → Option β} {b : β} (h : o.bind f = some b) : ∃ a, o = some a ∧ f a = some b := Option.bind_eq_some_iff.mp h
theorem k_cats_app (a b : List Nat) : k_cats (a ++ b) = k_cats a + k_cats b := by simp [k_cats]
theorem k_cats_zip {ks : List Nat} {x : List Int} (h : x.length = ks.length) : ((ks.zip x).map (·.1)) = ks := by
  induction ks generalizing x with
  | nil => simp
  | cons k ks ih =>
    cases x with
    | nil => simp at h
    | cons v x => simp at h; simpa using ih h
theorem k_cats_rz {ks : List Nat} {x : List Int} (h : x.length = ks.length) (S : List (Nat × Int)) : k_cats (((ks.zip x).reverse ++ S).map (·.1)) = k_cats ks + k_cats (S.map (·.1)) := by
  rw [List.map_append, k_cats_app, List.map_reverse]
  have e := k_cats_zip h
  rw [e]
  simp [k_cats, List.sum_reverse]
theorem j_z1 {x : List Int} {k : Nat} (h : x.length = [k].length) : x = [j_hd x] := by
  match x, h with
  | [v], _ => rfl
def XClo (dec : XD) (lk lp : XK) (pk rk : Nat → List Nat) (thr : Nat → Bool) (rt : List Nat) (rz : Bool) (xs : Nat → Int) (L : Nat) (ck : Nat → List Nat) (F : XP) (cW : Nat → Nat → Int) (hnd : Nat → Option (Nat × Nat)) (R : List Int → XT → Prop) (X : XT → Prop)
    (J : Nat → List Nat → List Int → List (Nat × Int) → XT → Prop) : Prop :=
  (∀ pc p kv τ en S st, c_ins dec pc (a_const lk) = some (kv, p) → kv.1 ≠ 0 → J (j_ult dec p) τ en (kv :: S) st → J (j_ult dec pc) τ en S st) ∧
  (∀ pc p cl i kd τ en S st, c_ins dec pc a_load = some ((cl, i), p) → τ[i]? = some kd → kd ≠ 0 → k_cl kd = cl → en.length = τ.length → J (j_ult dec p) τ en ((kd, en.getD i 0) :: S) st → J (j_ult dec pc) τ en S st) ∧
  (∀ pc p i kd v τ en S st, c_ins dec pc a_store = some ((k_cl kd, i), p) → k_fit τ i kd = true → en.length = τ.length → J (j_ult dec p) (τ.set i kd) (en.set i v) S st → J (j_ult dec pc) τ en ((kd, v) :: S) st) ∧
  (∀ pc p i n τ en S st, c_ins dec pc a_iinc = some ((i, n), p) → τ[i]? = some 1 → (p = pc + 3 ∨ p = pc + 6) → en.length = τ.length → J (j_ult dec p) τ (en.set i (j32 (en.getD i 0 + n))) S st → J (j_ult dec pc) τ en S st) ∧
  (∀ pc ci k kd o τ en S st, c_ins dec pc (a_getf lk) = some ((0, ci, k, kd), pc + 3) → (kd = 1 ∨ kd = 2 ∨ kd = -1) → J (j_ult dec (pc + 3)) τ en ((j_kd kd, st.2 o.toNat k) :: S) st → J (j_ult dec pc) τ en ((10 + ci, o) :: S) st) ∧
  (∀ pc ci k kd o r τ en S st, c_ins dec pc (a_getf lk) = some ((0, ci, k, kd), pc + 3) → 6 ≤ kd → j_rf st.1.1 o.toNat k = some r → J (j_ult dec (pc + 3)) τ en ((kd.toNat, r) :: S) st → J (j_ult dec pc) τ en ((10 + ci, o) :: S) st) ∧
  (∀ pc w ty i o τ en S st, c_ins dec pc a_ald = some (w, pc + 1) → 6 ≤ ty → ty < 10 → k_arr w ty = true → 0 ≤ i → i < j_len st.1.1 o.toNat → J (j_ult dec (pc + 1)) τ en ((k_elem ty, st.2 o.toNat i.toNat) :: S) st → J (j_ult dec pc) τ en ((1, i) :: (ty, o) :: S) st) ∧
  (∀ pc i o τ en S st, c_ins dec pc a_ald = some (6, pc + 1) → 0 ≤ i → i < (L : Int) → J (j_ult dec (pc + 1)) τ en ((1, xs i.toNat) :: S) st → J (j_ult dec pc) τ en ((1, i) :: (5, o) :: S) st) ∧
  (∀ pc i o τ en S st, c_ins dec pc a_ald = some (4, pc + 1) → 0 ≤ i → i < 24 → J (j_ult dec (pc + 1)) τ en ((3, i) :: S) st → J (j_ult dec pc) τ en ((1, i) :: (4, o) :: S) st) ∧
  (∀ pc ty o τ en S st, c_op0 dec pc 4 = true → 6 ≤ ty → ty < 10 → J (j_ult dec (pc + 1)) τ en ((1, j_len st.1.1 o.toNat) :: S) st → J (j_ult dec pc) τ en ((ty, o) :: S) st) ∧
  (∀ pc o τ en S st, c_op0 dec pc 4 = true → J (j_ult dec (pc + 1)) τ en ((1, (L : Int)) :: S) st → J (j_ult dec pc) τ en ((5, o) :: S) st) ∧
  (∀ pc o τ en S st, c_op0 dec pc 4 = true → J (j_ult dec (pc + 1)) τ en ((1, 24) :: S) st → J (j_ult dec pc) τ en ((4, o) :: S) st) ∧
  (∀ pc y k kd o τ en S st, c_ins dec pc (a_getf lk) = some ((1, y, k, kd), pc + 3) → (kd = 1 ∨ kd = 2) → J (j_ult dec (pc + 3)) τ en ((kd.toNat, cW k o.toNat) :: S) st → J (j_ult dec pc) τ en ((3, o) :: S) st) ∧
  (∀ pc k x y τ en S st, c_ins dec pc a_iop = some (k, pc + 1) → J (j_ult dec (pc + 1)) τ en ((1, j_iop k x y) :: S) st → J (j_ult dec pc) τ en ((1, y) :: (1, x) :: S) st) ∧
  (∀ pc k x y τ en S st, c_ins dec pc a_lop = some (k, pc + 1) → J (j_ult dec (pc + 1)) τ en ((2, j_lop k x y) :: S) st → J (j_ult dec pc) τ en ((2, y) :: (2, x) :: S) st) ∧
  (∀ pc k x y τ en S st, c_ins dec pc a_lsh = some (k, pc + 1) → J (j_ult dec (pc + 1)) τ en ((2, j_lsh k x y) :: S) st → J (j_ult dec pc) τ en ((1, y) :: (2, x) :: S) st) ∧
  (∀ pc kd k x y τ en S st, c_ins dec pc a_div = some ((kd, k), pc + 1) → y ≠ 0 → J (j_ult dec (pc + 1)) τ en ((kd, j_div k x y) :: S) st → J (j_ult dec pc) τ en ((kd, y) :: (kd, x) :: S) st) ∧
  (∀ pc k k1 k2 x τ en S st, c_ins dec pc a_un = some ((k, k1, k2), pc + 1) → J (j_ult dec (pc + 1)) τ en ((k2, j_un k x) :: S) st → J (j_ult dec pc) τ en ((k1, x) :: S) st) ∧
  (∀ pc k off t x y τ en S st, c_ins dec pc a_icmp = some ((k, off), pc + 3) → j_tgt pc off = some t → (j_cmp k x y = true → J (j_ult dec t) τ en S st) → (j_cmp k x y = false → J (j_ult dec (pc + 3)) τ en S st) → J (j_ult dec pc) τ en ((1, y) :: (1, x) :: S) st) ∧
  (∀ pc k off t x τ en S st, c_ins dec pc a_if = some ((k, off), pc + 3) → j_tgt pc off = some t → (j_cmp k x 0 = true → J (j_ult dec t) τ en S st) → (j_cmp k x 0 = false → J (j_ult dec (pc + 3)) τ en S st) → J (j_ult dec pc) τ en ((1, x) :: S) st) ∧
  (∀ pc k off t x y τ en S st, c_op0 dec pc 5 = true → c_ins dec (pc + 1) a_if = some ((k, off), pc + 1 + 3) → j_tgt (pc + 1) off = some t → (j_cmp k x y = true → J (j_ult dec t) τ en S st) → (j_cmp k x y = false → J (j_ult dec (pc + 1 + 3)) τ en S st) → J (j_ult dec pc) τ en ((2, y) :: (2, x) :: S) st) ∧
  (∀ pc k off t x y τ en S st, c_ins dec pc a_acmp = some ((k, off), pc + 3) → j_tgt pc off = some t → (j_cmp k x y = true → J (j_ult dec t) τ en S st) → (j_cmp k x y = false → J (j_ult dec (pc + 3)) τ en S st) → J (j_ult dec pc) τ en ((3, y) :: (3, x) :: S) st) ∧
  (∀ pc f args r τ en S st st', c_ins dec pc (a_call lk) = some (f, pc + 3) → thr f = false → F f args st = some (1, r, st') → args.length = (pk f).length → k_cats (S.map (·.1)) ≤ 8 → J (j_ult dec (pc + 3)) τ en (((rk f).zip r).reverse ++ S) st' → J (j_ult dec pc) τ en (((pk f).zip args).reverse ++ S) st) ∧
  (∀ pc ci y τ en S st, c_ins dec pc (a_new lk) = some ((5, ci, y), pc + 3) → J (j_ult dec (pc + 3)) τ en ((10 + ci, (st.1.1.length : Int)) :: S) ((st.1.1 ++ [(10 + ci, 0, (ck ci).map fun k => (k, 0))], st.1.2.1 + 1, st.1.2.2 + (ck ci).length), fun a b => if a = st.1.1.length then 0 else st.2 a b) → J (j_ult dec pc) τ en S st) ∧
  (∀ pc ty n τ en S st, c_ins dec pc a_atype = some (ty, pc + 2) → 0 ≤ n → n ≤ 67108864 → J (j_ult dec (pc + 2)) τ en ((ty, (st.1.1.length : Int)) :: S) ((st.1.1 ++ [(ty, n.toNat, [])], st.1.2.1 + 1, st.1.2.2 + n.toNat), fun a b => if a = st.1.1.length then 0 else st.2 a b) → J (j_ult dec pc) τ en ((1, n) :: S) st) ∧
  (∀ pc e τ en S st, c_op0 dec pc 1 = true → e.1 ≠ 2 → J (j_ult dec (pc + 1)) τ en (e :: e :: S) st → J (j_ult dec pc) τ en (e :: S) st) ∧
  (∀ pc e f τ en S st, c_op0 dec pc 2 = true → e.1 ≠ 2 → f.1 ≠ 2 → J (j_ult dec (pc + 1)) τ en (e :: f :: e :: f :: S) st → J (j_ult dec pc) τ en (e :: f :: S) st) ∧
  (∀ pc e τ en S st, c_op0 dec pc 3 = true → e.1 ≠ 2 → J (j_ult dec (pc + 1)) τ en S st → J (j_ult dec pc) τ en (e :: S) st) ∧
  (∀ pc ci k kd o v τ en S st, c_ins dec pc (a_putf lp) = some ((0, ci, k, kd), pc + 3) → (kd = 1 ∨ kd = 2) → J (j_ult dec (pc + 3)) τ en S (st.1, j_up st.2 o.toNat k v) → J (j_ult dec pc) τ en ((kd.toNat, v) :: (10 + ci, o) :: S) st) ∧
  (∀ pc ci k kd o v τ en S st, c_ins dec pc (a_putf lp) = some ((0, ci, k, kd), pc + 3) → 6 ≤ kd → J (j_ult dec (pc + 3)) τ en S ((j_setR st.1.1 o.toNat k v.toNat, st.1.2), st.2) → J (j_ult dec pc) τ en ((kd.toNat, v) :: (10 + ci, o) :: S) st) ∧
  (∀ pc w ty i o v τ en S st, c_ins dec pc a_ast = some (w, pc + 1) → 6 ≤ ty → ty < 10 → k_arr w ty = true → 0 ≤ i → i < j_len st.1.1 o.toNat → J (j_ult dec (pc + 1)) τ en S (st.1, j_up st.2 o.toNat i.toNat (match ty with
    | 8 => ((Int32.ofInt v).toInt8.toInt32).toInt
    | 9 => (Int32.ofInt v &&& 1).toInt
    | _ => v)) → J (j_ult dec pc) τ en ((k_elem ty, v) :: (1, i) :: (ty, o) :: S) st) ∧
  (∀ pc kd v τ en st, rt = [kd] → rz = false → kd ≠ 0 → c_op0 dec pc (10 + k_cl kd) = true → R [v] st → J (j_ult dec pc) τ en [(kd, v)] st) ∧
  (∀ pc τ en st, rt = [] → c_op0 dec pc 14 = true → R [] st → J (j_ult dec pc) τ en [] st) ∧
  (∀ pc τ en (st : XT), c_throw dec lk pc = true → X ((st.1.1, st.1.2.1 + 1, st.1.2.2 + 6), st.2) → J (j_ult dec pc) τ en [] st) ∧
  (∀ pc i z kd o τ en (S : List (Nat × Int)) st, S = [] → dec pc = some (.invokespecial i, 3) → lk i = some (10, z) → 10 ≤ kd → J (j_ult dec (pc + 3)) τ en S st → J (j_ult dec pc) τ en ((kd, o) :: S) st) ∧
  (∀ pc v t τ en S st, c_swOk dec pc = true → c_swT dec pc v = some t → J (j_ult dec t) τ en S st → J (j_ult dec pc) τ en ((1, v) :: S) st) ∧
  (∀ pc τ τ' en S st, k_sub τ τ' = true → J pc τ en S st → J pc τ' en S st) ∧
  (∀ f args r st st', F f args st = some (1, r, st') → r.length = (rk f).length) ∧
  (∀ pc f args r τ en S st c st' q k, c_ins dec pc (a_call lk) = some (f, pc + 3) → thr f = true → hnd pc = some (q, k) → τ.getD k 0 = 0 → k_fit τ k 3 = true → F f args st = some (c, r, st') → args.length = (pk f).length → k_cats (S.map (·.1)) ≤ 8 → (c = 1 → J (j_ult dec (pc + 3)) τ en (((rk f).zip r).reverse ++ S) st') → (c = 4 → J (j_ult dec q) τ en [] st') → (c = 1 ∨ c = 4) → J (j_ult dec pc) τ en (((pk f).zip args).reverse ++ S) st) ∧
  (∀ pc ci k o v τ en S st, c_ins dec pc (a_putf lp) = some ((0, ci, k, -1), pc + 3) → (v = 0 ∨ v = 1) → J (j_ult dec (pc + 3)) τ en S (st.1, j_up st.2 o.toNat k v) → J (j_ult dec pc) τ en ((1, v) :: (10 + ci, o) :: S) st) ∧
  (∀ pc v τ en st, rt = [1] → rz = true → c_op0 dec pc 11 = true → (v = 0 ∨ v = 1) → R [v] st → J (j_ult dec pc) τ en [(1, v)] st)
section JSE
variable {dec : XD} {lk lp : XK} {pk rk : Nat → List Nat} {thr : Nat → Bool} {rt : List Nat} {rz : Bool} {xs : Nat → Int} {L : Nat} {ck : Nat → List Nat} {F : XP} {cW : Nat → Nat → Int} {hnd : Nat → Option (Nat × Nat)} {R : List Int → XT → Prop} {X : XT → Prop}
  {J : Nat → List Nat → List Int → List (Nat × Int) → XT → Prop}
def PV (dec : XD) (J : Nat → List Nat → List Int → List (Nat × Int) → XT → Prop) (N : XN) (E : XE) : Prop := ∀ τ d pc ks pc' ts en S st x st', N τ d 0 pc = some (ks, pc', ts) → E en st = some (x, st') → en.length = τ.length → k_cats (S.map (·.1)) ≤ d →
  x.length = ks.length ∧ (J (j_ult dec pc') τ en ((ks.zip x).reverse ++ S) st' → J (j_ult dec pc) τ en S st)
def j_jp (md : Nat) (x : List Int) : Prop := if md = 1 then j_hd x = 0 else j_hd x ≠ 0
def PJ (dec : XD) (J : Nat → List Nat → List Int → List (Nat × Int) → XT → Prop) (N : XN) (E : XE) : Prop := ∀ τ d md pc ks pc' ts en S st x st', (md = 1 ∨ md = 2) → N τ d md pc = some (ks, pc', ts) → E en st = some (x, st') → en.length = τ.length → k_cats (S.map (·.1)) ≤ d →
  (j_jp md x → ∀ t ∈ ts, J (j_ult dec t) τ en S st') → (¬ j_jp md x → J (j_ult dec pc') τ en S st') → J (j_ult dec pc) τ en S st
/-- one value -/
theorem PV.one {N : XN} {E : XE} (h : PV dec J N E) {τ : List Nat} {d pc k pc' : Nat} {ts : List Nat} {en : List Int} {S : List (Nat × Int)} {st : XT} {x : List Int} {st' : XT} (h1 : N τ d 0 pc = some ([k], pc', ts)) (h2 : E en st = some (x, st')) (h3 : en.length = τ.length) (h4 : k_cats (S.map (·.1)) ≤ d) :
    x = [j_hd x] ∧ (J (j_ult dec pc') τ en ((k, j_hd x) :: S) st' → J (j_ult dec pc) τ en S st) := by
  obtain ⟨a, b⟩ := h _ _ _ _ _ _ _ S _ _ _ h1 h2 h3 h4
  have e := j_z1 a
  refine ⟨e, fun k => b ?_⟩
  rw [e]
  exact k
theorem c_two_spec {A B : XN} {ka kb τ : List Nat} {d pc p : Nat} (h : c_two A B ka kb τ d pc = some p) : ∃ p1 t1 t2, A τ d 0 pc = some (ka, p1, t1) ∧ B τ (d + k_cats ka) 0 p1 = some (kb, p, t2) := by
  obtain ⟨r, h1, h⟩ := j_bd h
  obtain ⟨e1, h⟩ := j_ifx h
  obtain ⟨q, h2, h⟩ := j_bd h
  obtain ⟨e2, h⟩ := j_if h
  subst h
  refine ⟨r.2.1, r.2.2, q.2.2, ?_, ?_⟩
  · rw [h1, ← e1]
  · rw [h2, ← e2]
theorem k_cats_cons (k : Nat) (v : Int) (S : List (Nat × Int)) : k_cats (((k, v) :: S).map (·.1)) = k_cats [k] + k_cats (S.map (·.1)) := by simp [k_cats]
/-- two values -/
theorem PV.two {A B : XN} {EA EB : XE} (hA : PV dec J A EA) (hB : PV dec J B EB) {ka kb : Nat} {τ : List Nat} {d pc p : Nat} {en : List Int} {S : List (Nat × Int)} {st st1 st2 : XT} {x y : List Int}
    (h : c_two A B [ka] [kb] τ d pc = some p) (h1 : EA en st = some (x, st1)) (h2 : EB en st1 = some (y, st2)) (h3 : en.length = τ.length) (h4 : k_cats (S.map (·.1)) ≤ d) :
    J (j_ult dec p) τ en ((kb, j_hd y) :: (ka, j_hd x) :: S) st2 → J (j_ult dec pc) τ en S st := by
  obtain ⟨p1, t1, t2, a, b⟩ := c_two_spec h
  obtain ⟨-, ka'⟩ := hA.one (S := S) a h1 h3 h4
  obtain ⟨-, kb'⟩ := hB.one (S := (ka, j_hd x) :: S) b h2 h3 (by rw [k_cats_cons]; omega)
  exact fun k => ka' (kb' k)
end JSE
end
section
section JNV
variable {dec : XD} {lk lp : XK} {pk rk : Nat → List Nat} {thr : Nat → Bool} {rt : List Nat} {rz : Bool} {xs : Nat → Int} {L : Nat} {ck : Nat → List Nat} {F : XP} {cW : Nat → Nat → Int} {hnd : Nat → Option (Nat × Nat)} {R : List Int → XT → Prop} {X : XT → Prop}
  {J : Nat → List Nat → List Int → List (Nat × Int) → XT → Prop} {a b c : SX} {A B C : XN} {EA EB EC : XE}
theorem v_1 (HC : XClo dec lk lp pk rk thr rt rz xs L ck F cW hnd R X J) : PV dec J (fun τ d _ pc => c_val dec lk pk rk thr 1 a b c A B C τ d pc) (nodeE xs L ck F cW 1 a b c EA EB EC) := by
  obtain ⟨hconst, -⟩ := HC
  intro τ d pc ks pc' ts en S st x st' h he hl hd
  obtain ⟨r, h1, h⟩ := j_bd h
  obtain ⟨⟨e1, e0, e2⟩, h⟩ := j_if h
  cases h
  cases he
  refine ⟨rfl, fun k => hconst _ _ r.1 _ _ _ _ h1 e0 ?_⟩
  have e : r.1 = (r.1.1, r.1.2) := rfl
  rw [e2] at e
  rw [e]
  exact k
theorem v_3 (HC : XClo dec lk lp pk rk thr rt rz xs L ck F cW hnd R X J) : PV dec J (fun τ d _ pc => c_val dec lk pk rk thr 3 a b c A B C τ d pc) (nodeE xs L ck F cW 3 a b c EA EB EC) := by
  obtain ⟨-, hload, -⟩ := HC
  intro τ d pc ks pc' ts en S st x st' h he hl hd
  obtain ⟨r, h1, h⟩ := j_bd h
  obtain ⟨kd, h2, h⟩ := j_bd h
  obtain ⟨⟨e1, e0, e2⟩, h⟩ := j_if h
  cases h
  cases he
  refine ⟨rfl, fun k => hload _ _ r.1.1 r.1.2 kd _ _ _ _ h1 (by rw [e1]; exact h2) e0 e2 hl ?_⟩
  rw [e1]
  exact k
theorem v_4 (HC : XClo dec lk lp pk rk thr rt rz xs L ck F cW hnd R X J) (hA : PV dec J A EA) : PV dec J (fun τ d _ pc => c_val dec lk pk rk thr 4 a b c A B C τ d pc) (nodeE xs L ck F cW 4 a b c EA EB EC) := by
  obtain ⟨-, -, -, -, hg, -⟩ := HC
  intro τ d pc ks pc' ts en S st x st' h he hl hd
  obtain ⟨q, h1, h⟩ := j_bd h
  obtain ⟨r, h2, h⟩ := j_bd h
  obtain ⟨⟨e1, e2, e3, e4, e5⟩, h⟩ := j_if h
  obtain ⟨y, hy, he⟩ := j_bd he
  cases h
  cases he
  obtain ⟨⟨r1, r2, r3, r4⟩, p⟩ := r
  obtain ⟨ks, q1, q2⟩ := q
  dsimp only at *
  subst e1; subst e2; subst e3; subst e4
  obtain ⟨-, kk⟩ := hA.one h1 hy hl hd
  exact ⟨rfl, fun k => kk (hg _ _ _ _ _ _ _ _ _ h2 e5 k)⟩
theorem v_5 (HC : XClo dec lk lp pk rk thr rt rz xs L ck F cW hnd R X J) (hA : PV dec J A EA) : PV dec J (fun τ d _ pc => c_val dec lk pk rk thr 5 a b c A B C τ d pc) (nodeE xs L ck F cW 5 a b c EA EB EC) := by
  obtain ⟨-, -, -, -, -, hg, -⟩ := HC
  intro τ d pc ks pc' ts en S st x st' h he hl hd
  obtain ⟨q, h1, h⟩ := j_bd h
  obtain ⟨r, h2, h⟩ := j_bd h
  obtain ⟨⟨e1, e2, e3, e4, e5⟩, h⟩ := j_if h
  obtain ⟨y, hy, he⟩ := j_bd he
  obtain ⟨z, hz, he⟩ := j_bd he
  cases h
  cases he
  obtain ⟨⟨r1, r2, r3, r4⟩, p⟩ := r
  obtain ⟨ks, q1, q2⟩ := q
  dsimp only at *
  subst e1; subst e2; subst e3; subst e4
  obtain ⟨-, kk⟩ := hA.one h1 hy hl hd
  exact ⟨rfl, fun k => kk (hg _ _ _ _ _ _ _ _ _ _ h2 e5 hz k)⟩
theorem v_7 (HC : XClo dec lk lp pk rk thr rt rz xs L ck F cW hnd R X J) (hA : PV dec J A EA) (hB : PV dec J B EB) : PV dec J (fun τ d _ pc => c_val dec lk pk rk thr 7 a b c A B C τ d pc) (nodeE xs L ck F cW 7 a b c EA EB EC) := by
  obtain ⟨-, -, -, -, -, -, hald, hsld, hwld, -⟩ := HC
  intro τ d pc ks pc' ts en S st x st' h he hl hd
  obtain ⟨⟨ka, p1, t1⟩, h1, g1⟩ := j_bd h
  clear h
  obtain ⟨⟨kb, p2, t2⟩, h2, g2⟩ := j_bd g1
  clear g1
  obtain ⟨⟨w, p3⟩, h3, g3⟩ := j_bd g2
  clear g2
  obtain ⟨⟨e1, e2⟩, h⟩ := j_ifx g3
  clear g3
  obtain ⟨⟨y, s1⟩, hy, he1⟩ := j_bd he
  clear he
  obtain ⟨⟨z, s2⟩, hz, he⟩ := j_bd he1
  clear he1
  dsimp only at *
  subst e1; subst e2
  split at h
  · rename_i hc
    rw [hc] at he
    split at h
    · rename_i ty
      obtain ⟨⟨e3, e4, e5⟩, h⟩ := j_if h
      obtain ⟨⟨e6, e7⟩, he⟩ := j_if he
      cases h; cases he
      obtain ⟨-, k1⟩ := hA.one h1 hy hl hd
      obtain ⟨-, k2⟩ := hB.one (S := (ty, j_hd y) :: S) h2 hz hl (by rw [k_cats_cons]; have : k_cats [ty] = 1 := (by simp [k_cats, k_cat]; omega); omega)
      exact ⟨rfl, fun k => k1 (k2 (hald _ _ _ _ _ _ _ _ _ h3 e3 e4 e5 e6 e7 k))⟩
    · cases h
  · rename_i hc
    rw [hc] at he
    obtain ⟨⟨e3, e4⟩, h⟩ := j_if h
    obtain ⟨⟨e6, e7⟩, he⟩ := j_if he
    cases h; cases he
    subst e3; subst e4
    obtain ⟨-, k1⟩ := hA.one h1 hy hl hd
    obtain ⟨-, k2⟩ := hB.one (S := (5, j_hd y) :: S) h2 hz hl (by rw [k_cats_cons]; have : k_cats [5] = 1 := rfl; omega)
    exact ⟨rfl, fun k => k1 (k2 (hsld _ _ _ _ _ _ _ h3 e6 e7 k))⟩
  · rename_i hc
    rw [hc] at he
    obtain ⟨⟨e3, e4⟩, h⟩ := j_if h
    obtain ⟨⟨e6, e7⟩, he⟩ := j_if he
    cases h; cases he
    subst e3; subst e4
    obtain ⟨-, k1⟩ := hA.one h1 hy hl hd
    obtain ⟨-, k2⟩ := hB.one (S := (4, j_hd y) :: S) h2 hz hl (by rw [k_cats_cons]; have : k_cats [4] = 1 := rfl; omega)
    exact ⟨rfl, fun k => k1 (k2 (hwld _ _ _ _ _ _ _ h3 e6 e7 k))⟩
  · cases h
theorem v_10 (HC : XClo dec lk lp pk rk thr rt rz xs L ck F cW hnd R X J) (hA : PV dec J A EA) : PV dec J (fun τ d _ pc => c_val dec lk pk rk thr 10 a b c A B C τ d pc) (nodeE xs L ck F cW 10 a b c EA EB EC) := by
  obtain ⟨-, -, -, -, -, -, -, -, -, hn, hs, hw, -⟩ := HC
  intro τ d pc ks pc' ts en S st x st' h he hl hd
  obtain ⟨⟨ka, p1, t1⟩, h1, h⟩ := j_bd h
  obtain ⟨h2, h⟩ := j_ifx h
  obtain ⟨⟨y, s1⟩, hy, he⟩ := j_bd he
  dsimp only at *
  split at h
  · rename_i hc
    rw [hc] at he
    split at h
    · obtain ⟨⟨e3, e4⟩, h⟩ := j_if h
      cases h; cases he
      obtain ⟨-, k1⟩ := hA.one h1 hy hl hd
      exact ⟨rfl, fun k => k1 (hn _ _ _ _ _ _ _ h2 e3 e4 k)⟩
    · cases h
  · rename_i hc
    rw [hc] at he
    obtain ⟨e3, h⟩ := j_if h
    cases h; cases he
    subst e3
    obtain ⟨-, k1⟩ := hA.one h1 hy hl hd
    exact ⟨rfl, fun k => k1 (hs _ _ _ _ _ _ h2 k)⟩
  · rename_i hc
    rw [hc] at he
    obtain ⟨e3, h⟩ := j_if h
    cases h; cases he
    subst e3
    obtain ⟨-, k1⟩ := hA.one h1 hy hl hd
    exact ⟨rfl, fun k => k1 (hw _ _ _ _ _ _ h2 k)⟩
  · cases h
theorem v_13 (HC : XClo dec lk lp pk rk thr rt rz xs L ck F cW hnd R X J) (hA : PV dec J A EA) : PV dec J (fun τ d _ pc => c_val dec lk pk rk thr 13 a b c A B C τ d pc) (nodeE xs L ck F cW 13 a b c EA EB EC) := by
  obtain ⟨-, -, -, -, -, -, -, -, -, -, -, -, hg, -⟩ := HC
  intro τ d pc ks pc' ts en S st x st' h he hl hd
  obtain ⟨q, h1, h⟩ := j_bd h
  obtain ⟨r, h2, h⟩ := j_bd h
  obtain ⟨⟨e1, e2, e3, e4, e5⟩, h⟩ := j_if h
  obtain ⟨y, hy, he⟩ := j_bd he
  cases h
  cases he
  obtain ⟨⟨r1, r2, r3, r4⟩, p⟩ := r
  obtain ⟨ks, q1, q2⟩ := q
  dsimp only at *
  subst e1; subst e2; subst e3; subst e4
  obtain ⟨-, kk⟩ := hA.one h1 hy hl hd
  exact ⟨rfl, fun k => kk (hg _ _ _ _ _ _ _ _ _ h2 e5 k)⟩
theorem v_14 (HC : XClo dec lk lp pk rk thr rt rz xs L ck F cW hnd R X J) (hA : PV dec J A EA) (hB : PV dec J B EB) : PV dec J (fun τ d _ pc => c_val dec lk pk rk thr 14 a b c A B C τ d pc) (nodeE xs L ck F cW 14 a b c EA EB EC) := by
  obtain ⟨-, -, -, -, -, -, -, -, -, -, -, -, -, hg, -⟩ := HC
  intro τ d pc ks pc' ts en S st x st' h he hl hd
  obtain ⟨p, h1, h⟩ := j_bd h
  obtain ⟨⟨k0, p2⟩, h2, h⟩ := j_bd h
  obtain ⟨⟨e1, e2⟩, h⟩ := j_if h
  obtain ⟨y, hy, he⟩ := j_bd he
  obtain ⟨z, hz, he⟩ := j_bd he
  cases h
  cases he
  dsimp only at *
  subst e1; subst e2
  exact ⟨rfl, fun k => PV.two hA hB h1 hy hz hl hd (hg _ _ _ _ _ _ _ _ h2 k)⟩
theorem v_15 (HC : XClo dec lk lp pk rk thr rt rz xs L ck F cW hnd R X J) (hA : PV dec J A EA) (hB : PV dec J B EB) : PV dec J (fun τ d _ pc => c_val dec lk pk rk thr 15 a b c A B C τ d pc) (nodeE xs L ck F cW 15 a b c EA EB EC) := by
  obtain ⟨-, -, -, -, -, -, -, -, -, -, -, -, -, -, hg, -⟩ := HC
  intro τ d pc ks pc' ts en S st x st' h he hl hd
  obtain ⟨p, h1, h⟩ := j_bd h
  obtain ⟨⟨k0, p2⟩, h2, h⟩ := j_bd h
  obtain ⟨⟨e1, e2⟩, h⟩ := j_if h
  obtain ⟨y, hy, he⟩ := j_bd he
  obtain ⟨z, hz, he⟩ := j_bd he
  cases h
  cases he
  dsimp only at *
  subst e1; subst e2
  exact ⟨rfl, fun k => PV.two hA hB h1 hy hz hl hd (hg _ _ _ _ _ _ _ _ h2 k)⟩
theorem v_16 (HC : XClo dec lk lp pk rk thr rt rz xs L ck F cW hnd R X J) (hA : PV dec J A EA) (hB : PV dec J B EB) : PV dec J (fun τ d _ pc => c_val dec lk pk rk thr 16 a b c A B C τ d pc) (nodeE xs L ck F cW 16 a b c EA EB EC) := by
  obtain ⟨-, -, -, -, -, -, -, -, -, -, -, -, -, -, -, hg, -⟩ := HC
  intro τ d pc ks pc' ts en S st x st' h he hl hd
  obtain ⟨p, h1, h⟩ := j_bd h
  obtain ⟨⟨k0, p2⟩, h2, h⟩ := j_bd h
  obtain ⟨⟨e1, e2⟩, h⟩ := j_if h
  obtain ⟨y, hy, he⟩ := j_bd he
  obtain ⟨z, hz, he⟩ := j_bd he
  cases h
  cases he
  dsimp only at *
  subst e1; subst e2
  exact ⟨rfl, fun k => PV.two hA hB h1 hy hz hl hd (hg _ _ _ _ _ _ _ _ h2 k)⟩
theorem v_17 (HC : XClo dec lk lp pk rk thr rt rz xs L ck F cW hnd R X J) (hA : PV dec J A EA) (hB : PV dec J B EB) : PV dec J (fun τ d _ pc => c_val dec lk pk rk thr 17 a b c A B C τ d pc) (nodeE xs L ck F cW 17 a b c EA EB EC) := by
  obtain ⟨-, -, -, -, -, -, -, -, -, -, -, -, -, -, -, -, hg, -⟩ := HC
  intro τ d pc ks pc' ts en S st x st' h he hl hd
  obtain ⟨p, h1, h⟩ := j_bd h
  obtain ⟨⟨k0, p2⟩, h2, h⟩ := j_bd h
  obtain ⟨⟨e1, e2⟩, h⟩ := j_if h
  obtain ⟨y, hy, he⟩ := j_bd he
  obtain ⟨z, hz, he⟩ := j_bd he
  split at he
  · cases he
  rename_i hne
  cases h
  cases he
  dsimp only at *
  subst e1; subst e2
  exact ⟨rfl, fun k => PV.two hA hB h1 hy hz hl hd (hg _ _ _ _ _ _ _ _ _ h2 hne k)⟩
theorem v_18 (HC : XClo dec lk lp pk rk thr rt rz xs L ck F cW hnd R X J) (hA : PV dec J A EA) : PV dec J (fun τ d _ pc => c_val dec lk pk rk thr 18 a b c A B C τ d pc) (nodeE xs L ck F cW 18 a b c EA EB EC) := by
  obtain ⟨-, -, -, -, -, -, -, -, -, -, -, -, -, -, -, -, -, hg, -⟩ := HC
  intro τ d pc ks pc' ts en S st x st' h he hl hd
  obtain ⟨⟨ka, p1, t1⟩, h1, h⟩ := j_bd h
  obtain ⟨⟨⟨k0, k1, k2⟩, p2⟩, h2, h⟩ := j_bd h
  obtain ⟨⟨e1, e2, e3⟩, h⟩ := j_if h
  obtain ⟨y, hy, he⟩ := j_bd he
  cases h
  cases he
  dsimp only at *
  subst e1; subst e2; subst e3
  obtain ⟨-, kk⟩ := hA.one h1 hy hl hd
  exact ⟨rfl, fun k => kk (hg _ _ _ _ _ _ _ _ _ h2 k)⟩
theorem v_24 (hA : PV dec J A EA) : PV dec J (fun τ d _ pc => c_val dec lk pk rk thr 24 a b c A B C τ d pc) (nodeE xs L ck F cW 24 a b c EA EB EC) := by
  intro τ d pc ks pc' ts en S st x st' h he hl hd
  obtain ⟨⟨ka, p1, t1⟩, h1, h⟩ := j_bd h
  obtain ⟨e1, h⟩ := j_if h
  cases h
  dsimp only at *
  subst e1
  exact hA _ _ _ _ _ _ _ S _ _ _ h1 he hl hd
theorem v_28 (hA : PJ dec J A EA) (hB : PV dec J B EB) (hC : PV dec J C EC) : PV dec J (fun τ d _ pc => c_val dec lk pk rk thr 28 a b c A B C τ d pc) (nodeE xs L ck F cW 28 a b c EA EB EC) := by
  intro τ d pc ks pc' ts en S st x st' h he hl hd
  obtain ⟨⟨ka, p1, t1⟩, h1, h⟩ := j_bd h
  obtain ⟨⟨kb, p2, t2⟩, h2, h⟩ := j_bd h
  obtain ⟨e0, h⟩ := j_ifx h
  obtain ⟨⟨kc, p3, t3⟩, h3, h⟩ := j_bd h
  obtain ⟨⟨e1, e2⟩, h⟩ := j_if h
  cases h
  dsimp only at *
  subst e1
  obtain ⟨⟨y, s1⟩, hy, he⟩ := j_bd he
  dsimp only at he
  rw [Bool.and_eq_true] at e0
  have e3 := List.all_eq_true.mp e0.2
  have key := hA τ d 1 pc _ _ _ en S st y s1 (Or.inl rfl) h1 hy hl hd
  split at he
  · rename_i hz
    obtain ⟨g1, g2⟩ := hC τ d _ _ _ _ en S _ _ _ h3 he hl hd
    refine ⟨g1, fun k => key (fun _ t ht => ?_) (fun hn => absurd (by simp [j_jp, hz]) hn)⟩
    have := e3 t ht
    rw [beq_iff_eq] at this
    rw [this]
    exact g2 k
  · rename_i hz
    obtain ⟨g1, g2⟩ := hB τ d _ _ _ _ en S _ _ _ h2 he hl hd
    refine ⟨g1, fun k => key (fun hn => absurd hn (by simp [j_jp, hz])) (fun _ => g2 ?_)⟩
    rw [e2]
    exact k
theorem v_30 (hA : PV dec J A EA) (hB : PV dec J B EB) : PV dec J (fun τ d _ pc => c_val dec lk pk rk thr 30 a b c A B C τ d pc) (nodeE xs L ck F cW 30 a b c EA EB EC) := by
  intro τ d pc ks pc' ts en S st x st' h he hl hd
  obtain ⟨⟨ka, p1, t1⟩, h1, h⟩ := j_bd h
  obtain ⟨⟨kb, p2, t2⟩, h2, h⟩ := j_bd h
  obtain ⟨⟨y, s1⟩, hy, he⟩ := j_bd he
  obtain ⟨⟨z, s2⟩, hz, he⟩ := j_bd he
  cases h
  cases he
  dsimp only at *
  obtain ⟨a1, b1⟩ := hA _ _ _ _ _ _ _ S _ _ _ h1 hy hl hd
  obtain ⟨a2, b2⟩ := hB _ _ _ _ _ _ _ ((ka.zip y).reverse ++ S) _ _ _ h2 hz hl (by rw [k_cats_rz a1]; omega)
  refine ⟨by simp [a1, a2], fun k => b1 (b2 ?_)⟩
  rw [List.zip_append a1.symm, List.reverse_append, List.append_assoc] at k
  exact k
theorem v_31 : PV dec J (fun τ d _ pc => c_val dec lk pk rk thr 31 a b c A B C τ d pc) (nodeE xs L ck F cW 31 a b c EA EB EC) := by
  intro τ d pc ks pc' ts en S st x st' h he hl hd
  cases h
  cases he
  exact ⟨rfl, fun k => k⟩
theorem v_32 (HC : XClo dec lk lp pk rk thr rt rz xs L ck F cW hnd R X J) (hA : PV dec J A EA) : PV dec J (fun τ d _ pc => c_val dec lk pk rk thr 32 a b c A B C τ d pc) (nodeE xs L ck F cW 32 a b c EA EB EC) := by
  obtain ⟨-, -, -, -, -, -, -, -, -, -, -, -, -, -, -, -, -, -, -, -, -, -, hcall, -, -, -, -, -, -, -, -, -, -, -, -, -, -, hlen, -⟩ := HC
  intro τ d pc ks pc' ts en S st x st' h he hl hd
  obtain ⟨⟨ka, p1, t1⟩, h1, h⟩ := j_bd h
  obtain ⟨⟨f, p2⟩, h2, h⟩ := j_bd h
  obtain ⟨⟨e1, e2, e3, e4, e5⟩, h⟩ := j_if h
  obtain ⟨⟨y, s1⟩, hy, he⟩ := j_bd he
  obtain ⟨⟨rc, rv, rs⟩, hr, he⟩ := j_bd he
  obtain ⟨e6, he⟩ := j_if he
  cases h
  cases he
  dsimp only at *
  subst e1; subst e2; subst e5; subst e6
  obtain ⟨a1, b1⟩ := hA _ _ _ _ _ _ _ S _ _ _ h1 hy hl hd
  exact ⟨hlen _ _ _ _ _ hr, fun k => b1 (hcall _ _ _ _ _ _ _ _ _ h2 e3 hr a1 (Nat.le_trans hd e4) k)⟩
theorem v_34 (HC : XClo dec lk lp pk rk thr rt rz xs L ck F cW hnd R X J) (hA : PV dec J A EA) : PV dec J (fun τ d _ pc => c_val dec lk pk rk thr 34 a b c A B C τ d pc) (nodeE xs L ck F cW 34 a b c EA EB EC) := by
  obtain ⟨-, -, -, -, -, -, -, -, -, -, -, -, -, -, -, -, -, -, -, -, -, -, hcall, hnew, -, hdup, -, -, -, -, -, -, -, -, -, -, -, hlen, -⟩ := HC
  intro τ d pc ks pc' ts en S st x st' h he hl hd
  obtain ⟨⟨⟨z1, z2, z3⟩, p2⟩, h2, h⟩ := j_bd h
  obtain ⟨⟨e1, e2, e3, e4⟩, h⟩ := j_ifx h
  obtain ⟨⟨ka, p1, t1⟩, h1, h⟩ := j_bd h
  obtain ⟨⟨f, p3⟩, h3, h⟩ := j_bd h
  obtain ⟨⟨g1, g2, g3, g4, g5, g6⟩, h⟩ := j_if h
  obtain ⟨⟨y, s1⟩, hy, he⟩ := j_bd he
  obtain ⟨⟨rc, rv, rs⟩, hr, he⟩ := j_bd he
  obtain ⟨e6, he⟩ := j_if he
  cases h
  cases he
  dsimp only at *
  subst e1; subst e2; subst e3; subst g1; subst g6; subst e6
  have hrv : rv = [] := by
    have := hlen _ _ _ _ _ hr
    rw [g3] at this
    exact List.length_eq_zero_iff.mp this
  subst hrv
  refine ⟨rfl, fun k => hnew _ _ _ _ _ _ _ h2 (hdup _ _ _ _ _ _ e4 (by dsimp only; omega) ?_)⟩
  have kc : k_cats (((10 + sx_n b, (st.1.1.length : Int)) :: (10 + sx_n b, (st.1.1.length : Int)) :: S).map (·.1)) ≤ d + 2 := by
    rw [k_cats_cons, k_cats_cons]
    have : k_cats [10 + sx_n b] = 1 := by simp [k_cats, k_cat]; omega
    omega
  have kc2 : k_cats (((10 + sx_n b, (st.1.1.length : Int)) :: S).map (·.1)) ≤ 8 := by
    rw [k_cats_cons]
    have : k_cats [10 + sx_n b] = 1 := by simp [k_cats, k_cat]; omega
    omega
  obtain ⟨a1, b1⟩ := hA _ _ _ _ _ _ _ ((10 + sx_n b, (st.1.1.length : Int)) :: (10 + sx_n b, (st.1.1.length : Int)) :: S) _ _ _ h1 hy hl kc
  refine b1 ?_
  have q := hcall _ _ ((st.1.1.length : Int) :: y) [] τ en ((10 + sx_n b, (st.1.1.length : Int)) :: S) _ _ h3 g4 hr (by rw [g2]; simp [a1]) kc2
  rw [g2, g3] at q
  have q2 := q k
  simp only [List.zip_cons_cons, List.reverse_cons, List.append_assoc, List.singleton_append] at q2
  exact q2
theorem v_35 (HC : XClo dec lk lp pk rk thr rt rz xs L ck F cW hnd R X J) (hA : PV dec J A EA) : PV dec J (fun τ d _ pc => c_val dec lk pk rk thr 35 a b c A B C τ d pc) (nodeE xs L ck F cW 35 a b c EA EB EC) := by
  obtain ⟨-, -, -, -, -, -, -, -, -, -, -, -, -, -, -, -, -, -, -, -, -, -, -, -, hnewa, -⟩ := HC
  intro τ d pc ks pc' ts en S st x st' h he hl hd
  obtain ⟨⟨ka, p1, t1⟩, h1, h⟩ := j_bd h
  obtain ⟨⟨ty, p2⟩, h2, h⟩ := j_bd h
  obtain ⟨⟨e1, e2, e3⟩, h⟩ := j_if h
  obtain ⟨⟨y, s1⟩, hy, he⟩ := j_bd he
  obtain ⟨e4, he⟩ := j_ifx he
  cases h
  cases he
  dsimp only at *
  subst e1; subst e2; subst e3
  obtain ⟨-, k1⟩ := hA.one h1 hy hl hd
  exact ⟨rfl, fun k => k1 (hnewa _ _ _ _ _ _ _ h2 e4.1 e4.2 k)⟩
theorem v_36 (HC : XClo dec lk lp pk rk thr rt rz xs L ck F cW hnd R X J) (hA : PV dec J A EA) (hB : PV dec J B EB) : PV dec J (fun τ d _ pc => c_val dec lk pk rk thr 36 a b c A B C τ d pc) (nodeE xs L ck F cW 36 a b c EA EB EC) := by
  obtain ⟨hconst, -, -, -, -, -, -, -, -, -, -, -, -, -, -, -, -, -, -, -, -, -, -, -, -, hdup, -, -, -, -, hast, -⟩ := HC
  intro τ d pc ks pc' ts en S st x st' h he hl hd
  obtain ⟨⟨ka, p1, t1⟩, h1, h⟩ := j_bd h
  dsimp only at h
  split at h
  · rename_i ty
    obtain ⟨⟨e1, e2⟩, h⟩ := j_ifx h
    obtain ⟨⟨⟨c1, c2⟩, p2⟩, h2, h⟩ := j_bd h
    obtain ⟨e3, h⟩ := j_ifx h
    obtain ⟨⟨kb, p3, t3⟩, h3, h⟩ := j_bd h
    obtain ⟨⟨w, p4⟩, h4, h⟩ := j_bd h
    obtain ⟨⟨e4, e5, e6⟩, h⟩ := j_if h
    obtain ⟨⟨y, s1⟩, hy, he⟩ := j_bd he
    obtain ⟨⟨z, s2⟩, hz, he⟩ := j_bd he
    obtain ⟨e7, he⟩ := j_if he
    have t1' : (1 : Nat) ≠ 0 := by decide
    cases h
    cases he
    cases e3
    dsimp only at *
    subst e4; subst e5; subst e6
    obtain ⟨ey, k1⟩ := hA.one h1 hy hl hd
    have t2 : w ≠ 2 := by omega
    have kc : k_cats (((1, (sx_n c : Int)) :: (w, j_hd y) :: (w, j_hd y) :: S).map (·.1)) ≤ d + 3 := by
      rw [k_cats_cons, k_cats_cons, k_cats_cons]
      have : k_cats [w] = 1 := by simp [k_cats, k_cat, t2]
      have : k_cats [1] = 1 := rfl
      omega
    obtain ⟨-, k3⟩ := hB.one (S := (1, (sx_n c : Int)) :: (w, j_hd y) :: (w, j_hd y) :: S) h3 hz hl kc
    refine ⟨by rw [ey]; rfl, fun k => k1 (hdup _ _ _ _ _ _ e2 t2 (hconst _ _ (1, (sx_n c : Int)) _ _ _ _ h2 t1' (k3 (hast _ w w _ _ _ _ _ _ _ h4 (by omega) (by omega) (by rcases e1 with rfl | rfl <;> rfl) (by omega) (by omega) ?_))))⟩
    rw [ey] at k
    rcases e1 with rfl | rfl <;> exact k
  · cases h
end JNV
end
section
section JNJ
variable {dec : XD} {lk lp : XK} {pk rk : Nat → List Nat} {thr : Nat → Bool} {rt : List Nat} {rz : Bool} {xs : Nat → Int} {L : Nat} {ck : Nat → List Nat} {F : XP} {cW : Nat → Nat → Int} {hnd : Nat → Option (Nat × Nat)} {R : List Int → XT → Prop} {X : XT → Prop}
  {J : Nat → List Nat → List Int → List (Nat × Int) → XT → Prop} {a b c : SX} {A B C : XN} {EA EB EC : XE}
theorem j_cmp_neg {k : Nat} (hk : k < 6) (x y : Int) : j_cmp (j_neg k) x y = !(j_cmp k x y) := by
  rcases (show k = 0 ∨ k = 1 ∨ k = 2 ∨ k = 3 ∨ k = 4 ∨ k = 5 by omega) with rfl | rfl | rfl | rfl | rfl | rfl <;> rw [Bool.eq_iff_iff] <;> simp [j_neg, j_cmp] <;> omega
theorem j_b_0 (v : Bool) : j_hd [j_b v] = 0 ↔ v = false := by cases v <;> simp [j_hd, j_b]
theorem br_spec {f : Instr → Option (Nat × Int)} {pc k md p : Nat} {ts : List Nat} (h : c_br dec pc f k md = some (p, ts)) :
    ∃ kk off t, ts = [t] ∧ p = pc + 3 ∧ c_ins dec pc f = some ((kk, off), pc + 3) ∧ j_tgt pc off = some t ∧ ∀ x y, (j_cmp kk x y = true ↔ j_jp md [j_b (j_cmp k x y)]) := by
  obtain ⟨⟨⟨kk, off⟩, p1⟩, h1, h⟩ := j_bd h
  obtain ⟨t, h2, h⟩ := j_bd h
  obtain ⟨⟨e1, e2, e3⟩, h⟩ := j_if h
  cases h
  dsimp only at *
  subst e1
  refine ⟨kk, off, t, rfl, rfl, h1, h2, fun x y => ?_⟩
  rcases e2 with ⟨rfl, rfl⟩ | ⟨rfl, rfl⟩
  · rw [j_cmp_neg e3]
    simp [j_jp, j_b_0]
  · simp [j_jp, j_b_0]
theorem jp_nz (md : Nat) (z : List Int) : j_jp md [j_b (decide (j_hd z ≠ 0))] ↔ j_jp md z := by
  unfold j_jp
  split <;> simp [j_b_0]
theorem jp_z (md : Nat) (z : List Int) : j_jp md [j_b (decide (j_hd z = 0))] ↔ ¬ j_jp md z := by
  unfold j_jp
  split <;> simp [j_b_0]
theorem jp_1 (md : Nat) (hm : md = 1 ∨ md = 2) (z : List Int) : j_jp md z ↔ (md = 1 ↔ j_hd z = 0) := by
  rcases hm with rfl | rfl <;> simp [j_jp]
/-- the end of a compare -/
theorem br_end {f : Instr → Option (Nat × Int)} {pc k md p : Nat} {ts : List Nat} {τ : List Nat} {en : List Int} {S : List (Nat × Int)} {st : XT} {x y : Int} {G : Prop} (h : c_br dec pc f k md = some (p, ts))
    (step : ∀ kk off t, c_ins dec pc f = some ((kk, off), pc + 3) → j_tgt pc off = some t → (j_cmp kk x y = true → J (j_ult dec t) τ en S st) → (j_cmp kk x y = false → J (j_ult dec (pc + 3)) τ en S st) → G)
    (k1 : j_jp md [j_b (j_cmp k x y)] → ∀ t ∈ ts, J (j_ult dec t) τ en S st) (k2 : ¬ j_jp md [j_b (j_cmp k x y)] → J (j_ult dec p) τ en S st) : G := by
  obtain ⟨kk, off, t, rfl, rfl, e1, e2, e3⟩ := br_spec h
  refine step kk off t e1 e2 (fun q => k1 ((e3 x y).mp q) t (List.mem_singleton.mpr rfl)) (fun q => k2 (fun n => ?_))
  rw [(e3 x y).mpr n] at q
  cases q
theorem g_20 (HC : XClo dec lk lp pk rk thr rt rz xs L ck F cW hnd R X J) (hA : PV dec J A EA) (hB : PV dec J B EB) : PJ dec J (fun τ d md pc => c_jmp dec 20 c A B C τ d md pc) (nodeE xs L ck F cW 20 a b c EA EB EC) := by
  obtain ⟨-, -, -, -, -, -, -, -, -, -, -, -, -, -, -, -, -, -, hs, -⟩ := HC
  intro τ d md pc ks pc' ts en S st x st' hm h he hl hd k1 k2
  obtain ⟨p, h1, h⟩ := j_bd h
  obtain ⟨⟨p2, t2⟩, h2, h⟩ := j_bd h
  obtain ⟨y, hy, he⟩ := j_bd he
  obtain ⟨z, hz, he⟩ := j_bd he
  cases h
  cases he
  exact PV.two hA hB h1 hy hz hl hd (br_end h2 (fun kk off t a1 a2 a3 a4 => hs _ _ _ _ _ _ _ _ _ _ a1 a2 a3 a4) k1 k2)
theorem g_21 (HC : XClo dec lk lp pk rk thr rt rz xs L ck F cW hnd R X J) (hA : PV dec J A EA) : PJ dec J (fun τ d md pc => c_jmp dec 21 c A B C τ d md pc) (nodeE xs L ck F cW 21 a b c EA EB EC) := by
  obtain ⟨-, -, -, -, -, -, -, -, -, -, -, -, -, -, -, -, -, -, -, hs, -⟩ := HC
  intro τ d md pc ks pc' ts en S st x st' hm h he hl hd k1 k2
  obtain ⟨⟨q1, q2, q3⟩, h1, h⟩ := j_bd h
  obtain ⟨e1, h⟩ := j_ifx h
  obtain ⟨⟨p2, t2⟩, h2, h⟩ := j_bd h
  obtain ⟨y, hy, he⟩ := j_bd he
  cases h
  cases he
  dsimp only at *
  subst e1
  exact (hA.one h1 hy hl hd).2 (br_end h2 (fun kk off t a1 a2 a3 a4 => hs _ _ _ _ _ _ _ _ _ a1 a2 a3 a4) k1 k2)
theorem g_22 (HC : XClo dec lk lp pk rk thr rt rz xs L ck F cW hnd R X J) (hA : PV dec J A EA) (hB : PV dec J B EB) : PJ dec J (fun τ d md pc => c_jmp dec 22 c A B C τ d md pc) (nodeE xs L ck F cW 22 a b c EA EB EC) := by
  obtain ⟨-, -, -, -, -, -, -, -, -, -, -, -, -, -, -, -, -, -, -, -, hs, -⟩ := HC
  intro τ d md pc ks pc' ts en S st x st' hm h he hl hd k1 k2
  obtain ⟨p, h1, h⟩ := j_bd h
  obtain ⟨h3, h⟩ := j_ifx h
  obtain ⟨⟨p2, t2⟩, h2, h⟩ := j_bd h
  obtain ⟨y, hy, he⟩ := j_bd he
  obtain ⟨z, hz, he⟩ := j_bd he
  cases h
  cases he
  exact PV.two hA hB h1 hy hz hl hd (br_end h2 (fun kk off t a1 a2 a3 a4 => hs _ _ _ _ _ _ _ _ _ _ h3 a1 a2 a3 a4) k1 k2)
theorem g_23 (HC : XClo dec lk lp pk rk thr rt rz xs L ck F cW hnd R X J) (hA : PV dec J A EA) (hB : PV dec J B EB) : PJ dec J (fun τ d md pc => c_jmp dec 23 c A B C τ d md pc) (nodeE xs L ck F cW 23 a b c EA EB EC) := by
  obtain ⟨-, -, -, -, -, -, -, -, -, -, -, -, -, -, -, -, -, -, -, -, -, hs, -⟩ := HC
  intro τ d md pc ks pc' ts en S st x st' hm h he hl hd k1 k2
  obtain ⟨p, h1, h⟩ := j_bd h
  obtain ⟨h3, h⟩ := j_ifx h
  obtain ⟨⟨p2, t2⟩, h2, h⟩ := j_bd h
  obtain ⟨y, hy, he⟩ := j_bd he
  obtain ⟨z, hz, he⟩ := j_bd he
  cases h
  cases he
  exact PV.two hA hB h1 hy hz hl hd (br_end h2 (fun kk off t a1 a2 a3 a4 => hs _ _ _ _ _ _ _ _ _ _ a1 a2 a3 a4) k1 k2)
theorem g_24 (HC : XClo dec lk lp pk rk thr rt rz xs L ck F cW hnd R X J) (hA : PV dec J A EA) : PJ dec J (fun τ d md pc => c_jmp dec 24 c A B C τ d md pc) (nodeE xs L ck F cW 24 a b c EA EB EC) := by
  obtain ⟨-, -, -, -, -, -, -, -, -, -, -, -, -, -, -, -, -, -, -, hs, -⟩ := HC
  intro τ d md pc ks pc' ts en S st x st' hm h he hl hd k1 k2
  obtain ⟨⟨q1, q2, q3⟩, h1, h⟩ := j_bd h
  obtain ⟨e1, h⟩ := j_ifx h
  obtain ⟨⟨p2, t2⟩, h2, h⟩ := j_bd h
  cases h
  dsimp only at *
  subst e1
  refine (hA.one h1 he hl hd).2 (br_end (x := j_hd x) (y := 0) h2 (fun kk off t a1 a2 a3 a4 => hs _ _ _ _ _ _ _ _ _ a1 a2 a3 a4) (fun q => k1 ?_) (fun q => k2 ?_))
  · exact (jp_nz md x).mp q
  · exact fun n => q ((jp_nz md x).mpr n)
theorem c_all_spec {ts : List Nat} {p : Nat} (h : c_all dec ts p = true) {t : Nat} (ht : t ∈ ts) : j_ult dec t = j_ult dec p := by
  have := List.all_eq_true.mp h t ht
  exact beq_iff_eq.mp this
theorem g_25 (hA : PJ dec J A EA) (hB : PJ dec J B EB) : PJ dec J (fun τ d md pc => c_jmp dec 25 c A B C τ d md pc) (nodeE xs L ck F cW 25 a b c EA EB EC) := by
  intro τ d md pc ks pc' ts en S st x st' hm h he hl hd k1 k2
  obtain ⟨⟨ka, p1, t1⟩, h1, h⟩ := j_bd h
  obtain ⟨⟨kb, p2, t2⟩, h2, h⟩ := j_bd h
  obtain ⟨⟨y, s1⟩, hy, he⟩ := j_bd he
  dsimp only at *
  refine hA τ d 1 pc _ _ _ en S st y s1 (Or.inl rfl) h1 hy hl hd (fun q t ht => ?_) (fun q => ?_)
  · have q0 : j_hd y = 0 := q
    rw [if_pos q0] at he
    cases he
    rcases hm with rfl | rfl
    · rw [if_pos rfl] at h
      cases h
      exact k1 (by simp [j_jp, j_hd]) t (List.mem_append_left _ ht)
    · rw [if_neg (by decide)] at h
      obtain ⟨⟨-, e2⟩, h⟩ := j_if h
      cases h
      rw [c_all_spec e2 ht]
      exact k2 (by simp [j_jp, j_hd])
  · have q0 : ¬ j_hd y = 0 := q
    rw [if_neg q0] at he
    obtain ⟨⟨z, s2⟩, hz, he⟩ := j_bd he
    cases he
    refine hB τ d md p1 _ _ _ en S s1 z s2 hm h2 hz hl hd (fun n t ht => ?_) (fun n => ?_)
    · refine k1 ((jp_nz md z).mpr n) t ?_
      rcases hm with rfl | rfl
      · rw [if_pos rfl] at h
        cases h
        exact List.mem_append_right _ ht
      · rw [if_neg (by decide)] at h
        obtain ⟨-, h⟩ := j_if h
        cases h
        exact ht
    · have e : pc' = p2 := by
        rcases hm with rfl | rfl
        · rw [if_pos rfl] at h
          cases h
          rfl
        · rw [if_neg (by decide)] at h
          obtain ⟨-, h⟩ := j_if h
          cases h
          rfl
      rw [← e]
      exact k2 (fun q => n ((jp_nz md z).mp q))
theorem g_26 (hA : PJ dec J A EA) (hB : PJ dec J B EB) : PJ dec J (fun τ d md pc => c_jmp dec 26 c A B C τ d md pc) (nodeE xs L ck F cW 26 a b c EA EB EC) := by
  intro τ d md pc ks pc' ts en S st x st' hm h he hl hd k1 k2
  obtain ⟨⟨ka, p1, t1⟩, h1, h⟩ := j_bd h
  obtain ⟨⟨kb, p2, t2⟩, h2, h⟩ := j_bd h
  obtain ⟨⟨y, s1⟩, hy, he⟩ := j_bd he
  dsimp only at *
  refine hA τ d 2 pc _ _ _ en S st y s1 (Or.inr rfl) h1 hy hl hd (fun q t ht => ?_) (fun q => ?_)
  · have q0 : ¬ j_hd y = 0 := q
    rw [if_neg q0] at he
    cases he
    rcases hm with rfl | rfl
    · rw [if_neg (by decide)] at h
      obtain ⟨⟨-, e2⟩, h⟩ := j_if h
      cases h
      rw [c_all_spec e2 ht]
      exact k2 (by simp [j_jp, j_hd])
    · rw [if_pos rfl] at h
      cases h
      exact k1 (by simp [j_jp, j_hd]) t (List.mem_append_left _ ht)
  · have q0 : j_hd y = 0 := Decidable.not_not.mp q
    rw [if_pos q0] at he
    obtain ⟨⟨z, s2⟩, hz, he⟩ := j_bd he
    cases he
    refine hB τ d md p1 _ _ _ en S s1 z s2 hm h2 hz hl hd (fun n t ht => ?_) (fun n => ?_)
    · refine k1 ((jp_nz md z).mpr n) t ?_
      rcases hm with rfl | rfl
      · rw [if_neg (by decide)] at h
        obtain ⟨-, h⟩ := j_if h
        cases h
        exact ht
      · rw [if_pos rfl] at h
        cases h
        exact List.mem_append_right _ ht
    · have e : pc' = p2 := by
        rcases hm with rfl | rfl
        · rw [if_neg (by decide)] at h
          obtain ⟨-, h⟩ := j_if h
          cases h
          rfl
        · rw [if_pos rfl] at h
          cases h
          rfl
      rw [← e]
      exact k2 (fun q => n ((jp_nz md z).mp q))
theorem g_27 (hA : PJ dec J A EA) : PJ dec J (fun τ d md pc => c_jmp dec 27 c A B C τ d md pc) (nodeE xs L ck F cW 27 a b c EA EB EC) := by
  intro τ d md pc ks pc' ts en S st x st' hm h he hl hd k1 k2
  obtain ⟨⟨y, s1⟩, hy, he⟩ := j_bd he
  cases he
  rcases hm with rfl | rfl
  · have h' : A τ d 2 pc = some (ks, pc', ts) := h
    refine hA τ d 2 pc _ _ _ en S st y s1 (Or.inr rfl) h' hy hl hd (fun q => k1 ?_) (fun q => k2 ?_)
    · exact (jp_z 1 y).mpr (fun n => q n)
    · exact fun n => (jp_z 1 y).mp n (Classical.not_not.mp q)
  · have h' : A τ d 1 pc = some (ks, pc', ts) := h
    refine hA τ d 1 pc _ _ _ en S st y s1 (Or.inl rfl) h' hy hl hd (fun q => k1 ?_) (fun q => k2 ?_)
    · exact (jp_z 2 y).mpr (fun n => n q)
    · exact fun n => (jp_z 2 y).mp n (fun e => q e)
theorem g_28 (hA : PJ dec J A EA) (hB : PJ dec J B EB) (hC : PJ dec J C EC) : PJ dec J (fun τ d md pc => c_jmp dec 28 c A B C τ d md pc) (nodeE xs L ck F cW 28 a b c EA EB EC) := by
  intro τ d md pc ks pc' ts en S st x st' hm h he hl hd k1 k2
  obtain ⟨⟨ka, p1, t1⟩, h1, h⟩ := j_bd h
  obtain ⟨⟨kb, p2, t2⟩, h2, h⟩ := j_bd h
  obtain ⟨e0, h⟩ := j_ifx h
  obtain ⟨⟨kc, p3, t3⟩, h3, h⟩ := j_bd h
  obtain ⟨⟨y, s1⟩, hy, he⟩ := j_bd he
  dsimp only at *
  rw [Bool.and_eq_true] at e0
  refine hA τ d 1 pc _ _ _ en S st y s1 (Or.inl rfl) h1 hy hl hd (fun q t ht => ?_) (fun q => ?_)
  · have q0 : j_hd y = 0 := q
    rw [if_pos q0] at he
    rw [c_all_spec e0.2 ht]
    refine hC τ d md _ _ _ _ en S s1 x st' hm h3 he hl hd (fun n t ht => ?_) (fun n => ?_)
    · refine k1 n t ?_
      rcases hm with rfl | rfl
      · split at h
        · cases h
          exact List.mem_append_right _ ht
        · split at h
          · cases h
            exact List.mem_cons_of_mem _ ht
          · cases h
      · split at h
        · rename_i hh
          exact absurd hh.1 (by decide)
        · split at h
          · cases h
            exact List.mem_cons_of_mem _ ht
          · cases h
    · have e : pc' = p3 := by
        split at h
        · cases h
          rfl
        · split at h
          · cases h
            rfl
          · cases h
      rw [← e]
      exact k2 n
  · have q0 : ¬ j_hd y = 0 := q
    rw [if_neg q0] at he
    refine hB τ d 1 p1 _ _ _ en S s1 x st' (Or.inl rfl) h2 he hl hd (fun n t ht => ?_) (fun n => ?_)
    · have n0 : j_hd x = 0 := n
      rcases hm with rfl | rfl
      · split at h
        · cases h
          exact k1 n0 t (List.mem_append_left _ ht)
        · split at h
          · rename_i hh
            exact absurd hh.1 (by decide)
          · cases h
      · split at h
        · rename_i hh
          exact absurd hh.1 (by decide)
        · obtain ⟨⟨-, e2⟩, h⟩ := j_if h
          cases h
          rw [c_all_spec e2 ht]
          exact k2 (by simp [j_jp, n0])
    · have n0 : ¬ j_hd x = 0 := n
      rcases hm with rfl | rfl
      · split at h
        · rename_i hh
          cases h
          rw [hh.2]
          exact k2 n
        · split at h
          · rename_i hh
            exact absurd hh.1 (by decide)
          · cases h
      · split at h
        · rename_i hh
          exact absurd hh.1 (by decide)
        · obtain ⟨⟨-, e2⟩, h⟩ := j_if h
          cases h
          exact k1 n0 _ List.mem_cons_self
theorem c_one_spec {pc : Nat} {v : Int} (h : c_one dec lk pc v = true) : c_ins dec pc (a_const lk) = some ((1, v), pc + 1) := by
  unfold c_one at h
  split at h
  · rename_i kd x p he
    simp only [Bool.and_eq_true, beq_iff_eq] at h
    rw [he, h.1.1, h.1.2, h.2]
  · cases h
/-- a condition as a number -/
theorem PV.mat (HC : XClo dec lk lp pk rk thr rt rz xs L ck F cW hnd R X J) {N : XN} {E : XE} (hN : PJ dec J N E) (hE : ∀ en st x st', E en st = some (x, st') → x = [0] ∨ x = [1]) : PV dec J (fun τ d _ pc => c_mat dec lk (N τ d 1 pc)) E := by
  obtain ⟨hconst, -⟩ := HC
  intro τ d pc ks pc' ts en S st x st' h he hl hd
  obtain ⟨⟨ka, p1, t1⟩, h1, h⟩ := j_bd h
  obtain ⟨e, h⟩ := j_if h
  simp only [Bool.and_eq_true, beq_iff_eq] at e
  obtain ⟨⟨⟨⟨e1, e2⟩, e3⟩, e4⟩, e5⟩ := e
  cases h
  have hx := hE _ _ _ _ he
  refine ⟨by rcases hx with rfl | rfl <;> rfl, fun k => hN τ d 1 pc _ _ _ en S st x st' (Or.inl rfl) h1 he hl hd (fun q t ht => ?_) (fun q => ?_)⟩
  · rw [c_all_spec e4 ht]
    refine hconst _ _ (1, 0) _ _ _ _ (c_one_spec e3) (by decide) ?_
    rcases hx with rfl | rfl
    · exact k
    · exact absurd q (by simp [j_jp, j_hd])
  · refine hconst _ _ (1, 1) _ _ _ _ (c_one_spec e1) (by decide) ?_
    rw [e5]
    rcases hx with rfl | rfl
    · exact absurd rfl q
    · exact k
theorem j_b_01 (v : Bool) : [j_b v] = [0] ∨ [j_b v] = [1] := by cases v <;> simp [j_b]
theorem cond_01 {t : Nat} (ht : c_isC t = true) : ∀ en st x st', nodeE xs L ck F cW t a b c EA EB EC en st = some (x, st') → x = [0] ∨ x = [1] := by
  intro en st x st' h
  simp only [c_isC, Bool.or_eq_true, beq_iff_eq] at ht
  rcases ht with (((((rfl | rfl) | rfl) | rfl) | rfl) | rfl) | rfl
  · obtain ⟨y, hy, h⟩ := j_bd h
    obtain ⟨z, hz, h⟩ := j_bd h
    cases h
    exact j_b_01 _
  · obtain ⟨y, hy, h⟩ := j_bd h
    cases h
    exact j_b_01 _
  · obtain ⟨y, hy, h⟩ := j_bd h
    obtain ⟨z, hz, h⟩ := j_bd h
    cases h
    exact j_b_01 _
  · obtain ⟨y, hy, h⟩ := j_bd h
    obtain ⟨z, hz, h⟩ := j_bd h
    cases h
    exact j_b_01 _
  · obtain ⟨y, hy, h⟩ := j_bd h
    dsimp only at h
    split at h
    · cases h
      exact Or.inl rfl
    · obtain ⟨z, hz, h⟩ := j_bd h
      cases h
      exact j_b_01 _
  · obtain ⟨y, hy, h⟩ := j_bd h
    dsimp only at h
    split at h
    · obtain ⟨z, hz, h⟩ := j_bd h
      cases h
      exact j_b_01 _
    · cases h
      exact Or.inr rfl
  · obtain ⟨y, hy, h⟩ := j_bd h
    cases h
    exact j_b_01 _
theorem snd_jmp (HC : XClo dec lk lp pk rk thr rt rz xs L ck F cW hnd R X J) {t : Nat} (hA : PV dec J A EA ∧ PJ dec J A EA) (hB : PV dec J B EB ∧ PJ dec J B EB) (hC : PV dec J C EC ∧ PJ dec J C EC) :
    PJ dec J (fun τ d md pc => c_jmp dec t c A B C τ d md pc) (nodeE xs L ck F cW t a b c EA EB EC) := by
  intro τ d md pc ks pc' ts en S st x st' hm h he hl hd k1 k2
  have h0 : (fun t => c_jmp dec t c A B C τ d md pc) t = some (ks, pc', ts) := h
  by_cases h20 : t = 20
  · subst h20; exact g_20 HC hA.1 hB.1 τ d md pc ks pc' ts en S st x st' hm h he hl hd k1 k2
  by_cases h21 : t = 21
  · subst h21; exact g_21 HC hA.1 τ d md pc ks pc' ts en S st x st' hm h he hl hd k1 k2
  by_cases h22 : t = 22
  · subst h22; exact g_22 HC hA.1 hB.1 τ d md pc ks pc' ts en S st x st' hm h he hl hd k1 k2
  by_cases h23 : t = 23
  · subst h23; exact g_23 HC hA.1 hB.1 τ d md pc ks pc' ts en S st x st' hm h he hl hd k1 k2
  by_cases h24 : t = 24
  · subst h24; exact g_24 HC hA.1 τ d md pc ks pc' ts en S st x st' hm h he hl hd k1 k2
  by_cases h25 : t = 25
  · subst h25; exact g_25 hA.2 hB.2 τ d md pc ks pc' ts en S st x st' hm h he hl hd k1 k2
  by_cases h26 : t = 26
  · subst h26; exact g_26 hA.2 hB.2 τ d md pc ks pc' ts en S st x st' hm h he hl hd k1 k2
  by_cases h27 : t = 27
  · subst h27; exact g_27 hA.2 τ d md pc ks pc' ts en S st x st' hm h he hl hd k1 k2
  by_cases h28 : t = 28
  · subst h28; exact g_28 hA.2 hB.2 hC.2 τ d md pc ks pc' ts en S st x st' hm h he hl hd k1 k2
  exfalso
  dsimp only at h
  unfold c_jmp at h
  split at h <;> first | contradiction | cases h
theorem snd_val (HC : XClo dec lk lp pk rk thr rt rz xs L ck F cW hnd R X J) {t : Nat} (hA : PV dec J A EA ∧ PJ dec J A EA) (hB : PV dec J B EB ∧ PJ dec J B EB) (hC : PV dec J C EC ∧ PJ dec J C EC) :
    PV dec J (fun τ d _ pc => c_val dec lk pk rk thr t a b c A B C τ d pc) (nodeE xs L ck F cW t a b c EA EB EC) := by
  intro τ d pc ks pc' ts en S st x st' h he hl hd
  by_cases e : t = 1
  · subst e; exact v_1 HC τ d pc ks pc' ts en S st x st' h he hl hd
  by_cases e : t = 3
  · subst e; exact v_3 HC τ d pc ks pc' ts en S st x st' h he hl hd
  by_cases e : t = 4
  · subst e; exact v_4 HC hA.1 τ d pc ks pc' ts en S st x st' h he hl hd
  by_cases e : t = 5
  · subst e; exact v_5 HC hA.1 τ d pc ks pc' ts en S st x st' h he hl hd
  by_cases e : t = 7
  · subst e; exact v_7 HC hA.1 hB.1 τ d pc ks pc' ts en S st x st' h he hl hd
  by_cases e : t = 10
  · subst e; exact v_10 HC hA.1 τ d pc ks pc' ts en S st x st' h he hl hd
  by_cases e : t = 13
  · subst e; exact v_13 HC hA.1 τ d pc ks pc' ts en S st x st' h he hl hd
  by_cases e : t = 14
  · subst e; exact v_14 HC hA.1 hB.1 τ d pc ks pc' ts en S st x st' h he hl hd
  by_cases e : t = 15
  · subst e; exact v_15 HC hA.1 hB.1 τ d pc ks pc' ts en S st x st' h he hl hd
  by_cases e : t = 16
  · subst e; exact v_16 HC hA.1 hB.1 τ d pc ks pc' ts en S st x st' h he hl hd
  by_cases e : t = 17
  · subst e; exact v_17 HC hA.1 hB.1 τ d pc ks pc' ts en S st x st' h he hl hd
  by_cases e : t = 18
  · subst e; exact v_18 HC hA.1 τ d pc ks pc' ts en S st x st' h he hl hd
  by_cases e : t = 24
  · subst e; exact v_24 hA.1 τ d pc ks pc' ts en S st x st' h he hl hd
  by_cases e : t = 28
  · subst e; exact v_28 hA.2 hB.1 hC.1 τ d pc ks pc' ts en S st x st' h he hl hd
  by_cases e : t = 30
  · subst e; exact v_30 hA.1 hB.1 τ d pc ks pc' ts en S st x st' h he hl hd
  by_cases e : t = 31
  · subst e; exact v_31 τ d pc ks pc' ts en S st x st' h he hl hd
  by_cases e : t = 32
  · subst e; exact v_32 HC hA.1 τ d pc ks pc' ts en S st x st' h he hl hd
  by_cases e : t = 34
  · subst e; exact v_34 HC hA.1 τ d pc ks pc' ts en S st x st' h he hl hd
  by_cases e : t = 35
  · subst e; exact v_35 HC hA.1 τ d pc ks pc' ts en S st x st' h he hl hd
  by_cases e : t = 36
  · subst e; exact v_36 HC hA.1 hB.1 τ d pc ks pc' ts en S st x st' h he hl hd
  exfalso
  dsimp only at h
  unfold c_val at h
  split at h <;> first | contradiction | cases h
theorem snd_node (HC : XClo dec lk lp pk rk thr rt rz xs L ck F cW hnd R X J) {t : Nat} (hA : PV dec J A EA ∧ PJ dec J A EA) (hB : PV dec J B EB ∧ PJ dec J B EB) (hC : PV dec J C EC ∧ PJ dec J C EC) :
    PV dec J (nodeC dec lk pk rk thr t a b c A B C) (nodeE xs L ck F cW t a b c EA EB EC) ∧ PJ dec J (nodeC dec lk pk rk thr t a b c A B C) (nodeE xs L ck F cW t a b c EA EB EC) := by
  refine ⟨?_, ?_⟩
  · intro τ d pc ks pc' ts en S st x st' h he hl hd
    by_cases ht : c_isC t = true
    · have h' : c_mat dec lk (c_jmp dec t c A B C τ d 1 pc) = some (ks, pc', ts) := by
        simpa [nodeC, ht] using h
      exact PV.mat HC (snd_jmp HC (t := t) hA hB hC) (cond_01 ht) τ d pc ks pc' ts en S st x st' h' he hl hd
    · have h' : c_val dec lk pk rk thr t a b c A B C τ d pc = some (ks, pc', ts) := by
        simpa [nodeC, ht] using h
      exact snd_val HC (t := t) hA hB hC τ d pc ks pc' ts en S st x st' h' he hl hd
  · intro τ d md pc ks pc' ts en S st x st' hm h he hl hd k1 k2
    have h' : c_jmp dec t c A B C τ d md pc = some (ks, pc', ts) := by
      have : md ≠ 0 := by omega
      simpa [nodeC, this] using h
    exact snd_jmp HC (t := t) hA hB hC τ d md pc ks pc' ts en S st x st' hm h' he hl hd k1 k2
theorem snd_E (HC : XClo dec lk lp pk rk thr rt rz xs L ck F cW hnd R X J) : (e : SX) → PV dec J (chE dec lk pk rk thr e) (evE xs L ck F cW e) ∧ PJ dec J (chE dec lk pk rk thr e) (evE xs L ck F cW e)
  | .op (.var t) (.op a (.op b c)) => snd_node HC (snd_E HC a) (snd_E HC b) (snd_E HC c)
  | .var _ => ⟨fun _ _ _ _ _ _ _ _ _ _ _ h => (by cases h), fun _ _ _ _ _ _ _ _ _ _ _ _ _ h => (by cases h)⟩
  | .op (.op _ _) _ => ⟨fun _ _ _ _ _ _ _ _ _ _ _ h => (by cases h), fun _ _ _ _ _ _ _ _ _ _ _ _ _ h => (by cases h)⟩
  | .op (.var _) (.var _) => ⟨fun _ _ _ _ _ _ _ _ _ _ _ h => (by cases h), fun _ _ _ _ _ _ _ _ _ _ _ _ _ h => (by cases h)⟩
  | .op (.var _) (.op _ (.var _)) => ⟨fun _ _ _ _ _ _ _ _ _ _ _ h => (by cases h), fun _ _ _ _ _ _ _ _ _ _ _ _ _ h => (by cases h)⟩
end JNJ
end
section
section JNS
variable {dec : XD} {lk lp : XK} {pk rk : Nat → List Nat} {thr : Nat → Bool} {rt : List Nat} {rz : Bool} {xs : Nat → Int} {L : Nat} {ck : Nat → List Nat} {F : XP} {cW : Nat → Nat → Int} {hnd : Nat → Option (Nat × Nat)} {R : List Int → XT → Prop} {X : XT → Prop} {K : Nat}
  {J : Nat → List Nat → List Int → List (Nat × Int) → XT → Prop} {a b c : SX} {A B C : XG} {EA EB EC : XR}
def PQ (dec : XD) (rt : List Nat) (R : List Int → XT → Prop) (X : XT → Prop) (J : Nat → List Nat → List Int → List (Nat × Int) → XT → Prop) (τ τB τC τ' : List Nat) (pc' : Nat) (al : Bool) (br ct : List Nat) (c : Nat) (v en' : List Int) (st' : XT) (G : Prop) : Prop :=
  en'.length = τ.length ∧ (c = 0 → al = true ∧ τ'.length = τ.length ∧ k_ok τ' = true) ∧ c ≤ 4 ∧ (c = 1 → v.length = rt.length) ∧ (c = 2 → br ≠ []) ∧
  ((c = 0 → J (j_ult dec pc') τ' en' [] st') → (c = 1 → R v st') → (c = 2 → ∀ t ∈ br, J (j_ult dec t) τB en' [] st') → (c = 3 → ∀ t ∈ ct, J (j_ult dec t) τC en' [] st') → (c = 4 → X st') → G)
def PG (dec : XD) (rt : List Nat) (R : List Int → XT → Prop) (X : XT → Prop) (J : Nat → List Nat → List Int → List (Nat × Int) → XT → Prop) (N : XG) (E : XR) : Prop := ∀ τ τB τC pc τ' pc' al br ct en st c v en' st', N τ τB τC pc = some (τ', pc', al, br, ct) → k_ok τ = true → en.length = τ.length → E en st = some (c, v, en', st') →
  PQ dec rt R X J τ τB τC τ' pc' al br ct c v en' st' (J (j_ult dec pc) τ en [] st)
theorem k_sub_len {τ τ' : List Nat} (h : k_sub τ τ' = true) : τ'.length = τ.length := by
  unfold k_sub at h
  rw [Bool.and_eq_true, beq_iff_eq] at h
  exact h.1.symm
/-- a statement that ends normally -/
theorem pq0 {τ τB τC : List Nat} {pc' : Nat} {en' : List Int} {st' : XT} {G : Prop} {τ' : List Nat} {br ct : List Nat} {v : List Int} (hk : k_ok τ' = true) (h1 : en'.length = τ.length) (h2 : τ'.length = τ.length) (g : J (j_ult dec pc') τ' en' [] st' → G) : PQ dec rt R X J τ τB τC τ' pc' true br ct 0 v en' st' G :=
  ⟨h1, fun _ => ⟨rfl, h2, hk⟩, by decide, fun h => (by cases h), fun h => (by cases h), fun k _ _ _ _ => g (k rfl)⟩
theorem t_1 : PG dec rt R X J (nodeG dec lk pk rk thr lp rt rz hnd 1 a b c A B C) (nodeS xs L ck F K cW 1 a b c EA EB EC) := by
  intro τ τB τC pc τ' pc' al br ct en st c v en' st' h hk hl he
  cases h; cases he
  exact pq0 hk hl rfl (fun k => k)
theorem t_2 (hA : PG dec rt R X J A EA) (hB : PG dec rt R X J B EB) : PG dec rt R X J (nodeG dec lk pk rk thr lp rt rz hnd 2 a b c A B C) (nodeS xs L ck F K cW 2 a b c EA EB EC) := by
  intro τ τB τC pc τ' pc' al br ct en st c v en' st' h hk hl he
  obtain ⟨⟨τ1, p1, al1, br1, ct1⟩, h1, h⟩ := j_bd h
  obtain ⟨h0, h⟩ := j_ifx h
  obtain ⟨⟨τ2, p2, al2, br2, ct2⟩, h2, h⟩ := j_bd h
  obtain ⟨⟨c1, v1, en1, s1⟩, he1, he⟩ := j_bd he
  cases h
  dsimp only at *
  obtain ⟨q1, q2, q5, q6, q7, q8⟩ := hA _ _ _ _ _ _ _ _ _ _ _ _ _ _ _ h1 hk hl he1
  split at he
  · rename_i hc
    subst hc
    obtain ⟨-, q3, q4⟩ := q2 rfl
    obtain ⟨r1, r2, r5, r6, r7, r8⟩ := hB _ _ _ _ _ _ _ _ _ _ _ _ _ _ _ h2 q4 (q1.trans q3.symm) he
    exact ⟨r1.trans q3, fun h => ⟨(r2 h).1, (r2 h).2.1.trans q3, (r2 h).2.2⟩, r5, r6, fun h => (by simp [r7 h]), fun k0 k1 k2 k3 k4 => q8 (fun _ => r8 k0 k1 (fun h t ht => k2 h t (List.mem_append_right _ ht)) (fun h t ht => k3 h t (List.mem_append_right _ ht)) k4) (fun h => (by cases h)) (fun h => (by cases h)) (fun h => (by cases h)) (fun h => (by cases h))⟩
  · rename_i hc
    cases he
    exact ⟨q1, fun h => absurd h hc, q5, q6, fun h => (by simp [q7 h]), fun k0 k1 k2 k3 k4 => q8 (fun h => absurd h hc) k1 (fun h t ht => k2 h t (List.mem_append_left _ ht)) (fun h t ht => k3 h t (List.mem_append_left _ ht)) k4⟩
theorem t_3 (HC : XClo dec lk lp pk rk thr rt rz xs L ck F cW hnd R X J) : PG dec rt R X J (nodeG dec lk pk rk thr lp rt rz hnd 3 a b c A B C) (nodeS xs L ck F K cW 3 a b c EA EB EC) := by
  have HE := snd_E HC
  obtain ⟨-, -, hst, -⟩ := HC
  intro τ τB τC pc τ' pc' al br ct en st c v en' st' h hk hl he
  obtain ⟨⟨kk, p1, t1⟩, h1, h⟩ := j_bd h
  dsimp only at h
  split at h
  · rename_i kd
    obtain ⟨⟨⟨g1, g2⟩, p2⟩, h2, h⟩ := j_bd h
    obtain ⟨⟨e1, e2, e3⟩, h⟩ := j_if h
    obtain ⟨⟨y, s1⟩, hy, he⟩ := j_bd he
    cases h; cases he
    cases e1
    obtain ⟨-, kk⟩ := (HE b).1.one (S := []) h1 hy hl (Nat.le_refl _)
    refine pq0 ?_ (by simp [hl]) (by simp) (fun k => kk (hst _ _ _ _ _ _ _ _ _ h2 e2 hl k))
    unfold k_ok at hk ⊢
    cases τ with
    | nil => simp
    | cons t0 τ =>
      cases hs : sx_n a with
      | zero => simpa [hs] using e3
      | succ i => simpa [hs] using hk
  · cases h
theorem t_4 (HC : XClo dec lk lp pk rk thr rt rz xs L ck F cW hnd R X J) : PG dec rt R X J (nodeG dec lk pk rk thr lp rt rz hnd 4 a b c A B C) (nodeS xs L ck F K cW 4 a b c EA EB EC) := by
  obtain ⟨-, -, -, hi, -⟩ := HC
  intro τ τB τC pc τ' pc' al br ct en st c v en' st' h hk hl he
  obtain ⟨⟨g, p1⟩, h1, h⟩ := j_bd h
  obtain ⟨⟨e1, e2, e3⟩, h⟩ := j_if h
  cases h; cases he
  dsimp only at *
  subst e1
  exact pq0 hk (by simp [hl]) rfl (fun k => hi _ _ _ _ _ _ _ _ h1 e2 e3 hl k)
theorem kc1 {k : Nat} (v : Int) (h : k ≠ 2) : k_cats (([(k, v)] : List (Nat × Int)).map (·.1)) ≤ 1 := by simp [k_cats, k_cat, h]
theorem kc2 {k k2 : Nat} (v w : Int) (h : k ≠ 2) (h2 : k2 ≠ 2) : k_cats (([(k, v), (k2, w)] : List (Nat × Int)).map (·.1)) ≤ 2 := by simp [k_cats, k_cat, h, h2]
theorem t_5 (HC : XClo dec lk lp pk rk thr rt rz xs L ck F cW hnd R X J) : PG dec rt R X J (nodeG dec lk pk rk thr lp rt rz hnd 5 a b c A B C) (nodeS xs L ck F K cW 5 a b c EA EB EC) := by
  have HE := snd_E HC
  obtain ⟨-, -, -, -, -, -, -, -, -, -, -, -, -, -, -, -, -, -, -, -, -, -, -, -, -, -, -, -, hp, -⟩ := HC
  intro τ τB τC pc τ' pc' al br ct en st c v en' st' h hk hl he
  obtain ⟨⟨ka, p1, t1⟩, h1, h⟩ := j_bd h
  obtain ⟨⟨kb, p2, t2⟩, h2, h⟩ := j_bd h
  obtain ⟨⟨⟨r1, r2, r3, r4⟩, p3⟩, h3, h⟩ := j_bd h
  obtain ⟨⟨e1, e2, e3, e4, e5, e6⟩, h⟩ := j_if h
  obtain ⟨⟨y, s1⟩, hy, he⟩ := j_bd he
  obtain ⟨⟨z, s2⟩, hz, he⟩ := j_bd he
  cases h; cases he
  dsimp only at *
  subst e1; subst e2; subst e3; subst e4; subst e6
  obtain ⟨-, k1⟩ := (HE a).1.one (S := []) h1 hy hl (Nat.le_refl _)
  obtain ⟨-, k2⟩ := (HE b).1.one (S := [(10 + r2, j_hd y)]) h2 hz hl (kc1 _ (by omega))
  exact pq0 hk hl rfl (fun k => k1 (k2 (hp _ _ _ _ _ _ _ _ _ _ h3 e5 k)))
theorem t_6 (HC : XClo dec lk lp pk rk thr rt rz xs L ck F cW hnd R X J) : PG dec rt R X J (nodeG dec lk pk rk thr lp rt rz hnd 6 a b c A B C) (nodeS xs L ck F K cW 6 a b c EA EB EC) := by
  have HE := snd_E HC
  obtain ⟨-, -, -, -, hg, -, -, -, -, -, -, -, -, ho, -, -, -, -, -, -, -, -, -, -, -, hdup, -, -, hp, -⟩ := HC
  intro τ τB τC pc τ' pc' al br ct en st c v en' st' h hk hl he
  obtain ⟨⟨ka, p1, t1⟩, h1, h⟩ := j_bd h
  obtain ⟨d1, h⟩ := j_ifx h
  obtain ⟨⟨⟨r1, r2, r3, r4⟩, p2⟩, h2, h⟩ := j_bd h
  obtain ⟨⟨e1, e2, e3, e4, e5⟩, h⟩ := j_ifx h
  obtain ⟨⟨kb, p3, t3⟩, h3, h⟩ := j_bd h
  obtain ⟨⟨o, p4⟩, h4, h⟩ := j_bd h
  obtain ⟨⟨u, p5⟩, h5, h⟩ := j_bd h
  obtain ⟨⟨f1, f2, f3, f4, f5⟩, h⟩ := j_if h
  obtain ⟨⟨y, s1⟩, hy, he⟩ := j_bd he
  obtain ⟨⟨z, s2⟩, hz, he⟩ := j_bd he
  cases h; cases he
  dsimp only at *
  subst e1; subst e2; subst e4; subst e5; subst f1; subst f2; subst f3; subst f4; subst f5
  rw [← e3]
  obtain ⟨-, k1⟩ := (HE a).1.one (S := []) h1 hy hl (Nat.le_refl _)
  obtain ⟨-, k2⟩ := (HE b).1.one (S := [(1, s1.2 (j_hd y).toNat r3), (10 + r2, j_hd y)]) h3 hz hl (kc2 _ _ (by omega) (by omega))
  exact pq0 hk hl rfl (fun k => k1 (hdup _ _ _ _ _ _ d1 (by dsimp only; omega) (hg _ _ _ _ _ _ _ _ _ h2 (Or.inl rfl) (k2 (ho _ _ _ _ _ _ _ _ h4 (hp _ _ _ _ _ _ _ _ _ _ h5 (Or.inl rfl) k))))))
theorem t_7 (HC : XClo dec lk lp pk rk thr rt rz xs L ck F cW hnd R X J) : PG dec rt R X J (nodeG dec lk pk rk thr lp rt rz hnd 7 a b c A B C) (nodeS xs L ck F K cW 7 a b c EA EB EC) := by
  have HE := snd_E HC
  obtain ⟨-, -, -, -, -, -, -, -, -, -, -, -, -, -, -, -, -, -, -, -, -, -, -, -, -, -, -, -, -, -, hp, -⟩ := HC
  intro τ τB τC pc τ' pc' al br ct en st c' v en' st' h hk hl he
  rcases c with n | ⟨c1, vv⟩
  · cases h
  rcases c1 with ty | ⟨z1, z2⟩
  · have h := h
    obtain ⟨⟨ka, p1, t1⟩, h1, h⟩ := j_bd h
    obtain ⟨⟨kb, p2, t2⟩, h2, h⟩ := j_bd h
    obtain ⟨⟨kc, p3, t3⟩, h3, h⟩ := j_bd h
    obtain ⟨⟨w, p4⟩, h4, h⟩ := j_bd h
    obtain ⟨⟨e1, e2, e3, e4, e5, e6, e7⟩, h⟩ := j_if h
    obtain ⟨⟨x, s0⟩, hx, he⟩ := j_bd he
    obtain ⟨⟨y, s1⟩, hy, he⟩ := j_bd he
    obtain ⟨⟨z, s2⟩, hz, he⟩ := j_bd he
    obtain ⟨⟨f1, f2⟩, he⟩ := j_if he
    cases h; cases he
    dsimp only at *
    subst e3; subst e4; subst e5; subst e7
    obtain ⟨-, k1⟩ := (HE a).1.one (S := []) h1 hx hl (Nat.le_refl _)
    obtain ⟨-, k2⟩ := (HE b).1.one (S := [(ty, j_hd x)]) h2 hy hl (kc1 _ (by omega))
    obtain ⟨-, k3⟩ := (HE vv).1.one (S := [(1, j_hd y), (ty, j_hd x)]) h3 hz hl (kc2 _ _ (by omega) (by omega))
    exact pq0 hk hl rfl (fun k => k1 (k2 (k3 (hp _ _ _ _ _ _ _ _ _ _ h4 e1 e2 e6 f1 f2 k))))
  · cases h
theorem t_8 (HC : XClo dec lk lp pk rk thr rt rz xs L ck F cW hnd R X J) : PG dec rt R X J (nodeG dec lk pk rk thr lp rt rz hnd 8 a b c A B C) (nodeS xs L ck F K cW 8 a b c EA EB EC) := by
  have HE := snd_E HC
  obtain ⟨-, -, -, -, -, -, hld, -, -, -, -, -, -, ho, -, -, -, -, -, -, -, -, -, -, -, -, hdup2, -, -, -, hp, -⟩ := HC
  intro τ τB τC pc τ' pc' al br ct en st c' v en' st' h hk hl he
  rcases c with n | ⟨c1, vv⟩
  · cases h
  rcases c1 with op | ⟨z1, z2⟩
  · have h := h
    obtain ⟨⟨ka, p1, t1⟩, h1, h⟩ := j_bd h
    obtain ⟨⟨kb, p2, t2⟩, h2, h⟩ := j_bd h
    obtain ⟨d1, h⟩ := j_ifx h
    obtain ⟨⟨g, p3⟩, h3, h⟩ := j_bd h
    obtain ⟨⟨e1, e2, e3, e4⟩, h⟩ := j_ifx h
    obtain ⟨⟨kc, p4, t4⟩, h4, h⟩ := j_bd h
    obtain ⟨⟨o, p5⟩, h5, h⟩ := j_bd h
    obtain ⟨⟨w, p6⟩, h6, h⟩ := j_bd h
    obtain ⟨⟨f1, f2, f3, f4, f5⟩, h⟩ := j_if h
    obtain ⟨⟨x, s0⟩, hx, he⟩ := j_bd he
    obtain ⟨⟨y, s1⟩, hy, he⟩ := j_bd he
    obtain ⟨⟨i1, i2⟩, he⟩ := j_ifx he
    obtain ⟨⟨z, s2⟩, hz, he⟩ := j_bd he
    obtain ⟨i3, he⟩ := j_if he
    have d6 : (6 : Nat) ≠ 2 := by decide
    have d5 : (1 : Nat) ≠ 2 := by decide
    cases h; cases he
    dsimp only at *
    subst e1; subst e2; subst e3; subst e4; subst f1; subst f2; subst f3; subst f4; subst f5
    obtain ⟨-, k1⟩ := (HE a).1.one (S := []) h1 hx hl (Nat.le_refl _)
    obtain ⟨-, k2⟩ := (HE b).1.one (S := [(6, j_hd x)]) h2 hy hl (kc1 _ (by omega))
    obtain ⟨-, k3⟩ := (HE vv).1.one (S := [(1, s1.2 (j_hd x).toNat (j_hd y).toNat), (1, j_hd y), (6, j_hd x)]) h4 hz hl (by simp [k_cats, k_cat])
    exact pq0 hk hl rfl (fun k => k1 (k2 (hdup2 _ _ _ _ _ _ _ d1 d5 d6 (hld _ 6 6 _ _ _ _ _ _ h3 (by decide) (by decide) rfl i1 i2 (k3 (ho _ _ _ _ _ _ _ _ h5 (hp _ 6 6 _ _ _ _ _ _ _ h6 (by decide) (by decide) rfl i1 i3 k)))))))
  · cases h
theorem t_9 (HC : XClo dec lk lp pk rk thr rt rz xs L ck F cW hnd R X J) : PG dec rt R X J (nodeG dec lk pk rk thr lp rt rz hnd 9 a b c A B C) (nodeS xs L ck F K cW 9 a b c EA EB EC) := by
  have HE := snd_E HC
  obtain ⟨-, -, -, -, -, -, -, -, -, -, -, -, -, -, -, -, -, -, -, -, -, -, -, -, -, -, -, hpop, -⟩ := HC
  intro τ τB τC pc τ' pc' al br ct en st c' v en' st' h hk hl he
  obtain ⟨⟨ka, p1, t1⟩, h1, h⟩ := j_bd h
  obtain ⟨⟨x, s0⟩, hx, he⟩ := j_bd he
  cases he
  dsimp only at h
  split at h
  · cases h
    obtain ⟨q1, q2⟩ := (HE a).1 _ _ _ _ _ _ _ [] _ _ _ h1 hx hl (Nat.le_refl _)
    have : x = [] := List.length_eq_zero_iff.mp q1
    subst this
    exact pq0 hk hl rfl (fun k => q2 k)
  · obtain ⟨⟨e1, e2⟩, h⟩ := j_if h
    cases h
    obtain ⟨-, k1⟩ := (HE a).1.one (S := []) h1 hx hl (Nat.le_refl _)
    exact pq0 hk hl rfl (fun k => k1 (hpop _ _ _ _ _ _ e2 e1 k))
  · cases h
theorem t_10 (HC : XClo dec lk lp pk rk thr rt rz xs L ck F cW hnd R X J) (hB : PG dec rt R X J B EB) : PG dec rt R X J (nodeG dec lk pk rk thr lp rt rz hnd 10 a b c A B C) (nodeS xs L ck F K cW 10 a b c EA EB EC) := by
  have HE := snd_E HC
  obtain ⟨-, -, -, -, -, -, -, -, -, -, -, -, -, -, -, -, -, -, -, -, -, -, -, -, -, -, -, -, -, -, -, -, -, -, -, -, hmono, -⟩ := HC
  intro τ τB τC pc τ' pc' al br ct en st c' v en' st' h hk hl he
  obtain ⟨⟨ka, p1, t1⟩, h1, h⟩ := j_bd h
  obtain ⟨⟨τ1, p2, al1, br1, ct1⟩, h2, h⟩ := j_bd h
  obtain ⟨⟨e1, e2⟩, h⟩ := j_if h
  obtain ⟨⟨x, s0⟩, hx, he⟩ := j_bd he
  cases h
  dsimp only at *
  have key := (HE a).2 τ 0 1 pc _ _ _ en [] st x s0 (Or.inl rfl) h1 hx hl (Nat.le_refl _)
  split at he
  · rename_i hz
    cases he
    exact pq0 hk hl rfl (fun k => key (fun _ t ht => by rw [c_all_spec e2 ht]; exact k) (fun n => absurd hz n))
  · rename_i hz
    obtain ⟨r1, r2, r5, r6, r7, r8⟩ := hB _ _ _ _ _ _ _ _ _ _ _ _ _ _ _ h2 hk hl he
    exact ⟨r1, fun h => ⟨rfl, rfl, hk⟩, r5, r6, r7, fun k0 k1 k2 k3 k4 => key (fun n => absurd n hz) (fun _ => r8 (fun h => hmono _ _ _ _ _ _ e1 (k0 h)) k1 k2 k3 k4)⟩
theorem t_11 (HC : XClo dec lk lp pk rk thr rt rz xs L ck F cW hnd R X J) (hB : PG dec rt R X J B EB) (hC : PG dec rt R X J C EC) : PG dec rt R X J (nodeG dec lk pk rk thr lp rt rz hnd 11 a b c A B C) (nodeS xs L ck F K cW 11 a b c EA EB EC) := by
  have HE := snd_E HC
  obtain ⟨-, -, -, -, -, -, -, -, -, -, -, -, -, -, -, -, -, -, -, -, -, -, -, -, -, -, -, -, -, -, -, -, -, -, -, -, hmono, -⟩ := HC
  intro τ τB τC pc τ' pc' al br ct en st c' v en' st' h hk hl he
  obtain ⟨⟨ka, p1, t1⟩, h1, h⟩ := j_bd h
  obtain ⟨⟨τ1, p2, al1, br1, ct1⟩, h2, h⟩ := j_bd h
  obtain ⟨⟨e1, e2, e3⟩, h⟩ := j_ifx h
  obtain ⟨⟨τ2, p3, al2, br2, ct2⟩, h3, h⟩ := j_bd h
  obtain ⟨⟨e4, e5⟩, h⟩ := j_if h
  obtain ⟨⟨x, s0⟩, hx, he⟩ := j_bd he
  cases h
  dsimp only at *
  have key := (HE a).2 τ 0 1 pc _ _ _ en [] st x s0 (Or.inl rfl) h1 hx hl (Nat.le_refl _)
  split at he
  · rename_i hz
    obtain ⟨r1, r2, r5, r6, r7, r8⟩ := hC _ _ _ _ _ _ _ _ _ _ _ _ _ _ _ h3 hk hl he
    exact ⟨r1, fun h => ⟨by simp [(r2 h).1], rfl, hk⟩, r5, r6, fun h => (by simp [r7 h]), fun k0 k1 k2 k3 k4 => key (fun _ t ht => by
      rw [c_all_spec e3 ht]
      exact r8 (fun h => hmono _ _ _ _ _ _ e4 (k0 h)) k1 (fun h t ht => k2 h t (List.mem_append_right _ ht)) (fun h t ht => k3 h t (List.mem_append_right _ ht)) k4) (fun n => absurd hz n)⟩
  · rename_i hz
    obtain ⟨r1, r2, r5, r6, r7, r8⟩ := hB _ _ _ _ _ _ _ _ _ _ _ _ _ _ _ h2 hk hl he
    exact ⟨r1, fun h => ⟨by simp [(r2 h).1], rfl, hk⟩, r5, r6, fun h => (by simp [r7 h]), fun k0 k1 k2 k3 k4 => key (fun n => absurd n hz) (fun _ => r8 (fun h => hmono _ _ _ _ _ _ e1 (by
      rw [e5 (r2 h).1]
      exact k0 h)) k1 (fun h t ht => k2 h t (List.mem_append_left _ ht)) (fun h t ht => k3 h t (List.mem_append_left _ ht)) k4)⟩
theorem n03 {c k : Nat} {P : Prop} (h : c = 0 ∨ c = 3) (e : c = k) (h0 : k ≠ 0) (h3 : k ≠ 3) : P := h.elim (fun q => absurd (e.symm.trans q) h0) (fun q => absurd (e.symm.trans q) h3)
theorem m03 {Q P : Prop} (h : ¬ Q) (q : Q) : P := absurd q h
theorem nn2 {c k j : Nat} {P : Prop} (h : c = j) (e : c = k) (h0 : j ≠ k) : P := absurd (h.symm.trans e) h0
theorem t_12 (HC : XClo dec lk lp pk rk thr rt rz xs L ck F cW hnd R X J) (hB : PG dec rt R X J B EB) (hC : PG dec rt R X J C EC) : PG dec rt R X J (nodeG dec lk pk rk thr lp rt rz hnd 12 a b c A B C) (nodeS xs L ck F K cW 12 a b c EA EB EC) := by
  have HE := snd_E HC
  obtain ⟨-, -, -, -, -, -, -, -, -, -, -, -, -, -, -, -, -, -, -, -, -, -, -, -, -, -, -, -, -, -, -, -, -, -, -, -, hmono, -⟩ := HC
  intro τ τB τC pc τ' pc' al br ct en st c' v en' st' h hk hl he
  obtain ⟨⟨ka, p1, t1⟩, h1, h⟩ := j_bd h
  obtain ⟨⟨τ1, p2, al1, br1, ct1⟩, h2, h⟩ := j_bd h
  obtain ⟨⟨τ2, p3, al2, br2, ct2⟩, h3, h⟩ := j_bd h
  obtain ⟨⟨e1, e2, e3, e4, e5, e6, e7, e8⟩, h⟩ := j_if h
  cases h
  dsimp only at *
  cases e3
  have loop : ∀ (n : Nat) (en : List Int) (st : XT), en.length = τ.length → s_loop (evE xs L ck F cW a) EB EC n en st = some (c', v, en', st') → PQ dec rt R X J τ τB τC τ (p3 + 3) true [] [] c' v en' st' (J (j_ult dec pc) τ en [] st) := by
    intro n
    induction n with
    | zero => intro en st hl he; cases he
    | succ n ih =>
      intro en st hl he
      obtain ⟨⟨x, s0⟩, hx, he⟩ := j_bd he
      have key := (HE a).2 τ 0 1 pc _ _ _ en [] st x s0 (Or.inl rfl) h1 hx hl (Nat.le_refl _)
      dsimp only at he
      split at he
      · rename_i hz
        cases he
        exact pq0 hk hl rfl (fun k => key (fun _ t ht => by rw [c_all_spec e6 ht]; exact k) (fun n => absurd hz n))
      · rename_i hz
        obtain ⟨⟨c1, v1, en1, s1⟩, hb, he⟩ := j_bd he
        dsimp only at he
        obtain ⟨r1, r2, r5, r6, r7, r8⟩ := hB _ _ _ _ _ _ _ _ _ _ _ _ _ _ _ h2 hk hl hb
        split at he
        · rename_i h03
          obtain ⟨⟨c2, v2, en2, s2⟩, hp, he⟩ := j_bd he
          dsimp only at he
          obtain ⟨u1, u2, u5, u6, u7, u8⟩ := hC _ _ _ _ _ _ _ _ _ _ _ _ _ _ _ h3 hk r1 hp
          obtain ⟨hc2, he⟩ := j_ifx he
          subst hc2
          obtain ⟨w1, w2, w5, w6, w7, w8⟩ := ih en2 s2 u1 he
          refine ⟨w1, w2, w5, w6, w7, fun k0 k1 k2 k3 k4 => ?_⟩
          have step : J (j_ult dec p2) τ en1 [] s1 := u8 (fun _ => hmono _ _ _ _ _ _ e2 (by rw [e5]; exact w8 k0 k1 k2 k3 k4)) (fun h => (by cases h)) (fun h => (by cases h)) (fun h => (by cases h)) (fun h => (by cases h))
          refine key (fun n => absurd n hz) (fun _ => r8 (fun _ => hmono _ _ _ _ _ _ e1 step) (fun h => n03 h03 h (by decide) (by decide)) (fun h => n03 h03 h (by decide) (by decide)) (fun _ t ht => ?_) (fun h => n03 h03 h (by decide) (by decide)))
          rw [c_all_spec e8 ht]
          exact step
        · rename_i h03
          split at he
          · rename_i hc2
            cases he
            refine pq0 hk r1 rfl (fun k => key (fun n => absurd n hz) (fun _ => r8 (fun h => m03 h03 (Or.inl h)) (fun h => nn2 hc2 h (by decide)) (fun _ t ht => ?_) (fun h => m03 h03 (Or.inr h)) (fun h => nn2 hc2 h (by decide))))
            rw [c_all_spec e7 ht]
            exact k
          · rename_i hc2
            cases he
            exact ⟨r1, fun h => ⟨rfl, rfl, hk⟩, r5, r6, fun h => absurd h hc2, fun k0 k1 k2 k3 k4 => key (fun n => absurd n hz) (fun _ => r8 (fun h => m03 h03 (Or.inl h)) k1 (fun h => absurd h hc2) (fun h => m03 h03 (Or.inr h)) k4)⟩
  exact loop K en st hl he
theorem t_13 (HC : XClo dec lk lp pk rk thr rt rz xs L ck F cW hnd R X J) (hB : PG dec rt R X J B EB) : PG dec rt R X J (nodeG dec lk pk rk thr lp rt rz hnd 13 a b c A B C) (nodeS xs L ck F K cW 13 a b c EA EB EC) := by
  have HE := snd_E HC
  obtain ⟨-, -, -, -, -, -, -, -, -, -, -, -, -, -, -, -, -, -, -, -, -, -, -, -, -, -, -, -, -, -, -, -, -, -, -, -, hmono, -⟩ := HC
  intro τ τB τC pc τ' pc' al br ct en st c' v en' st' h hk hl he
  obtain ⟨⟨τ1, p1, al1, br1, ct1⟩, h1, h⟩ := j_bd h
  obtain ⟨⟨ka, p2, t2⟩, h2, h⟩ := j_bd h
  obtain ⟨⟨e1, e2, e3, e4⟩, h⟩ := j_if h
  cases h
  dsimp only at *
  have loop : ∀ (n : Nat) (en : List Int) (st : XT), en.length = τ.length → s_do EB (evE xs L ck F cW a) n en st = some (c', v, en', st') → PQ dec rt R X J τ τB τC τ p2 true [] [] c' v en' st' (J (j_ult dec pc) τ en [] st) := by
    intro n
    induction n with
    | zero => intro en st hl he; cases he
    | succ n ih =>
      intro en st hl he
      obtain ⟨⟨c1, v1, en1, s1⟩, hb, he⟩ := j_bd he
      dsimp only at he
      obtain ⟨r1, r2, r5, r6, r7, r8⟩ := hB _ _ _ _ _ _ _ _ _ _ _ _ _ _ _ h1 hk hl hb
      split at he
      · rename_i h03
        obtain ⟨⟨x, s2⟩, hx, he⟩ := j_bd he
        dsimp only at he
        have key := (HE a).2 τ 0 2 p1 _ _ _ en1 [] s1 x s2 (Or.inr rfl) h2 hx r1 (Nat.le_refl _)
        split at he
        · rename_i hz
          cases he
          refine pq0 hk r1 rfl (fun k => ?_)
          have step : J (j_ult dec p1) τ en' [] s1 := key (fun n => absurd hz n) (fun _ => k)
          refine r8 (fun _ => hmono _ _ _ _ _ _ e1 step) (fun h => n03 h03 h (by decide) (by decide)) (fun h => n03 h03 h (by decide) (by decide)) (fun _ t ht => ?_) (fun h => n03 h03 h (by decide) (by decide))
          rw [c_all_spec e4 ht]
          exact step
        · rename_i hz
          obtain ⟨w1, w2, w5, w6, w7, w8⟩ := ih en1 s2 r1 he
          refine ⟨w1, w2, w5, w6, w7, fun k0 k1 k2 k3 k4 => ?_⟩
          have step : J (j_ult dec p1) τ en1 [] s1 := key (fun _ t ht => by rw [c_all_spec e2 ht]; exact w8 k0 k1 k2 k3 k4) (fun n => absurd hz n)
          refine r8 (fun _ => hmono _ _ _ _ _ _ e1 step) (fun h => n03 h03 h (by decide) (by decide)) (fun h => n03 h03 h (by decide) (by decide)) (fun _ t ht => ?_) (fun h => n03 h03 h (by decide) (by decide))
          rw [c_all_spec e4 ht]
          exact step
      · rename_i h03
        split at he
        · rename_i hc2
          cases he
          refine pq0 hk r1 rfl (fun k => r8 (fun h => m03 h03 (Or.inl h)) (fun h => nn2 hc2 h (by decide)) (fun _ t ht => ?_) (fun h => m03 h03 (Or.inr h)) (fun h => nn2 hc2 h (by decide)))
          rw [c_all_spec e3 ht]
          exact k
        · rename_i hc2
          cases he
          exact ⟨r1, fun h => ⟨rfl, rfl, hk⟩, r5, r6, fun h => absurd h hc2, fun k0 k1 k2 k3 k4 => r8 (fun h => m03 h03 (Or.inl h)) k1 (fun h => absurd h hc2) (fun h => m03 h03 (Or.inr h)) k4⟩
  exact loop K en st hl he
theorem t_14 (HC : XClo dec lk lp pk rk thr rt rz xs L ck F cW hnd R X J) : PG dec rt R X J (nodeG dec lk pk rk thr lp rt rz hnd 14 a b c A B C) (nodeS xs L ck F K cW 14 a b c EA EB EC) := by
  obtain ⟨-, -, -, -, -, -, -, -, -, -, -, -, -, -, -, -, -, -, -, -, -, -, -, -, -, -, -, -, -, -, -, -, -, -, -, -, hmono, -⟩ := HC
  intro τ τB τC pc τ' pc' al br ct en st c' v en' st' h hk hl he
  obtain ⟨e1, h⟩ := j_if h
  cases h; cases he
  exact ⟨hl, fun h => (by cases h), by decide, fun h => (by cases h), fun _ => (by simp), fun k0 k1 k2 k3 k4 => hmono _ _ _ _ _ _ e1 (k2 rfl _ (List.mem_singleton.mpr rfl))⟩
theorem t_15 (HC : XClo dec lk lp pk rk thr rt rz xs L ck F cW hnd R X J) : PG dec rt R X J (nodeG dec lk pk rk thr lp rt rz hnd 15 a b c A B C) (nodeS xs L ck F K cW 15 a b c EA EB EC) := by
  obtain ⟨-, -, -, -, -, -, -, -, -, -, -, -, -, -, -, -, -, -, -, -, -, -, -, -, -, -, -, -, -, -, -, -, -, -, -, -, hmono, -⟩ := HC
  intro τ τB τC pc τ' pc' al br ct en st c' v en' st' h hk hl he
  obtain ⟨e1, h⟩ := j_if h
  cases h; cases he
  exact ⟨hl, fun h => (by cases h), by decide, fun h => (by cases h), fun h => (by cases h), fun k0 k1 k2 k3 k4 => hmono _ _ _ _ _ _ e1 (k3 rfl _ (List.mem_singleton.mpr rfl))⟩
theorem t_16 (HC : XClo dec lk lp pk rk thr rt rz xs L ck F cW hnd R X J) : PG dec rt R X J (nodeG dec lk pk rk thr lp rt rz hnd 16 a b c A B C) (nodeS xs L ck F K cW 16 a b c EA EB EC) := by
  have HE := snd_E HC
  obtain ⟨-, -, -, -, -, -, -, -, -, -, -, -, -, -, -, -, -, -, -, -, -, -, -, -, -, -, -, -, -, -, -, hret, -⟩ := HC
  intro τ τB τC pc τ' pc' al br ct en st c' v en' st' h hk hl he
  obtain ⟨⟨ka, p1, t1⟩, h1, h⟩ := j_bd h
  obtain ⟨⟨x, s0⟩, hx, he⟩ := j_bd he
  cases he
  dsimp only at h
  split at h
  · obtain ⟨⟨e1, e2, ez, e3⟩, h⟩ := j_if h
    cases h
    obtain ⟨ex, k1⟩ := (HE a).1.one (S := []) h1 hx hl (Nat.le_refl _)
    refine ⟨hl, fun h => (by cases h), by decide, fun _ => (by rw [ex, e2]; rfl), fun h => (by cases h), fun _ k _ _ _ => k1 (hret _ _ _ _ _ _ e2 ez e1 e3 ?_)⟩
    have := k rfl
    rw [ex] at this
    exact this
  · cases h
theorem t_17 (HC : XClo dec lk lp pk rk thr rt rz xs L ck F cW hnd R X J) : PG dec rt R X J (nodeG dec lk pk rk thr lp rt rz hnd 17 a b c A B C) (nodeS xs L ck F K cW 17 a b c EA EB EC) := by
  obtain ⟨-, -, -, -, -, -, -, -, -, -, -, -, -, -, -, -, -, -, -, -, -, -, -, -, -, -, -, -, -, -, -, -, hret, -⟩ := HC
  intro τ τB τC pc τ' pc' al br ct en st c' v en' st' h hk hl he
  obtain ⟨⟨e1, e2⟩, h⟩ := j_if h
  cases h; cases he
  exact ⟨hl, fun h => (by cases h), by decide, fun _ => (by rw [e1]; rfl), fun h => (by cases h), fun _ k _ _ _ => hret _ _ _ _ e1 e2 (k rfl)⟩
theorem t_18 (HC : XClo dec lk lp pk rk thr rt rz xs L ck F cW hnd R X J) : PG dec rt R X J (nodeG dec lk pk rk thr lp rt rz hnd 18 a b c A B C) (nodeS xs L ck F K cW 18 a b c EA EB EC) := by
  obtain ⟨-, -, -, -, -, -, -, -, -, -, -, -, -, -, -, -, -, -, -, -, -, -, -, -, -, -, -, -, -, -, -, -, -, hthr, -⟩ := HC
  intro τ τB τC pc τ' pc' al br ct en st c' v en' st' h hk hl he
  obtain ⟨e1, h⟩ := j_if h
  cases h; cases he
  exact ⟨hl, fun h => (by cases h), by decide, fun h => (by cases h), fun h => (by cases h), fun _ _ _ _ k => hthr _ _ _ _ e1 (k rfl)⟩
theorem t_20 (HC : XClo dec lk lp pk rk thr rt rz xs L ck F cW hnd R X J) (hA : PG dec rt R X J A EA) : PG dec rt R X J (nodeG dec lk pk rk thr lp rt rz hnd 20 a b c A B C) (nodeS xs L ck F K cW 20 a b c EA EB EC) := by
  obtain ⟨-, -, -, -, -, -, -, -, -, -, -, -, -, -, -, -, -, -, -, -, -, -, -, -, -, -, -, -, -, -, -, -, -, -, -, -, hmono, -⟩ := HC
  intro τ τB τC pc τ' pc' al br ct en st c' v en' st' h hk hl he
  obtain ⟨⟨τ1, p1, al1, br1, ct1⟩, h1, h⟩ := j_bd h
  obtain ⟨e1, h⟩ := j_if h
  cases h
  obtain ⟨r1, r2, r5, r6, r7, r8⟩ := hA _ _ _ _ _ _ _ _ _ _ _ _ _ _ _ h1 hk hl he
  exact ⟨r1, fun h => ⟨(r2 h).1, rfl, hk⟩, r5, r6, r7, fun k0 k1 k2 k3 k4 => r8 (fun h => hmono _ _ _ _ _ _ e1 (k0 h)) k1 k2 k3 k4⟩
theorem t_21 (HC : XClo dec lk lp pk rk thr rt rz xs L ck F cW hnd R X J) : PG dec rt R X J (nodeG dec lk pk rk thr lp rt rz hnd 21 a b c A B C) (nodeS xs L ck F K cW 21 a b c EA EB EC) := by
  have HE := snd_E HC
  obtain ⟨-, -, -, -, -, -, -, -, -, -, -, -, -, -, -, -, -, -, -, -, -, -, -, -, -, -, -, -, -, hp, -⟩ := HC
  intro τ τB τC pc τ' pc' al br ct en st c' v en' st' h hk hl he
  obtain ⟨⟨ka, p1, t1⟩, h1, h⟩ := j_bd h
  obtain ⟨⟨kb, p2, t2⟩, h2, h⟩ := j_bd h
  obtain ⟨⟨⟨r1, r2, r3, r4⟩, p3⟩, h3, h⟩ := j_bd h
  obtain ⟨⟨e1, e2, e3, e4, e5, e6⟩, h⟩ := j_if h
  obtain ⟨⟨y, s1⟩, hy, he⟩ := j_bd he
  obtain ⟨⟨z, s2⟩, hz, he⟩ := j_bd he
  cases h; cases he
  dsimp only at *
  subst e1; subst e2; subst e3; subst e4; subst e6
  obtain ⟨-, k1⟩ := (HE a).1.one (S := []) h1 hy hl (Nat.le_refl _)
  obtain ⟨-, k2⟩ := (HE b).1.one (S := [(10 + r2, j_hd y)]) h2 hz hl (kc1 _ (by omega))
  exact pq0 hk hl rfl (fun k => k1 (k2 (hp _ _ _ _ _ _ _ _ _ _ h3 e5 k)))
theorem t_22 (HC : XClo dec lk lp pk rk thr rt rz xs L ck F cW hnd R X J) : PG dec rt R X J (nodeG dec lk pk rk thr lp rt rz hnd 22 a b c A B C) (nodeS xs L ck F K cW 22 a b c EA EB EC) := by
  obtain ⟨-, hload, -, -, -, -, -, -, -, -, -, -, -, -, -, -, -, -, -, -, -, -, -, -, -, -, -, -, -, -, -, -, -, -, hoi, -⟩ := HC
  intro τ τB τC pc τ' pc' al br ct en st c' v en' st' h hk hl he
  obtain ⟨⟨g, p1⟩, h1, h⟩ := j_bd h
  dsimp only at h
  split at h
  · rename_i i hd
    obtain ⟨⟨e1, e2, e3⟩, h⟩ := j_if h
    cases h; cases he
    subst e1
    split at e3
    · rename_i z hz
      have ht : τ[0]? = some (τ.getD 0 0) := by
        cases τ with
        | nil => simp at e2
        | cons t0 τ => simp
      have hcl : k_cl (τ.getD 0 0) = 3 := by
        unfold k_cl
        rw [if_neg (by omega), if_neg (by omega)]
      exact pq0 hk hl rfl (fun k => hload _ _ _ _ _ _ _ _ _ h1 ht (by omega) hcl hl (by
        have q := hoi p1 i z (τ.getD 0 0) (en.getD 0 0) τ en [] st rfl hd hz e2 k
        exact q))
    · cases e3
  · cases h
end JNS
end
section
section JNT
variable {dec : XD} {lk lp : XK} {pk rk : Nat → List Nat} {thr : Nat → Bool} {rt : List Nat} {rz : Bool} {xs : Nat → Int} {L : Nat} {ck : Nat → List Nat} {F : XP} {cW : Nat → Nat → Int} {hnd : Nat → Option (Nat × Nat)} {R : List Int → XT → Prop} {X : XT → Prop} {K : Nat}
  {J : Nat → List Nat → List Int → List (Nat × Int) → XT → Prop} {a b c : SX} {A B C : XG} {EA EB EC : XR}
def PKc (dec : XD) (rt : List Nat) (R : List Int → XT → Prop) (X : XT → Prop) (J : Nat → List Nat → List Int → List (Nat × Int) → XT → Prop) (N : XG) (E : XR) (s : SX) : Prop := ∀ sw w τ τB τC pc τ' pc' al br ct en st c v en' st', N ((500 + sw) :: τ) τB τC pc = some (τ', pc', al, br, ct) → k_ok τ = true → en.length = τ.length → E (w :: en) st = some (c, v, en', st') →
  c_swOk dec sw = true → ((sx_all s).any (fun n => decide (w = sx_z n)) = true ∨ c_swT dec sw w = c_swD dec sw) →
  en'.length = τ.length ∧ (c = 0 → al = true) ∧ c ≤ 4 ∧ (c = 1 → v.length = rt.length) ∧ (c = 2 → br ≠ []) ∧
  ((c = 0 → J (j_ult dec pc') τ en' [] st') → (c = 1 → R v st') → (c = 2 → ∀ t ∈ br, J (j_ult dec t) τB en' [] st') → (c = 3 → ∀ t ∈ ct, J (j_ult dec t) τC en' [] st') → (c = 4 → X st') → J (j_ult dec sw) τ en [(1, w)] st)
theorem t_24 (HC : XClo dec lk lp pk rk thr rt rz xs L ck F cW hnd R X J) : PG dec rt R X J (nodeG dec lk pk rk thr lp rt rz hnd 24 a b c A B C) (nodeS xs L ck F K cW 24 a b c EA EB EC) := by
  have HE := snd_E HC
  have one : (1 : Nat) ≠ 0 := by decide
  obtain ⟨hconst, -, -, -, -, -, -, -, -, -, -, -, -, -, -, -, -, hun, -, -, -, -, -, -, -, -, -, -, -, -, hast, hret, -, -, -, -, -, hlen, hx, -⟩ := HC
  intro τ τB τC pc τ' pc' al br ct en st c' v en' st' h hk hl he
  obtain ⟨⟨ka, p1, t1⟩, h1, h⟩ := j_bd h
  obtain ⟨⟨e1, e2⟩, h⟩ := j_ifx h
  obtain ⟨⟨kb, p2, t2⟩, h2, h⟩ := j_bd h
  obtain ⟨⟨f, p3⟩, h3, h⟩ := j_bd h
  obtain ⟨⟨q, k0⟩, h4, h⟩ := j_bd h
  obtain ⟨⟨g1, g2, g3, g4, g5, g6, gz, g7, g8, g9, g10, g11, g12, g13⟩, h⟩ := j_if h
  obtain ⟨⟨x, s0⟩, hx0, he⟩ := j_bd he
  obtain ⟨⟨y, s1⟩, hy, he⟩ := j_bd he
  obtain ⟨⟨cc, r, s2⟩, hr, he⟩ := j_bd he
  cases h
  dsimp only at *
  subst e1; subst g1; subst g2; subst g3
  obtain ⟨-, k1⟩ := (HE a).1.one (S := []) h1 hx0 hl (Nat.le_refl _)
  obtain ⟨a2, k2⟩ := (HE b).1 _ _ _ _ _ _ _ [(1, 0), (7, j_hd x)] _ _ _ h2 hy hl (Nat.le_refl _)
  have call := hx _ _ _ _ τ en [(1, 0), (7, j_hd x)] _ _ _ _ _ h3 g5 h4 g7 g8 hr a2 (Nat.le_of_ble_eq_true rfl)
  split at he
  · rename_i hc
    obtain ⟨i1, he⟩ := j_if he
    cases he
    subst hc
    have er : r = [j_hd r] := j_z1 (k := 1) (by rw [hlen _ _ _ _ _ hr, g4])
    refine pq0 hk hl rfl (fun k => k1 (hconst _ _ (1, 0) _ _ _ _ (c_one_spec e2) one (k2 (call ?_ ?_ (Or.inl rfl)))))
    · intro _
      rw [g4, er]
      refine hun _ _ _ _ _ _ _ _ _ g9 (hast _ 7 7 _ _ _ _ _ _ _ g10 (by decide) (by decide) rfl (Int.le_refl _) i1 ?_)
      rw [g11]
      exact k
    · intro n
      cases n
  · rename_i hc
    obtain ⟨hc4, he⟩ := j_if he
    cases he
    refine ⟨hl, fun h => (by cases h), by decide, fun _ => (by rw [g6]; rfl), fun h => (by cases h), fun _ kr _ _ _ => k1 (hconst _ _ (1, 0) _ _ _ _ (c_one_spec e2) one (k2 (call ?_ ?_ (Or.inr hc4))))⟩
    · intro n
      exact absurd n hc
    · intro _
      exact hconst _ _ (1, 1) _ _ _ _ (c_one_spec g12) one (hret _ 1 1 _ _ _ g6 gz one g13 (kr rfl))
theorem t_23 (HC : XClo dec lk lp pk rk thr rt rz xs L ck F cW hnd R X J) : PG dec rt R X J (nodeG dec lk pk rk thr lp rt rz hnd 23 a b c A B C) (nodeS xs L ck F K cW 23 a b c EA EB EC) := by
  have HE := snd_E HC
  obtain ⟨-, -, -, -, -, -, -, -, -, -, -, -, -, -, -, -, -, -, -, -, -, -, -, -, -, -, -, -, -, -, -, -, -, -, -, -, -, -, -, hp, -⟩ := HC
  intro τ τB τC pc τ' pc' al br ct en st c' v en' st' h hk hl he
  obtain ⟨⟨ka, p1, t1⟩, h1, h⟩ := j_bd h
  obtain ⟨⟨kb, p2, t2⟩, h2, h⟩ := j_bd h
  obtain ⟨⟨⟨r1, r2, r3, r4⟩, p3⟩, h3, h⟩ := j_bd h
  obtain ⟨⟨e1, e2, e3, e4, e5, e6⟩, h⟩ := j_if h
  obtain ⟨⟨y, s1⟩, hy, he⟩ := j_bd he
  obtain ⟨⟨z, s2⟩, hz, he⟩ := j_bd he
  obtain ⟨e7, he⟩ := j_if he
  cases h; cases he
  dsimp only at *
  subst e1; subst e2; subst e3; subst e4; subst e5; subst e6
  obtain ⟨-, k1⟩ := (HE a).1.one (S := []) h1 hy hl (Nat.le_refl _)
  obtain ⟨-, k2⟩ := (HE b).1.one (S := [(10 + r2, j_hd y)]) h2 hz hl (kc1 _ (by omega))
  exact pq0 hk hl rfl (fun k => k1 (k2 (hp _ _ _ _ _ _ _ _ _ h3 e7 k)))
theorem t_27 (HC : XClo dec lk lp pk rk thr rt rz xs L ck F cW hnd R X J) : PG dec rt R X J (nodeG dec lk pk rk thr lp rt rz hnd 27 a b c A B C) (nodeS xs L ck F K cW 27 a b c EA EB EC) := by
  have HE := snd_E HC
  obtain ⟨-, -, -, -, -, -, -, -, -, -, -, -, -, -, -, -, -, -, -, -, -, -, -, -, -, -, -, -, -, -, -, -, -, -, -, -, -, -, -, -, hret⟩ := HC
  intro τ τB τC pc τ' pc' al br ct en st c' v en' st' h hk hl he
  obtain ⟨⟨ka, p1, t1⟩, h1, h⟩ := j_bd h
  obtain ⟨⟨e0, e1, e2, e3⟩, h⟩ := j_if h
  obtain ⟨⟨x, s0⟩, hx, he⟩ := j_bd he
  obtain ⟨e4, he⟩ := j_if he
  cases h; cases he
  dsimp only at *
  subst e0
  obtain ⟨ex, k1⟩ := (HE a).1.one (S := []) h1 hx hl (Nat.le_refl _)
  refine ⟨hl, fun h => (by cases h), by decide, fun _ => (by rw [ex, e1]; rfl), fun h => (by cases h), fun _ k _ _ _ => k1 (hret _ _ _ _ _ e1 e2 e3 e4 ?_)⟩
  have := k rfl
  rw [ex] at this
  exact this
theorem t_28 (HC : XClo dec lk lp pk rk thr rt rz xs L ck F cW hnd R X J) (hB : PG dec rt R X J B EB) : PG dec rt R X J (nodeG dec lk pk rk thr lp rt rz hnd 28 a b c A B C) (nodeS xs L ck F K cW 28 a b c EA EB EC) := by
  have HE := snd_E HC
  obtain ⟨-, -, -, -, -, -, -, -, -, -, -, -, -, -, -, -, -, -, -, -, -, -, -, -, -, -, -, -, -, -, -, -, -, -, -, -, hmono, -⟩ := HC
  intro τ τB τC pc τ' pc' al br ct en st c' v en' st' h hk hl he
  obtain ⟨⟨ka, p1, t1⟩, h1, h⟩ := j_bd h
  obtain ⟨⟨τ1, p2, al1, br1, ct1⟩, h2, h⟩ := j_bd h
  obtain ⟨⟨e1, e2, e3⟩, h⟩ := j_if h
  obtain ⟨⟨x, s0⟩, hx, he⟩ := j_bd he
  cases h
  dsimp only at *
  have key := (HE a).2 τ 0 1 pc _ _ _ en [] st x s0 (Or.inl rfl) h1 hx hl (Nat.le_refl _)
  split at he
  · rename_i hz
    cases he
    exact ⟨hl, fun h => (by cases h), by decide, fun h => (by cases h), fun _ => (by simp [e2]), fun k0 k1 k2 k3 k4 => key (fun _ t ht => hmono _ _ _ _ _ _ e3 (k2 rfl t (List.mem_append_left _ ht))) (fun n => absurd hz n)⟩
  · rename_i hz
    obtain ⟨r1, r2, r5, r6, r7, r8⟩ := hB _ _ _ _ _ _ _ _ _ _ _ _ _ _ _ h2 hk hl he
    have hal : c' ≠ 0 := fun h => by
      have := (r2 h).1
      rw [e1] at this
      cases this
    exact ⟨r1, fun h => absurd h hal, r5, r6, fun h => (by simp [r7 h]), fun k0 k1 k2 k3 k4 => key (fun n => absurd n hz) (fun _ => r8 (fun h => absurd h hal) k1 (fun h t ht => k2 h t (List.mem_append_right _ ht)) k3 k4)⟩
theorem t_25 (HC : XClo dec lk lp pk rk thr rt rz xs L ck F cW hnd R X J) (hB : PG dec rt R X J B EB) (hC : PKc dec rt R X J C EC c) : PKc dec rt R X J (nodeG dec lk pk rk thr lp rt rz hnd 25 a b c A B C) (nodeS xs L ck F K cW 25 a b c EA EB EC) (.op (.var 25) (.op a (.op b c))) := by
  obtain ⟨-, -, -, -, -, -, -, -, -, -, -, -, -, -, -, -, -, -, -, -, -, -, -, -, -, -, -, -, -, -, -, -, -, -, -, hsw, -⟩ := HC
  intro sw w τ τB τC pc τ' pc' al br ct en st c' v en' st' h hk hl he hok hlab
  obtain ⟨⟨e0, e1⟩, h⟩ := j_ifx h
  obtain ⟨⟨τ1, p1, al1, br1, ct1⟩, h1, h⟩ := j_bd h
  obtain ⟨e2, h⟩ := j_ifx h
  obtain ⟨⟨τ2, p2, al2, br2, ct2⟩, h2, h⟩ := j_bd h
  cases h
  dsimp only at *
  rw [Nat.add_sub_cancel_left] at e1
  have he : (if (sx_l a).any (fun n => decide (w = sx_z n)) then (EB en st).bind fun r => if r.1 = 0 then none else some r else EC (w :: en) st) = some (c', v, en', st') := he
  split at he
  · rename_i hin
    obtain ⟨⟨c1, v1, en1, s1⟩, hb, he⟩ := j_bd he
    dsimp only at he
    split at he
    · cases he
    · rename_i hc0
      cases he
      obtain ⟨n, hn, hw⟩ := List.any_eq_true.mp hin
      have ht := List.all_eq_true.mp e1 n hn
      rw [← of_decide_eq_true hw, beq_iff_eq] at ht
      obtain ⟨r1, r2, r5, r6, r7, r8⟩ := hB _ _ _ _ _ _ _ _ _ _ _ _ _ _ _ h1 hk hl hb
      exact ⟨r1, fun h => absurd h hc0, r5, r6, fun h => (by simp [r7 h]), fun k0 k1 k2 k3 k4 => hsw _ _ _ _ _ _ _ hok ht (r8 (fun h => absurd h hc0) k1 (fun h t ht => k2 h t (List.mem_append_left _ ht)) (fun h t ht => k3 h t (List.mem_append_left _ ht)) k4)⟩
  · rename_i hin
    have hlab2 : (sx_all c).any (fun n => decide (w = sx_z n)) = true ∨ c_swT dec sw w = c_swD dec sw := by
      rcases hlab with q | q
      · have q : (sx_l a ++ sx_all c).any (fun n => decide (w = sx_z n)) = true := q
        rw [List.any_append, Bool.or_eq_true] at q
        rcases q with q | q
        · exact absurd q hin
        · exact Or.inl q
      · exact Or.inr q
    obtain ⟨r1, r2, r5, r6, r7, r8⟩ := hC _ _ _ _ _ _ _ _ _ _ _ _ _ _ _ _ _ h2 hk hl he hok hlab2
    exact ⟨r1, r2, r5, r6, fun h => (by simp [r7 h]), fun k0 k1 k2 k3 k4 => r8 k0 k1 (fun h t ht => k2 h t (List.mem_append_right _ ht)) (fun h t ht => k3 h t (List.mem_append_right _ ht)) k4⟩
theorem t_26 (HC : XClo dec lk lp pk rk thr rt rz xs L ck F cW hnd R X J) (hA : PG dec rt R X J A EA) : PKc dec rt R X J (nodeG dec lk pk rk thr lp rt rz hnd 26 a b c A B C) (nodeS xs L ck F K cW 26 a b c EA EB EC) (.op (.var 26) (.op a (.op b c))) := by
  obtain ⟨-, -, -, -, -, -, -, -, -, -, -, -, -, -, -, -, -, -, -, -, -, -, -, -, -, -, -, -, -, -, -, -, -, -, -, hsw, hmono, -⟩ := HC
  intro sw w τ τB τC pc τ' pc' al br ct en st c' v en' st' h hk hl he hok hlab
  obtain ⟨⟨e0, e1⟩, h⟩ := j_ifx h
  obtain ⟨⟨τ1, p1, al1, br1, ct1⟩, h1, h⟩ := j_bd h
  obtain ⟨e2, h⟩ := j_if h
  cases h
  dsimp only at *
  rw [Nat.add_sub_cancel_left] at e1
  have he : EA en st = some (c', v, en', st') := he
  obtain ⟨r1, r2, r5, r6, r7, r8⟩ := hA _ _ _ _ _ _ _ _ _ _ _ _ _ _ _ h1 hk hl he
  have ht : c_swT dec sw w = some pc := by
    rcases hlab with q | q
    · cases q
    · rw [q, e1]
  exact ⟨r1, fun h => (r2 h).1, r5, r6, r7, fun k0 k1 k2 k3 k4 => hsw _ _ _ _ _ _ _ hok ht (r8 (fun h => hmono _ _ _ _ _ _ e2 (k0 h)) k1 k2 k3 k4)⟩
theorem sw_off (df w : Int) : ∀ ps : List (Int × Int), w ∉ ps.map (·.1) → Op.lookupswitch.offset ps df w = df := by
  intro ps
  induction ps with
  | nil => intro _; rfl
  | cons q ps ih =>
    intro h
    obtain ⟨m, o⟩ := q
    simp only [List.map_cons, List.mem_cons, not_or] at h
    unfold Op.lookupswitch.offset
    rw [if_neg (fun e => h.1 (by simp_all))]
    exact ih h.2
theorem sw_out {pc : Nat} {w : Int} (hok : c_swOk dec pc = true) (h : w ∉ c_swL dec pc) : c_swT dec pc w = c_swD dec pc := by
  unfold c_swOk at hok
  unfold c_swL at h
  unfold c_swT c_swD
  split at hok
  · rename_i df lo hi offs n hd
    rw [hd] at h ⊢
    simp only [Option.bind_some]
    rw [if_pos]
    apply Classical.byContradiction
    intro hn
    refine h (List.mem_map.mpr ⟨(w - lo).toNat, List.mem_range.mpr ?_, ?_⟩) <;> omega
  · rename_i df ps n hd
    rw [hd] at h ⊢
    simp only [Option.bind_some]
    rw [sw_off _ _ _ h]
  · cases hok
theorem t_19 (HC : XClo dec lk lp pk rk thr rt rz xs L ck F cW hnd R X J) (hB : sx_cases b = true → PKc dec rt R X J B EB b) : PG dec rt R X J (nodeG dec lk pk rk thr lp rt rz hnd 19 a b c A B C) (nodeS xs L ck F K cW 19 a b c EA EB EC) := by
  have HE := snd_E HC
  obtain ⟨-, -, -, -, -, -, -, -, -, -, -, -, -, -, -, -, -, -, -, -, -, -, -, -, -, -, -, -, -, -, -, -, -, -, -, hsw, -⟩ := HC
  intro τ τB τC pc τ' pc' al br ct en st c' v en' st' h hk hl he
  obtain ⟨⟨ka, p1, t1⟩, h1, h⟩ := j_bd h
  obtain ⟨⟨wi, wl⟩, h2, h⟩ := j_bd h
  obtain ⟨df, h3, h⟩ := j_bd h
  obtain ⟨⟨τ1, p2, al1, br1, ct1⟩, h4, h⟩ := j_bd h
  obtain ⟨⟨e1, e2, e3, e4, e5⟩, h⟩ := j_if h
  obtain ⟨⟨x, s0⟩, hx, he⟩ := j_bd he
  obtain ⟨⟨c1, v1, en1, s1⟩, hb, he⟩ := j_bd he
  cases h
  dsimp only at *
  subst e1
  obtain ⟨-, k1⟩ := (HE a).1.one (S := []) h1 hx hl (Nat.le_refl _)
  have hlab : (sx_all b).any (fun n => decide (j_hd x = sx_z n)) = true ∨ c_swT dec p1 (j_hd x) = c_swD dec p1 := by
    by_cases hm : j_hd x ∈ c_swL dec p1
    · have := List.all_eq_true.mp e5 _ hm
      rw [Bool.or_eq_true, beq_iff_eq] at this
      rcases this with q | q
      · exact Or.inl q
      · exact Or.inr (q.trans h3.symm)
    · exact Or.inr (sw_out e2 hm)
  obtain ⟨r1, r2, r5, r6, r7, r8⟩ := hB e3 _ _ _ _ _ _ _ _ _ _ _ _ _ _ _ _ _ h4 hk hl hb e2 hlab
  split at he
  · rename_i hc
    cases he
    subst hc
    refine ⟨r1, fun _ => ⟨?_, rfl, hk⟩, by decide, fun h => (by cases h), fun h => (by cases h), fun k0 _ _ _ _ => k1 (r8 (fun h => (by cases h)) (fun h => (by cases h)) (fun _ t ht => ?_) (fun h => (by cases h)) (fun h => (by cases h)))⟩
    · have := r7 rfl
      cases br1 with
      | nil => exact absurd rfl this
      | cons t0 br1 => simp
    · rw [c_all_spec e4 ht]
      exact k0 rfl
  · rename_i hc
    cases he
    exact ⟨r1, fun h => ⟨by simp [r2 h], rfl, hk⟩, r5, r6, fun h => absurd h hc, fun k0 k1' _ k3 k4 => k1 (r8 k0 k1' (fun h => absurd h hc) k3 k4)⟩
theorem pg_none {t : Nat} (h : ∀ τ τB τC pc, nodeG dec lk pk rk thr lp rt rz hnd t a b c A B C τ τB τC pc = none) {E : XR} : PG dec rt R X J (nodeG dec lk pk rk thr lp rt rz hnd t a b c A B C) E := fun τ τB τC pc _ _ _ _ _ _ _ _ _ _ _ h1 => by rw [h τ τB τC pc] at h1; cases h1
theorem pg_25 : PG dec rt R X J (nodeG dec lk pk rk thr lp rt rz hnd 25 a b c A B C) (nodeS xs L ck F K cW 25 a b c EA EB EC) := by
  intro τ τB τC pc τ' pc' al br ct en st c' v en' st' h hk hl he
  cases τ with
  | nil => cases h
  | cons t0 τ =>
    obtain ⟨⟨e0, e1⟩, h⟩ := j_ifx h
    have : t0 < 500 := of_decide_eq_true hk
    omega
theorem pg_26 : PG dec rt R X J (nodeG dec lk pk rk thr lp rt rz hnd 26 a b c A B C) (nodeS xs L ck F K cW 26 a b c EA EB EC) := by
  intro τ τB τC pc τ' pc' al br ct en st c' v en' st' h hk hl he
  cases τ with
  | nil => cases h
  | cons t0 τ =>
    obtain ⟨⟨e0, e1⟩, h⟩ := j_ifx h
    have : t0 < 500 := of_decide_eq_true hk
    omega
theorem snd_nodeS (HC : XClo dec lk lp pk rk thr rt rz xs L ck F cW hnd R X J) {t : Nat} (hA : PG dec rt R X J A EA) (hB : PG dec rt R X J B EB) (hB2 : sx_cases b = true → PKc dec rt R X J B EB b) (hC : PG dec rt R X J C EC) :
    PG dec rt R X J (nodeG dec lk pk rk thr lp rt rz hnd t a b c A B C) (nodeS xs L ck F K cW t a b c EA EB EC) := by
  by_cases e : t = 1
  · subst e; exact t_1
  by_cases e : t = 2
  · subst e; exact t_2 hA hB
  by_cases e : t = 3
  · subst e; exact t_3 HC
  by_cases e : t = 4
  · subst e; exact t_4 HC
  by_cases e : t = 5
  · subst e; exact t_5 HC
  by_cases e : t = 6
  · subst e; exact t_6 HC
  by_cases e : t = 7
  · subst e; exact t_7 HC
  by_cases e : t = 8
  · subst e; exact t_8 HC
  by_cases e : t = 9
  · subst e; exact t_9 HC
  by_cases e : t = 10
  · subst e; exact t_10 HC hB
  by_cases e : t = 11
  · subst e; exact t_11 HC hB hC
  by_cases e : t = 12
  · subst e; exact t_12 HC hB hC
  by_cases e : t = 13
  · subst e; exact t_13 HC hB
  by_cases e : t = 14
  · subst e; exact t_14 HC
  by_cases e : t = 15
  · subst e; exact t_15 HC
  by_cases e : t = 16
  · subst e; exact t_16 HC
  by_cases e : t = 17
  · subst e; exact t_17 HC
  by_cases e : t = 18
  · subst e; exact t_18 HC
  by_cases e : t = 19
  · subst e; exact t_19 HC hB2
  by_cases e : t = 20
  · subst e; exact t_20 HC hA
  by_cases e : t = 21
  · subst e; exact t_21 HC
  by_cases e : t = 22
  · subst e; exact t_22 HC
  by_cases e : t = 27
  · subst e; exact t_27 HC
  by_cases e : t = 23
  · subst e; exact t_23 HC
  by_cases e : t = 24
  · subst e; exact t_24 HC
  by_cases e : t = 28
  · subst e; exact t_28 HC hB
  by_cases e : t = 25
  · subst e; exact pg_25
  by_cases e : t = 26
  · subst e; exact pg_26
  refine pg_none (fun τ τB τC pc => ?_)
  unfold nodeG
  split <;> first | contradiction | rfl
theorem snd_S (HC : XClo dec lk lp pk rk thr rt rz xs L ck F cW hnd R X J) : (s : SX) → PG dec rt R X J (chS dec lk pk rk thr lp rt rz hnd s) (evS xs L ck F K cW s) ∧ (sx_cases s = true → PKc dec rt R X J (chS dec lk pk rk thr lp rt rz hnd s) (evS xs L ck F K cW s) s)
  | .op (.var t) (.op a (.op b c)) => by
    have ha := snd_S HC a
    have hb := snd_S HC b
    have hc := snd_S HC c
    refine ⟨snd_nodeS HC ha.1 hb.1 hb.2 hc.1, fun hs => ?_⟩
    by_cases e : t = 25
    · subst e
      exact t_25 HC hb.1 (hc.2 hs)
    by_cases e : t = 26
    · subst e
      exact t_26 HC ha.1
    · exfalso
      unfold sx_cases at hs
      split at hs
      · rename_i h
        cases h
        contradiction
      · rename_i h
        cases h
        contradiction
      · cases hs
  | .var _ => ⟨fun _ _ _ _ _ _ _ _ _ _ _ _ _ _ _ h => (by cases h), fun h => (by cases h)⟩
  | .op (.op _ _) _ => ⟨fun _ _ _ _ _ _ _ _ _ _ _ _ _ _ _ h => (by cases h), fun h => (by cases h)⟩
  | .op (.var _) (.var _) => ⟨fun _ _ _ _ _ _ _ _ _ _ _ _ _ _ _ h => (by cases h), fun h => (by unfold sx_cases at h; split at h <;> simp_all [chS, PKc])⟩
  | .op (.var _) (.op _ (.var _)) => ⟨fun _ _ _ _ _ _ _ _ _ _ _ _ _ _ _ h => (by cases h), fun h => (by unfold sx_cases at h; split at h <;> simp_all [chS, PKc])⟩
end JNT
end
section
/-! ===== what the machine's words are of these numbers ===== -/
def InI (v : Int) : Prop := -2147483648 ≤ v ∧ v < 2147483648
def InL (v : Int) : Prop := -9223372036854775808 ≤ v ∧ v < 9223372036854775808
theorem i32_of {v : Int} (h : InI v) : (Int32.ofInt v).toInt = v := Int32.toInt_ofInt_of_le (by have := h.1; omega) (by have := h.2; omega)
theorem i64_of {v : Int} (h : InL v) : (Int64.ofInt v).toInt = v := Int64.toInt_ofInt_of_le (by have := h.1; omega) (by have := h.2; omega)
theorem in_i32 (x : Int32) : InI x.toInt := ⟨Int32.le_toInt x, Int32.toInt_lt x⟩
theorem in_i64 (x : Int64) : InL x.toInt := ⟨Int64.le_toInt x, Int64.toInt_lt x⟩
theorem in_j32 (v : Int) : InI (j32 v) := in_i32 _
theorem in_j64 (v : Int) : InL (j64 v) := in_i64 _
theorem of_j32 (v : Int) : Int32.ofInt (j32 v) = Int32.ofInt v := Int32.ofInt_toInt _
theorem of_j64 (v : Int) : Int64.ofInt (j64 v) = Int64.ofInt v := Int64.ofInt_toInt _
theorem j32_in {v : Int} (h : InI v) : j32 v = v := i32_of h
theorem j64_in {v : Int} (h : InL v) : j64 v = v := i64_of h
theorem of_lt {x y : Int} (hx : InI x) (hy : InI y) : Int32.ofInt x < Int32.ofInt y ↔ x < y := by rw [Int32.lt_iff_toInt_lt, i32_of hx, i32_of hy]
theorem of_le {x y : Int} (hx : InI x) (hy : InI y) : Int32.ofInt x ≤ Int32.ofInt y ↔ x ≤ y := by rw [Int32.le_iff_toInt_le, i32_of hx, i32_of hy]
theorem of_eq {x y : Int} (hx : InI x) (hy : InI y) : Int32.ofInt x = Int32.ofInt y ↔ x = y := ⟨fun h => by rw [← i32_of hx, h, i32_of hy], fun h => by rw [h]⟩
theorem ol_lt {x y : Int} (hx : InL x) (hy : InL y) : Int64.ofInt x < Int64.ofInt y ↔ x < y := by rw [Int64.lt_iff_toInt_lt, i64_of hx, i64_of hy]
theorem ol_eq {x y : Int} (hx : InL x) (hy : InL y) : Int64.ofInt x = Int64.ofInt y ↔ x = y := ⟨fun h => by rw [← i64_of hx, h, i64_of hy], fun h => by rw [h]⟩
theorem in_0 : InI 0 := ⟨by decide, by decide⟩
def w_v (ad adW : Nat → Nat) (aT aS : Nat) (kd : Nat) (v : Int) : Value := match kd with
  | 1 => .int (Int32.ofInt v)
  | 2 => .long (Int64.ofInt v)
  | 3 => .ref (adW v.toNat)
  | 4 => .ref aT
  | 5 => .ref aS
  | _ => .ref (ad v.toNat)
def w_s (ad : Nat → Nat) (x : Int) (q : Nat × Nat) : Value := match q.1 with
  | 1 => .int (Int32.ofInt x)
  | 2 => .long (Int64.ofInt x)
  | _ => match q.2 with
    | 0 => .null
    | r + 1 => .ref (ad r)
def w_fs (ad : Nat → Nat) (f : Nat → Int) (sl : List (Nat × Nat)) : List Value := sl.mapIdx fun k q => w_s ad (f k) q
def w_c (cA : Nat → ClassId) (ad : Nat → Nat) (f : Nat → Int) (c : XC) : va_E := match c.1 with
  | 6 => .inl (cA 6, c.2.1, .inl fun j => Int32.ofInt (f j))
  | 7 => .inl (cA 7, c.2.1, .inr (.inl fun j => Int64.ofInt (f j)))
  | 8 => .inl (cA 8, c.2.1, .inl fun j => Int32.ofInt (f j))
  | 9 => .inl (cA 9, c.2.1, .inl fun j => Int32.ofInt (f j))
  | k => .inr (k - 10, w_fs ad f c.2.2)
def w_w (cA : Nat → ClassId) (ad : Nat → Nat) (st : XT) : va_W := st.1.1.mapIdx fun o c => (ad o, w_c cA ad (st.2 o) c)
theorem w_w_at {cA : Nat → ClassId} {ad : Nat → Nat} {st : XT} {o : Nat} {c : XC} (h : st.1.1[o]? = some c) : (w_w cA ad st)[o]? = some (ad o, w_c cA ad (st.2 o) c) := by
  simp [w_w, List.getElem?_mapIdx, h]
theorem w_fs_at {ad : Nat → Nat} {f : Nat → Int} {sl : List (Nat × Nat)} {k : Nat} {q : Nat × Nat} (h : sl[k]? = some q) : (w_fs ad f sl)[k]? = some (w_s ad (f k) q) := by
  simp [w_fs, List.getElem?_mapIdx, h]
/-- numbers of the world are what their kinds bear, references lead to cells of their kinds -/
def OkC (ck : Nat → List Nat) (g : XS) (f : Nat → Int) (c : XC) : Prop := 6 ≤ c.1 ∧ (c.1 < 10 → c.2.1 < 2147483648 ∧ (c.1 = 7 → ∀ k, InL (f k)) ∧ (c.1 ≠ 7 → ∀ k, InI (f k))) ∧
  (10 ≤ c.1 → c.2.2.map (·.1) = ck (c.1 - 10) ∧ ∀ k q, c.2.2[k]? = some q → (q.1 = 1 → InI (f k)) ∧ (q.1 = 2 → InL (f k)) ∧ (∀ r, q.1 ≠ 1 → q.1 ≠ 2 → q.2 = r + 1 → ∃ c', g[r]? = some c' ∧ c'.1 = q.1))
def OkS (ck : Nat → List Nat) (st : XT) : Prop := ∀ o c, st.1.1[o]? = some c → OkC ck st.1.1 (st.2 o) c
def OkV (g : XS) (kd : Nat) (v : Int) : Prop := (kd = 1 → InI v) ∧ (kd = 2 → InL v) ∧ (kd = 3 → 0 ≤ v ∧ v < 24) ∧ (6 ≤ kd → 0 ≤ v ∧ ∃ c, g[v.toNat]? = some c ∧ c.1 = kd) ∧ kd ≠ 0
theorem OkV.int {g : XS} {v : Int} (h : InI v) : OkV g 1 v := ⟨fun _ => h, fun e => (by cases e), fun e => (by cases e), fun e => absurd e (by decide), by decide⟩
theorem OkV.long {g : XS} {v : Int} (h : InL v) : OkV g 2 v := ⟨fun e => (by cases e), fun _ => h, fun e => (by cases e), fun e => absurd e (by decide), by decide⟩
theorem OkV.word {g : XS} {v : Int} (h : 0 ≤ v ∧ v < 24) : OkV g 3 v := ⟨fun e => (by cases e), fun e => (by cases e), fun _ => h, fun e => absurd e (by decide), by decide⟩
theorem OkV.ref {g : XS} {kd : Nat} {v : Int} (hk : 6 ≤ kd) (h0 : 0 ≤ v) {c : XC} (h : g[v.toNat]? = some c) (e : c.1 = kd) : OkV g kd v := ⟨fun z => (by omega), fun z => (by omega), fun z => (by omega), fun _ => ⟨h0, c, h, e⟩, by omega⟩
/-- the list of what locals hold -/
def w_l (ad adW : Nat → Nat) (aT aS : Nat) (τ : List Nat) (en : List Int) : List (Nat × Value) := (List.range τ.length).filterMap fun i => if τ.getD i 0 = 0 then none else some (i, w_v ad adW aT aS (τ.getD i 0) (en.getD i 0))
theorem w_l_mem {ad adW : Nat → Nat} {aT aS : Nat} {τ : List Nat} {en : List Int} {q : Nat × Value} : q ∈ w_l ad adW aT aS τ en ↔ q.1 < τ.length ∧ τ.getD q.1 0 ≠ 0 ∧ q.2 = w_v ad adW aT aS (τ.getD q.1 0) (en.getD q.1 0) := by
  unfold w_l
  rw [List.mem_filterMap]
  constructor
  · rintro ⟨i, hi, h⟩
    split at h
    · cases h
    · rename_i hne
      cases h
      exact ⟨List.mem_range.mp hi, hne, rfl⟩
  · rintro ⟨h1, h2, h3⟩
    refine ⟨q.1, List.mem_range.mpr h1, ?_⟩
    rw [if_neg h2, ← h3]
theorem lv_mono {ls : Array Slot} {n : Nat} {l l' : List (Nat × Value)} (h : lv_has ls n l) (hs : ∀ q ∈ l', q ∈ l) : lv_has ls n l' := ⟨h.1, h.2.1, fun q hq => h.2.2 q (hs q hq)⟩
theorem w_cat {ad adW : Nat → Nat} {aT aS : Nat} {v : Int} : ∀ {kd : Nat}, (w_v ad adW aT aS kd v).category = k_cat kd
  | 0 => rfl
  | 1 => rfl
  | 2 => rfl
  | 3 => rfl
  | 4 => rfl
  | 5 => rfl
  | _ + 6 => rfl
theorem w_v_ref {ad adW : Nat → Nat} {aT aS : Nat} {v : Int} : ∀ {kd : Nat}, 6 ≤ kd → w_v ad adW aT aS kd v = .ref (ad v.toNat)
  | 0, h => absurd h (by decide)
  | 1, h => absurd h (by decide)
  | 2, h => absurd h (by decide)
  | 3, h => absurd h (by decide)
  | 4, h => absurd h (by decide)
  | 5, h => absurd h (by decide)
  | _ + 6, _ => rfl
/-- a reference of some kind: where it leads -/
theorem w_v_r {ad adW : Nat → Nat} {aT aS : Nat} {v : Int} : ∀ {kd : Nat}, 3 ≤ kd → ∃ x, w_v ad adW aT aS kd v = .ref x
  | 0, h => absurd h (by decide)
  | 1, h => absurd h (by decide)
  | 2, h => absurd h (by decide)
  | 3, _ => ⟨_, rfl⟩
  | 4, _ => ⟨_, rfl⟩
  | 5, _ => ⟨_, rfl⟩
  | _ + 6, _ => ⟨_, rfl⟩
theorem w_c_obj {cA : Nat → ClassId} {ad : Nat → Nat} {f : Nat → Int} {c : XC} (h : 10 ≤ c.1) : w_c cA ad f c = .inr (c.1 - 10, w_fs ad f c.2.2) := by
  unfold w_c
  split <;> first | omega | rfl
end
section
/-! ===== the machine takes the steps that the tree's proof asks for ===== -/
def a_len : Instr → Nat
  | .iconst _ => 1
  | .bipush _ => 2
  | .sipush _ => 3
  | .lconst _ => 1
  | .ldc _ => 2
  | .ldc_w _ => 3
  | .ldc2_w _ => 3
  | .getstatic _ => 3
  | .iload _ => 2
  | .iload_n _ => 1
  | .lload _ => 2
  | .lload_n _ => 1
  | .aload _ => 2
  | .aload_n _ => 1
  | .istore _ => 2
  | .istore_n _ => 1
  | .lstore _ => 2
  | .lstore_n _ => 1
  | .astore _ => 2
  | .astore_n _ => 1
  | _ => 0
def j_dec (cc : ByteArray) : XD := fun pc => match decode cc pc with
  | .ok (i, n) => if a_len i = 0 ∨ n = a_len i then some (i, n) else none
  | .error _ => none
def DecOk (dec : XD) (cc : ByteArray) : Prop := ∀ pc i n, dec pc = some (i, n) → decode cc pc = .ok (i, n) ∧ (a_len i ≠ 0 → n = a_len i)
theorem j_dec_ok (cc : ByteArray) : DecOk (j_dec cc) cc := by
  intro pc i n h
  unfold j_dec at h
  split at h
  · rename_i i' n' he
    obtain ⟨h1, h⟩ := j_if h
    cases h
    exact ⟨he, fun h0 => h1.resolve_left h0⟩
  · cases h
theorem c_ins_spec {α : Type} {dec : XD} {pc p : Nat} {f : Instr → Option α} {a : α} (h : c_ins dec pc f = some (a, p)) : ∃ i n, dec pc = some (i, n) ∧ f i = some a ∧ p = pc + n := by
  obtain ⟨⟨i, n⟩, h1, h⟩ := j_bd h
  obtain ⟨a', h2, h⟩ := j_bd h
  cases h
  exact ⟨i, n, h1, h2, rfl⟩
theorem c_op0_spec {dec : XD} {pc k : Nat} (h : c_op0 dec pc k = true) : ∃ i, dec pc = some (i, 1) ∧ a_op0 i = k := by
  unfold c_op0 at h
  split at h
  · rename_i i n he
    rw [Bool.and_eq_true, beq_iff_eq, beq_iff_eq] at h
    rw [h.2] at he
    exact ⟨i, he, h.1⟩
  · cases h
theorem ult_ins {dec : XD} {pc n : Nat} {i : Instr} (h : dec pc = some (i, n)) (hg : a_goto i = none) : j_ult dec pc = pc := by
  unfold j_ult j_ultN
  rw [h]
  simp [hg]
theorem a_goto_s {i : Instr} {off : Int} (h : a_goto i = some off) : i = .goto off := by
  unfold a_goto at h
  split at h
  · cases h
    rfl
  · cases h
def w_tys (cA : Nat → ClassId) : List (ClassId × FieldType) := [(cA 6, .int), (cA 7, .long), (cA 8, .byte), (cA 9, .boolean)]
theorem OkV.four {g : XS} {v : Int} : OkV g 4 v := ⟨fun e => (by cases e), fun e => (by cases e), fun e => (by cases e), fun e => absurd e (by decide), by decide⟩
theorem k_fit_spec {τ : List Nat} {i kd : Nat} (h : k_fit τ i kd = true) : i < τ.length ∧ kd ≠ 0 ∧ (τ.getD i 0 = 0 ∨ τ.getD i 0 = kd) ∧ (i = 0 ∨ τ.getD (i - 1) 0 ≠ 2) ∧ (kd ≠ 2 ∨ (i + 1 < τ.length ∧ τ.getD (i + 1) 0 = 0)) := by
  simpa [k_fit, and_assoc] using h
theorem getD_set_eq {α : Type} {l : List α} {i : Nat} {a d : α} (h : i < l.length) : (l.set i a).getD i d = a := by simp [List.getD, h]
theorem getD_set_ne {α : Type} {l : List α} {i j : Nat} {a d : α} (h : j ≠ i) : (l.set i a).getD j d = l.getD j d := by
  simp only [List.getD]
  rw [List.getElem?_set_ne (fun e => h e.symm)]
/-- the locals behind a store -/
theorem wl_store {ad adW : Nat → Nat} {aT aS : Nat} {τ : List Nat} {en : List Int} {i kd : Nat} {v : Int} (hf : k_fit τ i kd = true) (hl : en.length = τ.length) (h2 : kd ≠ 2) :
    ∀ q ∈ w_l ad adW aT aS (τ.set i kd) (en.set i v), q ∈ (i, w_v ad adW aT aS kd v) :: (w_l ad adW aT aS τ en).filter (fun q => !(q.1 == i) && !(q.1 + 1 == i && q.2.category == 2)) := by
  intro q hq
  obtain ⟨f1, f2, f3, f4, f5⟩ := k_fit_spec hf
  obtain ⟨h1, h3, h4⟩ := w_l_mem.mp hq
  by_cases e : q.1 = i
  · rw [e, getD_set_eq f1, getD_set_eq (by omega)] at h4
    exact List.mem_cons.mpr (Or.inl (Prod.ext e h4))
  · rw [getD_set_ne e] at h3
    rw [getD_set_ne e, getD_set_ne e] at h4
    refine List.mem_cons.mpr (Or.inr (List.mem_filter.mpr ⟨w_l_mem.mpr ⟨by simpa using h1, h3, h4⟩, ?_⟩))
    have hc : q.2.category = k_cat (τ.getD q.1 0) := by rw [h4]; exact w_cat
    simp only [Bool.and_eq_true, Bool.not_eq_true', beq_eq_false_iff_ne, ne_eq, Bool.and_eq_false_iff]
    refine ⟨e, ?_⟩
    by_cases e2 : q.1 + 1 = i
    · right
      rw [hc]
      rcases f4 with f4 | f4
      · omega
      · have : i - 1 = q.1 := by omega
        rw [this] at f4
        unfold k_cat
        rw [if_neg f4]
        decide
    · exact Or.inl e2
theorem wl_storeL {ad adW : Nat → Nat} {aT aS : Nat} {τ : List Nat} {en : List Int} {i : Nat} {v : Int} (hf : k_fit τ i 2 = true) (hl : en.length = τ.length) :
    ∀ q ∈ w_l ad adW aT aS (τ.set i 2) (en.set i v), q ∈ (i, w_v ad adW aT aS 2 v) :: (w_l ad adW aT aS τ en).filter (fun q => !(q.1 == i) && (!(q.1 == i + 1) && !(q.1 + 1 == i && q.2.category == 2))) := by
  intro q hq
  obtain ⟨f1, f2, f3, f4, f5⟩ := k_fit_spec hf
  obtain ⟨h1, h3, h4⟩ := w_l_mem.mp hq
  by_cases e : q.1 = i
  · rw [e, getD_set_eq f1, getD_set_eq (by omega)] at h4
    exact List.mem_cons.mpr (Or.inl (Prod.ext e h4))
  · rw [getD_set_ne e] at h3
    rw [getD_set_ne e, getD_set_ne e] at h4
    refine List.mem_cons.mpr (Or.inr (List.mem_filter.mpr ⟨w_l_mem.mpr ⟨by simpa using h1, h3, h4⟩, ?_⟩))
    have hc : q.2.category = k_cat (τ.getD q.1 0) := by rw [h4]; exact w_cat
    simp only [Bool.and_eq_true, Bool.not_eq_true', beq_eq_false_iff_ne, ne_eq, Bool.and_eq_false_iff]
    refine ⟨e, ?_, ?_⟩
    · intro e3
      rcases f5 with f5 | f5
      · exact f5 rfl
      · rw [e3] at h3
        exact h3 f5.2
    by_cases e2 : q.1 + 1 = i
    · right
      rw [hc]
      rcases f4 with f4 | f4
      · omega
      · have : i - 1 = q.1 := by omega
        rw [this] at f4
        unfold k_cat
        rw [if_neg f4]
        decide
    · exact Or.inl e2
section JW1
variable {p : Program} {l : Launch} {e : Env} {R : Room} {s : State} {m : MethodId} {args : Array Value} {below : List Frame} {meth : Method} {c : Code} {Q : State → Prop}
  {cc : ByteArray} {nL : Nat} {own : String} {Ts : List Cond} {D : va_G} {cl : List vw_C} {cA : Nat → ClassId} {A : Nat → Prop} {adW : Nat → Nat} {aT aS : Nat} {ck : Nat → List Nat} {c0 d0 n0 : Nat} {ad0 : Nat → Nat} {dec : XD} {lk : XK}
def JW (p : Program) (l : Launch) (e : Env) (R : Room) (s : State) (m : MethodId) (args : Array Value) (below : List Frame) (meth : Method) (c : Code) (Q : State → Prop) (nL : Nat) (D : va_G) (cl : List vw_C) (cA : Nat → ClassId) (A : Nat → Prop) (adW : Nat → Nat) (aT aS : Nat) (ck : Nat → List Nat) (c0 d0 n0 : Nat) (ad0 : Nat → Nat)
    (pc : Nat) (τ : List Nat) (en : List Int) (S : List (Nat × Int)) (st : XT) : Prop :=
  (st.1.2.1 ≤ c0 + R.cells ∧ st.1.2.2 ≤ d0 + R.slots) ∧
  (OkS ck st → (∀ q ∈ S, OkV st.1.1 q.1 q.2) → (∀ i, τ.getD i 0 ≠ 0 → OkV st.1.1 (τ.getD i 0) (en.getD i 0)) → c0 ≤ st.1.2.1 ∧ n0 ≤ st.1.1.length → d0 ≤ st.1.2.2 → τ.length = nL →
    ∀ (ad : Nat → Nat) (H : Heap) (locs : List Loc) (ls : Array Slot), va_P D cl (w_w cA ad st) H → va_D A (w_w cA ad st) ∧ (∀ r, r < n0 → ad r = ad0 r) → va_S A s.heap H locs → lv_has ls nL (w_l ad adW aT aS τ en) →
      W p l e R s m args below meth c H locs (st.1.2.1 - c0) (st.1.2.2 - d0) Q (F0 m pc ls (S.map fun q => w_v ad adW aT aS q.1 q.2)))
variable (hx : p.tables.exec = Jvm.exec) (hb : c.code = cc) (hdec : DecOk dec cc)
theorem jw_ultN (hx : p.tables.exec = Jvm.exec) (hb : c.code = cc) (hdec : DecOk dec cc) {τ : List Nat} {en : List Int} {S : List (Nat × Int)} {st : XT} : ∀ (n pc : Nat), JW p l e R s m args below meth c Q nL D cl cA A adW aT aS ck c0 d0 n0 ad0 (j_ultN dec n pc) τ en S st → JW p l e R s m args below meth c Q nL D cl cA A adW aT aS ck c0 d0 n0 ad0 pc τ en S st := by
  intro n
  induction n with
  | zero => exact fun pc k => k
  | succ n ih =>
    intro pc k
    unfold j_ultN at k
    split at k
    · rename_i off hoff
      obtain ⟨⟨i, len⟩, hd, hoff⟩ := j_bd hoff
      obtain ⟨h3, hoff⟩ := j_ifx hoff
      dsimp only at h3
      subst h3
      split at k
      · rename_i t ht
        have k' := ih t k
        refine ⟨k'.1, fun h1 h2 h3 h4 h5 h6 ad H locs ls g1 g2 g3 g4 => ?_⟩
        have hi : i = .goto off := a_goto_s hoff
        subst hi
        unfold j_tgt at ht
        obtain ⟨ht0, ht⟩ := j_if ht
        exact lv_goto (tgt := t) hx hb (hdec _ _ _ hd).1 (by omega) (k'.2 h1 h2 h3 h4 h5 h6 ad H locs ls g1 g2 g3 g4)
      · exact k
    · exact k
theorem jw_ult (hx : p.tables.exec = Jvm.exec) (hb : c.code = cc) (hdec : DecOk dec cc) {τ : List Nat} {en : List Int} {S : List (Nat × Int)} {st : XT} {pc : Nat} (k : JW p l e R s m args below meth c Q nL D cl cA A adW aT aS ck c0 d0 n0 ad0 (j_ult dec pc) τ en S st) : JW p l e R s m args below meth c Q nL D cl cA A adW aT aS ck c0 d0 n0 ad0 pc τ en S st := jw_ultN hx hb hdec 5 pc k
/-- a step of the stack alone -/
theorem jw_st (hx : p.tables.exec = Jvm.exec) (hb : c.code = cc) (hdec : DecOk dec cc) {τ : List Nat} {en : List Int} {S S' : List (Nat × Int)} {st : XT} {pc pc' : Nat}
    (k : JW p l e R s m args below meth c Q nL D cl cA A adW aT aS ck c0 d0 n0 ad0 (j_ult dec pc') τ en S' st)
    (hu : j_ult dec pc = pc) (hS : OkS ck st → (∀ q ∈ S, OkV st.1.1 q.1 q.2) → (∀ i, τ.getD i 0 ≠ 0 → OkV st.1.1 (τ.getD i 0) (en.getD i 0)) → τ.length = nL → ∀ q ∈ S', OkV st.1.1 q.1 q.2)
    (hW : OkS ck st → (∀ q ∈ S, OkV st.1.1 q.1 q.2) → (∀ i, τ.getD i 0 ≠ 0 → OkV st.1.1 (τ.getD i 0) (en.getD i 0)) → τ.length = nL → ∀ (ad : Nat → Nat) (H : Heap) (locs : List Loc) (ls : Array Slot), va_P D cl (w_w cA ad st) H → va_D A (w_w cA ad st) → va_S A s.heap H locs → lv_has ls nL (w_l ad adW aT aS τ en) → ∀ cells slots,
      W p l e R s m args below meth c H locs cells slots Q (F0 m pc' ls (S'.map fun q => w_v ad adW aT aS q.1 q.2)) → W p l e R s m args below meth c H locs cells slots Q (F0 m pc ls (S.map fun q => w_v ad adW aT aS q.1 q.2))) :
    JW p l e R s m args below meth c Q nL D cl cA A adW aT aS ck c0 d0 n0 ad0 (j_ult dec pc) τ en S st := by
  have k' := jw_ult hx hb hdec k
  rw [hu]
  exact ⟨k'.1, fun h1 h2 h3 h4 h5 h6 ad H locs ls g1 g2 g3 g4 => hW h1 h2 h3 h6 ad H locs ls g1 g2.1 g3 g4 _ _ (k'.2 h1 (hS h1 h2 h3 h6) h3 h4 h5 h6 ad H locs ls g1 g2 g3 g4)⟩
/-- the word that a row of the own class's table stands for -/
def FK (d : String) (v : Int) : Prop := ∃ ty, parseFieldDescriptor d = some ty ∧ (v = 1 → ty = .int) ∧ (v = 2 → ty = .long) ∧ (v = -1 → ty = .boolean) ∧ (6 ≤ v → (∃ n, ty = .object n) ∨ ∃ t, ty = .array t)
def LF (Ts : List Cond) (cl : List vw_C) (own : String) (ck : Nat → List Nat) (adW : Nat → Nat) (aT : Nat) (Zs : String → String → String → Value → Prop) (i : Nat) : Nat × Nat × Nat × Int → Prop
  | (0, ci, k, v) => ∃ C T N, cl[ci]? = some (C, T, N) ∧ k < N ∧ (ck ci)[k]? = some (j_kd v) ∧ FK (T k).2.2.1 v ∧ (Cond.fieldLink own i (T k).1 (T k).2.1 (T k).2.2.1 ∈ Ts ∨ ∃ h, Cond.fieldLinkNest own i (T k).1 (T k).2.1 (T k).2.2.1 h ∈ Ts)
  | (1, _, k, v) => ∃ n d h, Cond.fieldLinkNest own i "FeederShares$Word" n d h ∈ Ts ∧ ((k = 0 ∧ v = 2 ∧ n = "code" ∧ d = "J") ∨ (k = 1 ∧ v = 1 ∧ n = "kept" ∧ d = "Z"))
  | (2, kd, _, v) => ∃ C n d, Zs C n d (w_v (fun _ => 0) adW aT 0 kd v) ∧ ((kd = 3 ∧ 0 ≤ v ∧ v < 24) ∨ kd = 4) ∧ (Cond.fieldLink own i C n d ∈ Ts ∨ ∃ h, Cond.fieldLinkNest own i C n d h ∈ Ts)
  | (3, _, _, v) => Cond.constant own i (Int32.ofInt v) ∈ Ts ∧ InI v
  | (4, _, _, v) => Cond.constantLong own i (Int64.ofInt v) ∈ Ts ∧ InL v
  | (5, ci, _, _) => ∃ C T N, cl[ci]? = some (C, T, N) ∧ (ck ci).length = N ∧ Cond.classLink own i C ∈ Ts ∧ Cond.instantiable C N ∈ Ts ∧ Cond.initialized C ∈ Ts
  | _ => True
theorem z_const (hx : p.tables.exec = Jvm.exec) (hb : c.code = cc) (hdec : DecOk dec cc) {Zs : String → String → String → Value → Prop} (hLK : ∀ i q, lk i = some q → LF Ts cl own ck adW aT Zs i q) (hown : s.vm.findClass own = some m.cls) (hts : ∀ w ∈ Ts, w.before args s = true)
    (hZs : ∀ C n d v, Zs C n d v → va_Z C n d v A s s.heap) :
    ∀ pc p' kv τ en S st, c_ins dec pc (a_const lk) = some (kv, p') → kv.1 ≠ 0 → JW p l e R s m args below meth c Q nL D cl cA A adW aT aS ck c0 d0 n0 ad0 (j_ult dec p') τ en (kv :: S) st → JW p l e R s m args below meth c Q nL D cl cA A adW aT aS ck c0 d0 n0 ad0 (j_ult dec pc) τ en S st := by
  intro pc p' kv τ en S st h hkv k
  obtain ⟨i, n, hd, hf, rfl⟩ := c_ins_spec h
  obtain ⟨hdc, hlen⟩ := hdec _ _ _ hd
  have hg : a_goto i = none := by
    cases hgo : a_goto i with
    | none => rfl
    | some off =>
      rw [a_goto_s hgo] at hf
      cases hf
  have hu := ult_ins hd hg
  unfold a_const at hf
  split at hf
  · obtain ⟨h1, hf⟩ := j_if hf
    cases hf
    have : n = 1 := hlen (by simp [a_len])
    subst this
    refine jw_st hx hb hdec k hu (fun _ hS _ _ q hq => ?_) (fun _ _ _ _ ad H locs ls _ _ _ _ cells slots K => lv_iconst hx hb hdc rfl K)
    rcases List.mem_cons.mp hq with rfl | hq
    · exact OkV.int ⟨by dsimp only; omega, by dsimp only; omega⟩
    · exact hS q hq
  · obtain ⟨h1, hf⟩ := j_if hf
    cases hf
    have : n = 2 := hlen (by simp [a_len])
    subst this
    refine jw_st hx hb hdec k hu (fun _ hS _ _ q hq => ?_) (fun _ _ _ _ ad H locs ls _ _ _ _ cells slots K => lv_bipush hx hb hdc ?_ K)
    · rcases List.mem_cons.mp hq with rfl | hq
      · exact OkV.int ⟨by dsimp only; omega, by dsimp only; omega⟩
      · exact hS q hq
    · apply Int32.toInt_inj.mp
      rw [Int8.toInt_toInt32, Int8.toInt_ofInt_of_le (by omega) (by omega)]
      exact (i32_of ⟨by omega, by omega⟩).symm
  · obtain ⟨h1, hf⟩ := j_if hf
    cases hf
    have : n = 3 := hlen (by simp [a_len])
    subst this
    refine jw_st hx hb hdec k hu (fun _ hS _ _ q hq => ?_) (fun _ _ _ _ ad H locs ls _ _ _ _ cells slots K => lv_sipush hx hb hdc ?_ K)
    · rcases List.mem_cons.mp hq with rfl | hq
      · exact OkV.int ⟨by dsimp only; omega, by dsimp only; omega⟩
      · exact hS q hq
    · apply Int32.toInt_inj.mp
      rw [Int16.toInt_toInt32, Int16.toInt_ofInt_of_le (by omega) (by omega)]
      exact (i32_of ⟨by omega, by omega⟩).symm
  · cases hf
    have : n = 1 := hlen (by simp [a_len])
    subst this
    refine jw_st hx hb hdec k hu (fun _ hS _ _ q hq => ?_) (fun _ _ _ _ ad H locs ls _ _ _ _ cells slots K => lv_lconst hx hb hdc ?_ K)
    · rcases List.mem_cons.mp hq with rfl | hq
      · exact OkV.long ⟨by dsimp only; omega, by dsimp only; omega⟩
      · exact hS q hq
    · rfl
  · split at hf
    · rename_i z1 z2 v hl
      cases hf
      have : n = 2 := hlen (by simp [a_len])
      subst this
      obtain ⟨hw, hi⟩ := hLK _ _ hl
      refine jw_st hx hb hdec k hu (fun _ hS _ _ q hq => ?_) (fun _ _ _ _ ad H locs ls _ _ _ _ cells slots K => lv_ldc hx hb hown (hts _ hw) hdc K)
      rcases List.mem_cons.mp hq with rfl | hq
      · exact OkV.int hi
      · exact hS q hq
    · cases hf
  · split at hf
    · rename_i z1 z2 v hl
      cases hf
      have : n = 3 := hlen (by simp [a_len])
      subst this
      obtain ⟨hw, hi⟩ := hLK _ _ hl
      refine jw_st hx hb hdec k hu (fun _ hS _ _ q hq => ?_) (fun _ _ _ _ ad H locs ls _ _ _ _ cells slots K => lv_ldcw hx hb hown (hts _ hw) hdc K)
      rcases List.mem_cons.mp hq with rfl | hq
      · exact OkV.int hi
      · exact hS q hq
    · cases hf
  · split at hf
    · rename_i z1 z2 v hl
      cases hf
      have : n = 3 := hlen (by simp [a_len])
      subst this
      obtain ⟨hw, hi⟩ := hLK _ _ hl
      refine jw_st hx hb hdec k hu (fun _ hS _ _ q hq => ?_) (fun _ _ _ _ ad H locs ls _ _ _ _ cells slots K => lv_ldc2 hx hb hown (hts _ hw) hdc K)
      rcases List.mem_cons.mp hq with rfl | hq
      · exact OkV.long hi
      · exact hS q hq
    · cases hf
  · split at hf
    · rename_i kd z2 v hl
      cases hf
      have : n = 3 := hlen (by simp [a_len])
      subst this
      obtain ⟨C, nm, d, hz, hk, hw⟩ := hLK _ _ hl
      have hz := hZs _ _ _ _ hz
      refine jw_st hx hb hdec k hu (fun _ hS _ _ q hq => ?_) (fun _ _ _ _ ad H locs ls _ _ g3 _ cells slots K => ?_)
      · rcases List.mem_cons.mp hq with rfl | hq
        · rcases hk with ⟨rfl, hv⟩ | rfl
          · exact OkV.word hv
          · exact OkV.four
        · exact hS q hq
      · have ev : w_v (fun _ => 0) adW aT 0 kd v = w_v ad adW aT aS kd v := by
          rcases hk with ⟨rfl, h⟩ | rfl <;> rfl
        rw [ev] at hz
        rcases hw with hw | ⟨h, hw⟩
        · exact va_gets hx hb hz g3 hown (hts _ hw) (fun _ q => q) hdc K
        · exact va_getsN hx hb hz g3 hown (hts _ hw) (fun _ q => q) hdc K
    · cases hf
  · cases hf
theorem k_cl1 {kd : Nat} (h : k_cl kd = 1) : kd = 1 := by
  unfold k_cl at h
  split at h
  · assumption
  · split at h <;> omega
theorem k_cl2 {kd : Nat} (h : k_cl kd = 2) : kd = 2 := by
  unfold k_cl at h
  split at h
  · omega
  · split at h <;> omega
theorem k_cl3 {kd : Nat} (h : k_cl kd = 3) (h0 : kd ≠ 0) : 3 ≤ kd := by
  unfold k_cl at h
  split at h
  · omega
  · split at h <;> omega
theorem z_load (hx : p.tables.exec = Jvm.exec) (hb : c.code = cc) (hdec : DecOk dec cc) :
    ∀ pc p' cl0 i kd τ en S st, c_ins dec pc a_load = some ((cl0, i), p') → τ[i]? = some kd → kd ≠ 0 → k_cl kd = cl0 → en.length = τ.length → JW p l e R s m args below meth c Q nL D cl cA A adW aT aS ck c0 d0 n0 ad0 (j_ult dec p') τ en ((kd, en.getD i 0) :: S) st → JW p l e R s m args below meth c Q nL D cl cA A adW aT aS ck c0 d0 n0 ad0 (j_ult dec pc) τ en S st := by
  intro pc p' cl0 i kd τ en S st h hτ hk hcl hlen k
  obtain ⟨ii, n, hd, hf, rfl⟩ := c_ins_spec h
  obtain ⟨hdc, hln⟩ := hdec _ _ _ hd
  have hg : a_goto ii = none := by
    cases hgo : a_goto ii with
    | none => rfl
    | some off =>
      rw [a_goto_s hgo] at hf
      cases hf
  have hu := ult_ins hd hg
  have hi : i < τ.length := (List.getElem?_eq_some_iff.mp hτ).1
  have hgD : τ.getD i 0 = kd := by simp [List.getD, hτ]
  have hS' : OkS ck st → (∀ q ∈ S, OkV st.1.1 q.1 q.2) → (∀ i, τ.getD i 0 ≠ 0 → OkV st.1.1 (τ.getD i 0) (en.getD i 0)) → τ.length = nL → ∀ q ∈ ((kd, en.getD i 0) :: S), OkV st.1.1 q.1 q.2 := by
    intro _ hS hL _ q hq
    rcases List.mem_cons.mp hq with rfl | hq
    · have := hL i (by rw [hgD]; exact hk)
      rw [hgD] at this
      exact this
    · exact hS q hq
  have hls : ∀ (ad : Nat → Nat) (ls : Array Slot), lv_has ls nL (w_l ad adW aT aS τ en) → ls[i]? = some (.val (w_v ad adW aT aS kd (en.getD i 0))) := by
    intro ad ls h
    have hm : (i, w_v ad adW aT aS kd (en.getD i 0)) ∈ w_l ad adW aT aS τ en := w_l_mem.mpr ⟨hi, by rw [hgD]; exact hk, by rw [hgD]⟩
    exact h.2.2 _ hm
  have hr : 3 ≤ kd → ∀ ad : Nat → Nat, ∃ x, w_v ad adW aT aS kd (en.getD i 0) = .ref x := fun h ad => w_v_r h
  unfold a_load at hf
  split at hf <;> cases hf
  · have := k_cl1 hcl
    subst this
    have : n = 2 := hln (by simp [a_len])
    subst this
    exact jw_st hx hb hdec k hu hS' (fun _ _ _ _ ad H locs ls _ _ _ g4 cells slots K => lv_iload hx hb hdc (hls ad ls g4) K)
  · have := k_cl1 hcl
    subst this
    have : n = 1 := hln (by simp [a_len])
    subst this
    exact jw_st hx hb hdec k hu hS' (fun _ _ _ _ ad H locs ls _ _ _ g4 cells slots K => lv_iload_n hx hb hdc rfl (hls ad ls g4) K)
  · have := k_cl2 hcl
    subst this
    have : n = 2 := hln (by simp [a_len])
    subst this
    exact jw_st hx hb hdec k hu hS' (fun _ _ _ _ ad H locs ls _ _ _ g4 cells slots K => lv_lload hx hb hdc (hls ad ls g4) K)
  · have := k_cl2 hcl
    subst this
    have : n = 1 := hln (by simp [a_len])
    subst this
    exact jw_st hx hb hdec k hu hS' (fun _ _ _ _ ad H locs ls _ _ _ g4 cells slots K => lv_lload_n hx hb hdc rfl (hls ad ls g4) K)
  · have h3 := k_cl3 hcl hk
    have : n = 2 := hln (by simp [a_len])
    subst this
    refine jw_st hx hb hdec k hu hS' (fun _ _ _ _ ad H locs ls _ _ _ g4 cells slots K => ?_)
    obtain ⟨x, ex⟩ := hr h3 ad
    have g := hls ad ls g4
    rw [ex] at g
    refine lv_aload hx hb hdc g ?_
    rw [List.map_cons, ex] at K
    exact K
  · have h3 := k_cl3 hcl hk
    have : n = 1 := hln (by simp [a_len])
    subst this
    refine jw_st hx hb hdec k hu hS' (fun _ _ _ _ ad H locs ls _ _ _ g4 cells slots K => ?_)
    obtain ⟨x, ex⟩ := hr h3 ad
    have g := hls ad ls g4
    rw [ex] at g
    refine lv_aload_n hx hb hdc rfl g ?_
    rw [List.map_cons, ex] at K
    exact K
theorem z_store (hx : p.tables.exec = Jvm.exec) (hb : c.code = cc) (hdec : DecOk dec cc) :
    ∀ pc p' i kd v τ en S st, c_ins dec pc a_store = some ((k_cl kd, i), p') → k_fit τ i kd = true → en.length = τ.length → JW p l e R s m args below meth c Q nL D cl cA A adW aT aS ck c0 d0 n0 ad0 (j_ult dec p') (τ.set i kd) (en.set i v) S st → JW p l e R s m args below meth c Q nL D cl cA A adW aT aS ck c0 d0 n0 ad0 (j_ult dec pc) τ en ((kd, v) :: S) st := by
  intro pc p' i kd v τ en S st h hfit hlen k
  obtain ⟨ii, n, hd, hf, rfl⟩ := c_ins_spec h
  obtain ⟨hdc, hln⟩ := hdec _ _ _ hd
  have hg : a_goto ii = none := by
    cases hgo : a_goto ii with
    | none => rfl
    | some off =>
      rw [a_goto_s hgo] at hf
      cases hf
  have hu := ult_ins hd hg
  obtain ⟨f1, f2, f3, f4, f5⟩ := k_fit_spec hfit
  have k' := jw_ult hx hb hdec k
  rw [hu]
  refine ⟨k'.1, fun hok hS hL hc hd0 hτ ad H locs ls g1 g2 g3 g4 => ?_⟩
  have hv : OkV st.1.1 kd v := hS (kd, v) List.mem_cons_self
  have hL' : ∀ j, (τ.set i kd).getD j 0 ≠ 0 → OkV st.1.1 ((τ.set i kd).getD j 0) ((en.set i v).getD j 0) := by
    intro j hj
    by_cases e : j = i
    · subst e
      rw [getD_set_eq f1, getD_set_eq (by omega)]
      exact hv
    · rw [getD_set_ne e] at hj ⊢
      rw [getD_set_ne e]
      exact hL j hj
  have K := fun ls' h' => k'.2 hok (fun q hq => hS q (List.mem_cons_of_mem _ hq)) hL' hc hd0 (by rw [List.length_set]; exact hτ) ad H locs ls' g1 g2 g3 h'
  have hi : i < nL := by omega
  unfold a_store at hf
  split at hf
  · obtain ⟨e1, e2⟩ := Prod.mk.inj (Option.some.inj hf)
    subst e2
    have := k_cl1 e1.symm
    subst this
    have : n = 2 := hln (by simp [a_len])
    subst this
    exact lv_istore hx hb hdc g4 hi rfl (fun ls' h' => K ls' (lv_mono h' (wl_store hfit hlen (by decide))))
  · obtain ⟨e1, e2⟩ := Prod.mk.inj (Option.some.inj hf)
    subst e2
    have := k_cl1 e1.symm
    subst this
    have : n = 1 := hln (by simp [a_len])
    subst this
    exact lv_istore_n hx hb hdc rfl g4 hi rfl (fun ls' h' => K ls' (lv_mono h' (wl_store hfit hlen (by decide))))
  · obtain ⟨e1, e2⟩ := Prod.mk.inj (Option.some.inj hf)
    subst e2
    have := k_cl2 e1.symm
    subst this
    have : n = 2 := hln (by simp [a_len])
    subst this
    have hi2 := f5.resolve_left (fun h => h rfl)
    exact lv_lstore hx hb hdc g4 (by omega) rfl (fun ls' h' => K ls' (lv_mono h' (wl_storeL hfit hlen)))
  · obtain ⟨e1, e2⟩ := Prod.mk.inj (Option.some.inj hf)
    subst e2
    have := k_cl2 e1.symm
    subst this
    have : n = 1 := hln (by simp [a_len])
    subst this
    have hi2 := f5.resolve_left (fun h => h rfl)
    exact lv_lstore_n hx hb hdc rfl g4 (by omega) rfl (fun ls' h' => K ls' (lv_mono h' (wl_storeL hfit hlen)))
  · obtain ⟨e1, e2⟩ := Prod.mk.inj (Option.some.inj hf)
    subst e2
    have h3 := k_cl3 e1.symm f2
    have : n = 2 := hln (by simp [a_len])
    subst this
    obtain ⟨x, ex⟩ := w_v_r (ad := ad) (adW := adW) (aT := aT) (aS := aS) (v := v) h3
    rw [List.map_cons, ex]
    exact lv_astore hx hb hdc g4 hi rfl (fun ls' h' => K ls' (lv_mono h' (by rw [← ex]; exact wl_store hfit hlen (by omega))))
  · obtain ⟨e1, e2⟩ := Prod.mk.inj (Option.some.inj hf)
    subst e2
    have h3 := k_cl3 e1.symm f2
    have : n = 1 := hln (by simp [a_len])
    subst this
    obtain ⟨x, ex⟩ := w_v_r (ad := ad) (adW := adW) (aT := aT) (aS := aS) (v := v) h3
    rw [List.map_cons, ex]
    exact lv_astore_n hx hb hdc rfl g4 hi rfl (fun ls' h' => K ls' (lv_mono h' (by rw [← ex]; exact wl_store hfit hlen (by omega))))
  · cases hf
end JW1
end
section
theorem ng {α : Type} {f : Instr → Option α} {i : Instr} {a : α} (hf : f i = some a) (h : ∀ off, f (.goto off) = none) : a_goto i = none := by
  cases hgo : a_goto i with
  | none => rfl
  | some off =>
    rw [a_goto_s hgo, h] at hf
    cases hf
theorem ng0 {i : Instr} {k : Nat} (hf : a_op0 i = k) (hk : k ≠ 0) : a_goto i = none := by
  cases hgo : a_goto i with
  | none => rfl
  | some off =>
    rw [a_goto_s hgo] at hf
    exact absurd hf.symm hk
theorem c_ins1 {α : Type} {dec : XD} {pc n : Nat} {f : Instr → Option α} {a : α} (h : c_ins dec pc f = some (a, pc + n)) : ∃ i, dec pc = some (i, n) ∧ f i = some a := by
  obtain ⟨i, n', h1, h2, h3⟩ := c_ins_spec h
  have : n' = n := by omega
  subst this
  exact ⟨i, h1, h2⟩
theorem tdiv_of {x y : Int} : Int32.ofInt (j32 ((Int32.ofInt x).toInt.tdiv (Int32.ofInt y).toInt)) = Int32.ofInt x / Int32.ofInt y := by
  apply Int32.toInt_inj.mp
  rw [of_j32, Int32.toInt_div, Int32.toInt_ofInt]
theorem tdivL_of {x y : Int} : Int64.ofInt (j64 ((Int64.ofInt x).toInt.tdiv (Int64.ofInt y).toInt)) = Int64.ofInt x / Int64.ofInt y := by
  apply Int64.toInt_inj.mp
  rw [of_j64, Int64.toInt_div, Int64.toInt_ofInt]
theorem tmod_of {x y : Int} (hx : InI x) (hy : InI y) : Int32.ofInt (x.tmod y) = Int32.ofInt x - Int32.ofInt x / Int32.ofInt y * Int32.ofInt y := by
  have h1 : Int32.ofInt x / Int32.ofInt y = Int32.ofInt (x.tdiv y) := by
    rw [← tdiv_of, i32_of hx, i32_of hy, of_j32]
  rw [h1, ← Int32.ofInt_mul, ← Int32.ofInt_sub]
  congr 1
  have := Int.tmod_def x y
  rw [this, Int.mul_comm]
theorem tmodL_of {x y : Int} (hx : InL x) (hy : InL y) : Int64.ofInt (x.tmod y) = Int64.ofInt x - Int64.ofInt x / Int64.ofInt y * Int64.ofInt y := by
  have h1 : Int64.ofInt x / Int64.ofInt y = Int64.ofInt (x.tdiv y) := by
    rw [← tdivL_of, i64_of hx, i64_of hy, of_j64]
  rw [h1, ← Int64.ofInt_mul, ← Int64.ofInt_sub]
  congr 1
  have := Int.tmod_def x y
  rw [this, Int.mul_comm]
theorem tmod_bd {x y n : Int} (h1 : -n ≤ x) (h2 : x < n) : -n ≤ x.tmod y ∧ x.tmod y < n := by
  have h3 : (x.tmod y).natAbs ≤ x.natAbs := by rw [Int.natAbs_tmod]; exact Nat.mod_le _ _
  by_cases h0 : 0 ≤ x
  · have := Int.tmod_nonneg y h0
    omega
  · have := Int.tmod_nonneg y (show 0 ≤ -x by omega)
    rw [Int.neg_tmod] at this
    omega
theorem tmod_in {x y : Int} (hx : InI x) : InI (x.tmod y) := tmod_bd hx.1 hx.2
theorem tmod_inL {x y : Int} (hx : InL x) : InL (x.tmod y) := tmod_bd hx.1 hx.2
theorem in_0L : InL 0 := ⟨by decide, by decide⟩
section JW2
variable {p : Program} {l : Launch} {e : Env} {R : Room} {s : State} {m : MethodId} {args : Array Value} {below : List Frame} {meth : Method} {c : Code} {Q : State → Prop}
  {cc : ByteArray} {nL : Nat} {own : String} {Ts : List Cond} {D : va_G} {cl : List vw_C} {cA : Nat → ClassId} {A : Nat → Prop} {adW : Nat → Nat} {aT aS : Nat} {ck : Nat → List Nat} {c0 d0 n0 : Nat} {ad0 : Nat → Nat} {dec : XD} {lk : XK}
theorem hd_ok {st : XT} {q : Nat × Int} {S : List (Nat × Int)} (h : ∀ z ∈ q :: S, OkV st.1.1 z.1 z.2) : OkV st.1.1 q.1 q.2 ∧ ∀ z ∈ S, OkV st.1.1 z.1 z.2 := ⟨h q List.mem_cons_self, fun z hz => h z (List.mem_cons_of_mem _ hz)⟩
theorem cons_ok {st : XT} {q : Nat × Int} {S : List (Nat × Int)} (h : OkV st.1.1 q.1 q.2) (h2 : ∀ z ∈ S, OkV st.1.1 z.1 z.2) : ∀ z ∈ q :: S, OkV st.1.1 z.1 z.2 := by
  intro z hz
  rcases List.mem_cons.mp hz with rfl | hz
  · exact h
  · exact h2 z hz
theorem z_iinc (hx : p.tables.exec = Jvm.exec) (hb : c.code = cc) (hdec : DecOk dec cc) :
    ∀ pc p' i n τ en S st, c_ins dec pc a_iinc = some ((i, n), p') → τ[i]? = some 1 → (p' = pc + 3 ∨ p' = pc + 6) → en.length = τ.length → JW p l e R s m args below meth c Q nL D cl cA A adW aT aS ck c0 d0 n0 ad0 (j_ult dec p') τ (en.set i (j32 (en.getD i 0 + n))) S st → JW p l e R s m args below meth c Q nL D cl cA A adW aT aS ck c0 d0 n0 ad0 (j_ult dec pc) τ en S st := by
  intro pc p' i n τ en S st h hτ hp hlen k
  obtain ⟨ii, len, hd, hf, rfl⟩ := c_ins_spec h
  obtain ⟨hdc, hln⟩ := hdec _ _ _ hd
  have hu := ult_ins hd (ng hf (fun _ => rfl))
  have k' := jw_ult hx hb hdec k
  rw [hu]
  have hgD : τ.getD i 0 = 1 := by simp [List.getD, hτ]
  have hi : i < τ.length := (List.getElem?_eq_some_iff.mp hτ).1
  refine ⟨k'.1, fun hok hS hL hc hd0 hτn ad H locs ls g1 g2 g3 g4 => ?_⟩
  have hset : τ.set i 1 = τ := by
    apply List.ext_getElem?
    intro j
    by_cases e : j = i
    · subst e
      rw [hτ]
      simp [hi]
    · rw [List.getElem?_set_ne (fun h => e h.symm)]
  have hprev : i = 0 ∨ τ.getD (i - 1) 0 ≠ 2 := by
    by_cases h0 : i = 0
    · exact Or.inl h0
    · right
      intro h2
      have m1 : (i, w_v ad adW aT aS 1 (en.getD i 0)) ∈ w_l ad adW aT aS τ en := w_l_mem.mpr ⟨hi, by rw [hgD]; decide, by rw [hgD]⟩
      have m2 : (i - 1, w_v ad adW aT aS 2 (en.getD (i - 1) 0)) ∈ w_l ad adW aT aS τ en := w_l_mem.mpr ⟨by dsimp only; omega, by rw [h2]; decide, by rw [h2]⟩
      have q1 := g4.2.2 _ m1
      have q2 := g4.2.1.1 _ _ (g4.2.2 _ m2) rfl
      have e : i - 1 + 1 = i := by omega
      dsimp only at q1 q2
      rw [e, q1] at q2
      cases q2
  have hfit : ∀ q ∈ w_l ad adW aT aS τ (en.set i (j32 (en.getD i 0 + n))), q ∈ (i, Value.int (Int32.ofInt (j32 (en.getD i 0 + n)))) :: (w_l ad adW aT aS τ en).filter (fun q => !(q.1 == i) && !(q.1 + 1 == i && q.2.category == 2)) := by
    have hk : k_fit τ i 1 = true := by
      unfold k_fit
      simp only [Bool.and_eq_true, decide_eq_true_eq, bne_iff_ne, Bool.or_eq_true, beq_iff_eq]
      exact ⟨⟨⟨⟨hi, by decide⟩, Or.inr hgD⟩, hprev⟩, Or.inl (by decide)⟩
    have := wl_store (ad := ad) (adW := adW) (aT := aT) (aS := aS) (v := j32 (en.getD i 0 + n)) hk hlen (by decide)
    rw [hset] at this
    exact this
  have hL' : ∀ j, τ.getD j 0 ≠ 0 → OkV st.1.1 (τ.getD j 0) ((en.set i (j32 (en.getD i 0 + n))).getD j 0) := by
    intro j hj
    by_cases e : j = i
    · subst e
      rw [getD_set_eq (by omega), hgD]
      exact OkV.int (in_j32 _)
    · rw [getD_set_ne e]
      exact hL j hj
  have K := fun ls' h' => k'.2 hok hS hL' hc hd0 hτn ad H locs ls' g1 g2 g3 h'
  unfold a_iinc at hf
  split at hf
  · cases hf
    have hm : (i, Value.int (Int32.ofInt (en.getD i 0))) ∈ w_l ad adW aT aS τ en := w_l_mem.mpr ⟨hi, by rw [hgD]; decide, by rw [hgD]; rfl⟩
    obtain ⟨kk, hkk⟩ := List.getElem?_of_mem hm
    have hv : Int32.ofInt (en.getD i 0) + Int32.ofInt n = Int32.ofInt (j32 (en.getD i 0 + n)) := by rw [of_j32, Int32.ofInt_add]
    have hl : len = 3 ∨ len = 6 := by omega
    rcases hl with rfl | rfl
    · exact lv_iinc hx hb hdc g4 hkk hv (by omega) rfl (fun ls' h' => K ls' (lv_mono h' hfit))
    · exact lv_iincW hx hb hdc g4 hkk hv (by omega) rfl (fun ls' h' => K ls' (lv_mono h' hfit))
  · cases hf
theorem z_iop (hx : p.tables.exec = Jvm.exec) (hb : c.code = cc) (hdec : DecOk dec cc) :
    ∀ pc k x y τ en S st, c_ins dec pc a_iop = some (k, pc + 1) → JW p l e R s m args below meth c Q nL D cl cA A adW aT aS ck c0 d0 n0 ad0 (j_ult dec (pc + 1)) τ en ((1, j_iop k x y) :: S) st → JW p l e R s m args below meth c Q nL D cl cA A adW aT aS ck c0 d0 n0 ad0 (j_ult dec pc) τ en ((1, y) :: (1, x) :: S) st := by
  intro pc kk x y τ en S st h k
  obtain ⟨ii, hd, hf⟩ := c_ins1 h
  obtain ⟨hdc, hln⟩ := hdec _ _ _ hd
  have hin : InI (j_iop kk x y) := by
    unfold j_iop
    split <;> exact in_i32 _
  refine jw_st hx hb hdec k (ult_ins hd (ng hf (fun _ => rfl))) (fun _ hS _ _ => cons_ok (OkV.int hin) (hd_ok (hd_ok hS).2).2) (fun _ _ _ _ ad H locs ls _ _ _ _ cells slots K => ?_)
  unfold a_iop at hf
  have ev : ∀ v, Int32.ofInt (j_iop kk x y) = v → W p l e R s m args below meth c H locs cells slots Q (F0 m (pc + 1) ls (.int v :: S.map fun q => w_v ad adW aT aS q.1 q.2)) := fun v hv => by rw [← hv]; exact K
  split at hf <;> cases hf
  · exact lv_iadd hx hb hdc (ev _ (by show Int32.ofInt (j32 (x + y)) = _; rw [of_j32, Int32.ofInt_add]))
  · exact lv_isub hx hb hdc (ev _ (by show Int32.ofInt (j32 (x - y)) = _; rw [of_j32, Int32.ofInt_sub]))
  · exact lv_imul hx hb hdc (ev _ (by show Int32.ofInt (j32 (x * y)) = _; rw [of_j32, Int32.ofInt_mul]))
  · exact lv_iand hx hb hdc (ev _ (Int32.ofInt_toInt _))
  · exact lv_ior hx hb hdc (ev _ (Int32.ofInt_toInt _))
  · exact lv_ixor hx hb hdc (ev _ (Int32.ofInt_toInt _))
  · exact lv_ishl hx hb hdc (ev _ (Int32.ofInt_toInt _))
  · exact lv_ishr hx hb hdc (ev _ (Int32.ofInt_toInt _))
  · exact lv_iushr hx hb hdc rfl (ev _ (Int32.ofInt_toInt _))
theorem z_lop (hx : p.tables.exec = Jvm.exec) (hb : c.code = cc) (hdec : DecOk dec cc) :
    ∀ pc k x y τ en S st, c_ins dec pc a_lop = some (k, pc + 1) → JW p l e R s m args below meth c Q nL D cl cA A adW aT aS ck c0 d0 n0 ad0 (j_ult dec (pc + 1)) τ en ((2, j_lop k x y) :: S) st → JW p l e R s m args below meth c Q nL D cl cA A adW aT aS ck c0 d0 n0 ad0 (j_ult dec pc) τ en ((2, y) :: (2, x) :: S) st := by
  intro pc kk x y τ en S st h k
  obtain ⟨ii, hd, hf⟩ := c_ins1 h
  obtain ⟨hdc, hln⟩ := hdec _ _ _ hd
  have hin : InL (j_lop kk x y) := by
    unfold j_lop
    split <;> exact in_i64 _
  refine jw_st hx hb hdec k (ult_ins hd (ng hf (fun _ => rfl))) (fun _ hS _ _ => cons_ok (OkV.long hin) (hd_ok (hd_ok hS).2).2) (fun _ _ _ _ ad H locs ls _ _ _ _ cells slots K => ?_)
  unfold a_lop at hf
  have ev : ∀ v, Int64.ofInt (j_lop kk x y) = v → W p l e R s m args below meth c H locs cells slots Q (F0 m (pc + 1) ls (.long v :: S.map fun q => w_v ad adW aT aS q.1 q.2)) := fun v hv => by rw [← hv]; exact K
  split at hf <;> cases hf
  · exact lv_ladd hx hb hdc (ev _ (by show Int64.ofInt (j64 (x + y)) = _; rw [of_j64, Int64.ofInt_add]))
  · exact lv_lsub hx hb hdc (ev _ (by show Int64.ofInt (j64 (x - y)) = _; rw [of_j64, Int64.ofInt_sub]))
  · exact lv_lmul hx hb hdc (ev _ (by show Int64.ofInt (j64 (x * y)) = _; rw [of_j64, Int64.ofInt_mul]))
  · exact lv_land hx hb hdc (ev _ (Int64.ofInt_toInt _))
  · exact lv_lor hx hb hdc (ev _ (Int64.ofInt_toInt _))
theorem z_lsh (hx : p.tables.exec = Jvm.exec) (hb : c.code = cc) (hdec : DecOk dec cc) :
    ∀ pc k x y τ en S st, c_ins dec pc a_lsh = some (k, pc + 1) → JW p l e R s m args below meth c Q nL D cl cA A adW aT aS ck c0 d0 n0 ad0 (j_ult dec (pc + 1)) τ en ((2, j_lsh k x y) :: S) st → JW p l e R s m args below meth c Q nL D cl cA A adW aT aS ck c0 d0 n0 ad0 (j_ult dec pc) τ en ((1, y) :: (2, x) :: S) st := by
  intro pc kk x y τ en S st h k
  obtain ⟨ii, hd, hf⟩ := c_ins1 h
  obtain ⟨hdc, hln⟩ := hdec _ _ _ hd
  have hin : InL (j_lsh kk x y) := by
    unfold j_lsh
    split <;> exact in_i64 _
  refine jw_st hx hb hdec k (ult_ins hd (ng hf (fun _ => rfl))) (fun _ hS _ _ => cons_ok (OkV.long hin) (hd_ok (hd_ok hS).2).2) (fun _ _ _ _ ad H locs ls _ _ _ _ cells slots K => ?_)
  unfold a_lsh at hf
  have ev : ∀ v, Int64.ofInt (j_lsh kk x y) = v → W p l e R s m args below meth c H locs cells slots Q (F0 m (pc + 1) ls (.long v :: S.map fun q => w_v ad adW aT aS q.1 q.2)) := fun v hv => by rw [← hv]; exact K
  split at hf <;> cases hf
  · exact lv_lshl hx hb hdc rfl (ev _ (Int64.ofInt_toInt _))
  · exact lv_lshr hx hb hdc rfl (ev _ (Int64.ofInt_toInt _))
  · exact lv_lushr hx hb hdc rfl (ev _ (Int64.ofInt_toInt _))
theorem z_div (hx : p.tables.exec = Jvm.exec) (hb : c.code = cc) (hdec : DecOk dec cc) :
    ∀ pc kd k x y τ en S st, c_ins dec pc a_div = some ((kd, k), pc + 1) → y ≠ 0 → JW p l e R s m args below meth c Q nL D cl cA A adW aT aS ck c0 d0 n0 ad0 (j_ult dec (pc + 1)) τ en ((kd, j_div k x y) :: S) st → JW p l e R s m args below meth c Q nL D cl cA A adW aT aS ck c0 d0 n0 ad0 (j_ult dec pc) τ en ((kd, y) :: (kd, x) :: S) st := by
  intro pc kd kk x y τ en S st h hy k
  obtain ⟨ii, hd, hf⟩ := c_ins1 h
  obtain ⟨hdc, hln⟩ := hdec _ _ _ hd
  have hu := ult_ins hd (ng hf (fun _ => rfl))
  unfold a_div at hf
  split at hf <;> cases hf
  · refine jw_st hx hb hdec k hu (fun _ hS _ _ => cons_ok (OkV.int (in_j32 _)) (hd_ok (hd_ok hS).2).2) (fun _ hS _ _ ad H locs ls _ _ _ _ cells slots K => ?_)
    have iy := (hd_ok hS).1.1 rfl
    have ix := (hd_ok (hd_ok hS).2).1.1 rfl
    refine lv_idiv hx hb hdc (fun e => hy (by have := (of_eq iy in_0).mp e; exact this)) ?_
    have ev : Int32.ofInt x / Int32.ofInt y = Int32.ofInt (j_div 0 x y) := by
      show _ = Int32.ofInt (j32 _)
      rw [← tdiv_of, i32_of ix, i32_of iy]
    rw [ev]
    exact K
  · refine jw_st hx hb hdec k hu (fun _ hS _ _ => cons_ok (OkV.int (tmod_in ((hd_ok (hd_ok hS).2).1.1 rfl))) (hd_ok (hd_ok hS).2).2) (fun _ hS _ _ ad H locs ls _ _ _ _ cells slots K => ?_)
    have iy := (hd_ok hS).1.1 rfl
    have ix := (hd_ok (hd_ok hS).2).1.1 rfl
    refine lv_irem hx hb hdc (fun e => hy (by have := (of_eq iy in_0).mp e; exact this)) ?_
    rw [← tmod_of ix iy]
    exact K
  · refine jw_st hx hb hdec k hu (fun _ hS _ _ => cons_ok (OkV.long (in_j64 _)) (hd_ok (hd_ok hS).2).2) (fun _ hS _ _ ad H locs ls _ _ _ _ cells slots K => ?_)
    have iy := (hd_ok hS).1.2.1 rfl
    have ix := (hd_ok (hd_ok hS).2).1.2.1 rfl
    refine lv_ldiv hx hb hdc (fun e => hy (by have := (ol_eq iy in_0L).mp e; exact this)) ?_
    have ev : Int64.ofInt x / Int64.ofInt y = Int64.ofInt (j_div 2 x y) := by
      show _ = Int64.ofInt (j64 _)
      rw [← tdivL_of, i64_of ix, i64_of iy]
    rw [ev]
    exact K
  · refine jw_st hx hb hdec k hu (fun _ hS _ _ => cons_ok (OkV.long (tmod_inL ((hd_ok (hd_ok hS).2).1.2.1 rfl))) (hd_ok (hd_ok hS).2).2) (fun _ hS _ _ ad H locs ls _ _ _ _ cells slots K => ?_)
    have iy := (hd_ok hS).1.2.1 rfl
    have ix := (hd_ok (hd_ok hS).2).1.2.1 rfl
    refine lv_lrem hx hb hdc (fun e => hy (by have := (ol_eq iy in_0L).mp e; exact this)) ?_
    rw [← tmodL_of ix iy]
    exact K
theorem z_un (hx : p.tables.exec = Jvm.exec) (hb : c.code = cc) (hdec : DecOk dec cc) :
    ∀ pc k k1 k2 x τ en S st, c_ins dec pc a_un = some ((k, k1, k2), pc + 1) → JW p l e R s m args below meth c Q nL D cl cA A adW aT aS ck c0 d0 n0 ad0 (j_ult dec (pc + 1)) τ en ((k2, j_un k x) :: S) st → JW p l e R s m args below meth c Q nL D cl cA A adW aT aS ck c0 d0 n0 ad0 (j_ult dec pc) τ en ((k1, x) :: S) st := by
  intro pc kk k1 k2 x τ en S st h k
  obtain ⟨ii, hd, hf⟩ := c_ins1 h
  obtain ⟨hdc, hln⟩ := hdec _ _ _ hd
  have hu := ult_ins hd (ng hf (fun _ => rfl))
  unfold a_un at hf
  split at hf <;> cases hf
  · refine jw_st hx hb hdec k hu (fun _ hS _ _ => cons_ok (OkV.int (in_j32 _)) (hd_ok hS).2) (fun _ hS _ _ ad H locs ls _ _ _ _ cells slots K => lv_ineg hx hb hdc ?_)
    have ev : -Int32.ofInt x = Int32.ofInt (j_un 0 x) := by
      show _ = Int32.ofInt (j32 _)
      rw [of_j32, Int32.ofInt_neg]
    rw [ev]
    exact K
  · refine jw_st hx hb hdec k hu (fun _ hS _ _ => cons_ok (OkV.long (in_j64 _)) (hd_ok hS).2) (fun _ hS _ _ ad H locs ls _ _ _ _ cells slots K => lv_lneg hx hb hdc ?_)
    have ev : -Int64.ofInt x = Int64.ofInt (j_un 1 x) := by
      show _ = Int64.ofInt (j64 _)
      rw [of_j64, Int64.ofInt_neg]
    rw [ev]
    exact K
  · refine jw_st hx hb hdec k hu (fun _ hS _ _ => cons_ok (OkV.long (by
      have := (hd_ok hS).1.1 rfl
      have h1 := this.1
      have h2 := this.2
      have e : (2, j_un 2 x).2 = x := rfl
      rw [e]
      exact ⟨by omega, by omega⟩)) (hd_ok hS).2) (fun _ hS _ _ ad H locs ls _ _ _ _ cells slots K => lv_i2l hx hb hdc ?_ K)
    have ix := (hd_ok hS).1.1 rfl
    apply Int64.toInt_inj.mp
    rw [Int32.toInt_toInt64, i32_of ix]
    have h1 := ix.1
    have h2 := ix.2
    exact (i64_of ⟨by dsimp only at *; omega, by dsimp only at *; omega⟩).symm
  · refine jw_st hx hb hdec k hu (fun _ hS _ _ => cons_ok (OkV.int (in_j32 _)) (hd_ok hS).2) (fun _ hS _ _ ad H locs ls _ _ _ _ cells slots K => lv_l2i hx hb hdc ?_ K)
    have ix := (hd_ok hS).1.2.1 rfl
    apply Int32.toInt_inj.mp
    show _ = (Int32.ofInt (j32 x)).toInt
    rw [of_j32, Int64.toInt_toInt32, i64_of ix, Int32.toInt_ofInt]
  · exact jw_st hx hb hdec k hu (fun _ hS _ _ => cons_ok (OkV.int (in_i32 _)) (hd_ok hS).2) (fun _ hS _ _ ad H locs ls _ _ _ _ cells slots K => lv_i2b hx hb hdc (Int32.ofInt_toInt _).symm K)
theorem z_dup (hx : p.tables.exec = Jvm.exec) (hb : c.code = cc) (hdec : DecOk dec cc) :
    ∀ pc q τ en S st, c_op0 dec pc 1 = true → q.1 ≠ 2 → JW p l e R s m args below meth c Q nL D cl cA A adW aT aS ck c0 d0 n0 ad0 (j_ult dec (pc + 1)) τ en (q :: q :: S) st → JW p l e R s m args below meth c Q nL D cl cA A adW aT aS ck c0 d0 n0 ad0 (j_ult dec pc) τ en (q :: S) st := by
  intro pc q τ en S st h hq k
  obtain ⟨ii, hd, hf⟩ := c_op0_spec h
  obtain ⟨hdc, hln⟩ := hdec _ _ _ hd
  have hi : ii = .dup := by
    unfold a_op0 at hf
    split at hf <;> first | rfl | cases hf
  subst hi
  exact jw_st hx hb hdec k (ult_ins hd rfl) (fun _ hS _ _ => cons_ok (hd_ok hS).1 hS) (fun _ _ _ _ ad H locs ls _ _ _ _ cells slots K => lv_dup hx hb hdc (by rw [w_cat]; unfold k_cat; rw [if_neg hq]) K)
theorem z_dup2 (hx : p.tables.exec = Jvm.exec) (hb : c.code = cc) (hdec : DecOk dec cc) :
    ∀ pc q r τ en S st, c_op0 dec pc 2 = true → q.1 ≠ 2 → r.1 ≠ 2 → JW p l e R s m args below meth c Q nL D cl cA A adW aT aS ck c0 d0 n0 ad0 (j_ult dec (pc + 1)) τ en (q :: r :: q :: r :: S) st → JW p l e R s m args below meth c Q nL D cl cA A adW aT aS ck c0 d0 n0 ad0 (j_ult dec pc) τ en (q :: r :: S) st := by
  intro pc q r τ en S st h hq hr k
  obtain ⟨ii, hd, hf⟩ := c_op0_spec h
  obtain ⟨hdc, hln⟩ := hdec _ _ _ hd
  have hi : ii = .dup2 := by
    unfold a_op0 at hf
    split at hf <;> first | rfl | cases hf
  subst hi
  exact jw_st hx hb hdec k (ult_ins hd rfl) (fun _ hS _ _ => cons_ok (hd_ok hS).1 (cons_ok (hd_ok (hd_ok hS).2).1 hS)) (fun _ _ _ _ ad H locs ls _ _ _ _ cells slots K => lv_dup2_11 hx hb hdc (by rw [w_cat]; unfold k_cat; rw [if_neg hq]) (by rw [w_cat]; unfold k_cat; rw [if_neg hr]) K)
theorem z_pop (hx : p.tables.exec = Jvm.exec) (hb : c.code = cc) (hdec : DecOk dec cc) :
    ∀ pc q τ en S st, c_op0 dec pc 3 = true → q.1 ≠ 2 → JW p l e R s m args below meth c Q nL D cl cA A adW aT aS ck c0 d0 n0 ad0 (j_ult dec (pc + 1)) τ en S st → JW p l e R s m args below meth c Q nL D cl cA A adW aT aS ck c0 d0 n0 ad0 (j_ult dec pc) τ en (q :: S) st := by
  intro pc q τ en S st h hq k
  obtain ⟨ii, hd, hf⟩ := c_op0_spec h
  obtain ⟨hdc, hln⟩ := hdec _ _ _ hd
  have hi : ii = .pop := by
    unfold a_op0 at hf
    split at hf <;> first | rfl | cases hf
  subst hi
  exact jw_st hx hb hdec k (ult_ins hd rfl) (fun _ hS _ _ => (hd_ok hS).2) (fun _ _ _ _ ad H locs ls _ _ _ _ cells slots K => lv_pop hx hb hdc (by rw [w_cat]; unfold k_cat; rw [if_neg hq]) K)
theorem a_cn_s {q : Jvm.ClassFile.Cond} {k : Nat} (h : a_cn q = k) : (k = 0 ∧ q = .eq) ∨ (k = 1 ∧ q = .ne) ∨ (k = 2 ∧ q = .lt) ∨ (k = 3 ∧ q = .ge) ∨ (k = 4 ∧ q = .gt) ∨ (k = 5 ∧ q = .le) := by
  cases q <;> simp [a_cn] at h <;> subst h <;> simp
/-- a step that goes to one of two places -/
theorem jw_br (hx : p.tables.exec = Jvm.exec) (hb : c.code = cc) (hdec : DecOk dec cc) {τ : List Nat} {en : List Int} {S S' : List (Nat × Int)} {st : XT} {pc pc1 pc2 : Nat} {b : Bool}
    (k1 : b = true → JW p l e R s m args below meth c Q nL D cl cA A adW aT aS ck c0 d0 n0 ad0 (j_ult dec pc1) τ en S' st) (k2 : b = false → JW p l e R s m args below meth c Q nL D cl cA A adW aT aS ck c0 d0 n0 ad0 (j_ult dec pc2) τ en S' st)
    (hu : j_ult dec pc = pc) (hS : (∀ q ∈ S, OkV st.1.1 q.1 q.2) → ∀ q ∈ S', OkV st.1.1 q.1 q.2)
    (hW : (∀ q ∈ S, OkV st.1.1 q.1 q.2) → ∀ (ad : Nat → Nat) (H : Heap) (locs : List Loc) (ls : Array Slot) cells slots,
      (b = true → W p l e R s m args below meth c H locs cells slots Q (F0 m pc1 ls (S'.map fun q => w_v ad adW aT aS q.1 q.2))) → (b = false → W p l e R s m args below meth c H locs cells slots Q (F0 m pc2 ls (S'.map fun q => w_v ad adW aT aS q.1 q.2))) → W p l e R s m args below meth c H locs cells slots Q (F0 m pc ls (S.map fun q => w_v ad adW aT aS q.1 q.2))) :
    JW p l e R s m args below meth c Q nL D cl cA A adW aT aS ck c0 d0 n0 ad0 (j_ult dec pc) τ en S st := by
  rw [hu]
  have k1' := fun h => jw_ult hx hb hdec (k1 h)
  have k2' := fun h => jw_ult hx hb hdec (k2 h)
  refine ⟨?_, fun h1 h2 h3 h4 h5 h6 ad H locs ls g1 g2 g3 g4 => hW h2 ad H locs ls _ _ (fun h => (k1' h).2 h1 (hS h2) h3 h4 h5 h6 ad H locs ls g1 g2 g3 g4) (fun h => (k2' h).2 h1 (hS h2) h3 h4 h5 h6 ad H locs ls g1 g2 g3 g4)⟩
  cases b with
  | true => exact (k1' rfl).1
  | false => exact (k2' rfl).1
theorem j_tgt_s {pc t : Nat} {off : Int} (h : j_tgt pc off = some t) : (pc : Int) + off = (t : Int) := by
  obtain ⟨h0, h⟩ := j_if h
  omega
theorem z_icmp (hx : p.tables.exec = Jvm.exec) (hb : c.code = cc) (hdec : DecOk dec cc) :
    ∀ pc k off t x y τ en S st, c_ins dec pc a_icmp = some ((k, off), pc + 3) → j_tgt pc off = some t → (j_cmp k x y = true → JW p l e R s m args below meth c Q nL D cl cA A adW aT aS ck c0 d0 n0 ad0 (j_ult dec t) τ en S st) → (j_cmp k x y = false → JW p l e R s m args below meth c Q nL D cl cA A adW aT aS ck c0 d0 n0 ad0 (j_ult dec (pc + 3)) τ en S st) → JW p l e R s m args below meth c Q nL D cl cA A adW aT aS ck c0 d0 n0 ad0 (j_ult dec pc) τ en ((1, y) :: (1, x) :: S) st := by
  intro pc kk off t x y τ en S st h ht k1 k2
  obtain ⟨ii, hd, hf⟩ := c_ins1 h
  obtain ⟨hdc, hln⟩ := hdec _ _ _ hd
  have ht := j_tgt_s ht
  refine jw_br hx hb hdec k1 k2 (ult_ins hd (ng hf (fun _ => rfl))) (fun hS => (hd_ok (hd_ok hS).2).2) (fun hS ad H locs ls cells slots K1 K2 => ?_)
  have iy := (hd_ok hS).1.1 rfl
  have ix := (hd_ok (hd_ok hS).2).1.1 rfl
  dsimp only at ix iy
  unfold a_icmp at hf
  split at hf
  · obtain ⟨e1, e2⟩ := Prod.mk.inj (Option.some.inj hf)
    subst e2
    rcases a_cn_s e1 with ⟨rfl, rfl⟩ | ⟨rfl, rfl⟩ | ⟨rfl, rfl⟩ | ⟨rfl, rfl⟩ | ⟨rfl, rfl⟩ | ⟨rfl, rfl⟩
    · exact lv_icmp_eq hx hb hdc ht (fun q => K1 (decide_eq_true ((of_eq ix iy).mp q))) (fun q => K2 (decide_eq_false (fun z => q ((of_eq ix iy).mpr z))))
    · exact lv_icmp_ne hx hb hdc ht (fun q => K1 (decide_eq_true (fun z => q ((of_eq ix iy).mpr z)))) (fun q => K2 (decide_eq_false (fun z => z ((of_eq ix iy).mp q))))
    · exact lv_icmp_lt hx hb hdc ht (fun q => K1 (decide_eq_true ((of_lt ix iy).mp q))) (fun q => K2 (decide_eq_false (fun z => q ((of_lt ix iy).mpr z))))
    · exact lv_icmp_ge hx hb hdc ht (fun q => K1 (decide_eq_true ((of_le iy ix).mp q))) (fun q => K2 (decide_eq_false (fun z => q ((of_le iy ix).mpr z))))
    · exact lv_icmp_gt hx hb hdc ht (fun q => K1 (decide_eq_true ((of_lt iy ix).mp q))) (fun q => K2 (decide_eq_false (fun z => q ((of_lt iy ix).mpr z))))
    · exact lv_icmp_le hx hb hdc ht (fun q => K1 (decide_eq_true ((of_le ix iy).mp q))) (fun q => K2 (decide_eq_false (fun z => q ((of_le ix iy).mpr z))))
  · cases hf
theorem z_if (hx : p.tables.exec = Jvm.exec) (hb : c.code = cc) (hdec : DecOk dec cc) :
    ∀ pc k off t x τ en S st, c_ins dec pc a_if = some ((k, off), pc + 3) → j_tgt pc off = some t → (j_cmp k x 0 = true → JW p l e R s m args below meth c Q nL D cl cA A adW aT aS ck c0 d0 n0 ad0 (j_ult dec t) τ en S st) → (j_cmp k x 0 = false → JW p l e R s m args below meth c Q nL D cl cA A adW aT aS ck c0 d0 n0 ad0 (j_ult dec (pc + 3)) τ en S st) → JW p l e R s m args below meth c Q nL D cl cA A adW aT aS ck c0 d0 n0 ad0 (j_ult dec pc) τ en ((1, x) :: S) st := by
  intro pc kk off t x τ en S st h ht k1 k2
  obtain ⟨ii, hd, hf⟩ := c_ins1 h
  obtain ⟨hdc, hln⟩ := hdec _ _ _ hd
  have ht := j_tgt_s ht
  refine jw_br hx hb hdec k1 k2 (ult_ins hd (ng hf (fun _ => rfl))) (fun hS => (hd_ok hS).2) (fun hS ad H locs ls cells slots K1 K2 => ?_)
  have ix := (hd_ok hS).1.1 rfl
  have iy := in_0
  dsimp only at ix
  unfold a_if at hf
  split at hf
  · obtain ⟨e1, e2⟩ := Prod.mk.inj (Option.some.inj hf)
    subst e2
    rcases a_cn_s e1 with ⟨rfl, rfl⟩ | ⟨rfl, rfl⟩ | ⟨rfl, rfl⟩ | ⟨rfl, rfl⟩ | ⟨rfl, rfl⟩ | ⟨rfl, rfl⟩
    · exact lv_if_eq hx hb hdc ht (fun q => K1 (decide_eq_true ((of_eq ix iy).mp q))) (fun q => K2 (decide_eq_false (fun z => q ((of_eq ix iy).mpr z))))
    · exact lv_if_ne hx hb hdc ht (fun q => K1 (decide_eq_true (fun z => q ((of_eq ix iy).mpr z)))) (fun q => K2 (decide_eq_false (fun z => z ((of_eq ix iy).mp q))))
    · exact lv_if_lt hx hb hdc ht (fun q => K1 (decide_eq_true ((of_lt ix iy).mp q))) (fun q => K2 (decide_eq_false (fun z => q ((of_lt ix iy).mpr z))))
    · exact lv_if_ge hx hb hdc ht (fun q => K1 (decide_eq_true ((of_le iy ix).mp q))) (fun q => K2 (decide_eq_false (fun z => q ((of_le iy ix).mpr z))))
    · exact lv_if_gt hx hb hdc ht (fun q => K1 (decide_eq_true ((of_lt iy ix).mp q))) (fun q => K2 (decide_eq_false (fun z => q ((of_lt iy ix).mpr z))))
    · exact lv_if_le hx hb hdc ht (fun q => K1 (decide_eq_true ((of_le ix iy).mp q))) (fun q => K2 (decide_eq_false (fun z => q ((of_le ix iy).mpr z))))
  · cases hf
def lc_i (x y : Int) : Int := if y < x then 1 else if x = y then 0 else -1
theorem lc_cmp {k : Nat} {x y : Int} : j_cmp k (lc_i x y) 0 = j_cmp k x y := by
  unfold lc_i j_cmp
  split <;> (rw [Bool.eq_iff_iff]; simp only [decide_eq_true_eq]; split; omega; split <;> omega)
theorem lg_of {x y : Int} (hx : InL x) (hy : InL y) : lg_cmp (Int64.ofInt x) (Int64.ofInt y) = Int32.ofInt (lc_i x y) := by
  unfold lg_cmp lc_i
  simp only [gt_iff_lt, ol_lt hy hx, ol_eq hx hy]
  split
  · rfl
  · split <;> rfl
theorem lc_in (x y : Int) : InI (lc_i x y) := by
  unfold lc_i
  split
  · exact ⟨by decide, by decide⟩
  · split <;> exact ⟨by decide, by decide⟩
theorem z_lcmp (hx : p.tables.exec = Jvm.exec) (hb : c.code = cc) (hdec : DecOk dec cc) :
    ∀ pc k off t x y τ en S st, c_op0 dec pc 5 = true → c_ins dec (pc + 1) a_if = some ((k, off), pc + 1 + 3) → j_tgt (pc + 1) off = some t → (j_cmp k x y = true → JW p l e R s m args below meth c Q nL D cl cA A adW aT aS ck c0 d0 n0 ad0 (j_ult dec t) τ en S st) → (j_cmp k x y = false → JW p l e R s m args below meth c Q nL D cl cA A adW aT aS ck c0 d0 n0 ad0 (j_ult dec (pc + 1 + 3)) τ en S st) → JW p l e R s m args below meth c Q nL D cl cA A adW aT aS ck c0 d0 n0 ad0 (j_ult dec pc) τ en ((2, y) :: (2, x) :: S) st := by
  intro pc kk off t x y τ en S st h h2 ht k1 k2
  have k := z_if (p := p) (l := l) (e := e) (R := R) (s := s) (m := m) (args := args) (below := below) (meth := meth) (c := c) (Q := Q) (nL := nL) (D := D) (cl := cl) (cA := cA) (A := A) (adW := adW) (aT := aT) (aS := aS) (ck := ck) (c0 := c0) (d0 := d0) (n0 := n0) (ad0 := ad0) hx hb hdec (pc + 1) kk off t (lc_i x y) τ en S st h2 ht (by rw [lc_cmp]; exact k1) (by rw [lc_cmp]; exact k2)
  obtain ⟨ii, hd, hf⟩ := c_op0_spec h
  obtain ⟨hdc, hln⟩ := hdec _ _ _ hd
  have hi : ii = .lcmp := by
    unfold a_op0 at hf
    split at hf <;> first | rfl | cases hf
  subst hi
  refine jw_st hx hb hdec k (ult_ins hd rfl) (fun _ hS _ _ => cons_ok (OkV.int (lc_in x y)) (hd_ok (hd_ok hS).2).2) (fun _ hS _ _ ad H locs ls _ _ _ _ cells slots K => W.lcmp hx hb hdc ?_)
  rw [lg_of ((hd_ok (hd_ok hS).2).1.2.1 rfl) ((hd_ok hS).1.2.1 rfl)]
  exact K
theorem z_acmp (hx : p.tables.exec = Jvm.exec) (hb : c.code = cc) (hdec : DecOk dec cc) (hW : ∀ i j : Nat, i < 24 → j < 24 → adW i = adW j → i = j) :
    ∀ pc k off t x y τ en S st, c_ins dec pc a_acmp = some ((k, off), pc + 3) → j_tgt pc off = some t → (j_cmp k x y = true → JW p l e R s m args below meth c Q nL D cl cA A adW aT aS ck c0 d0 n0 ad0 (j_ult dec t) τ en S st) → (j_cmp k x y = false → JW p l e R s m args below meth c Q nL D cl cA A adW aT aS ck c0 d0 n0 ad0 (j_ult dec (pc + 3)) τ en S st) → JW p l e R s m args below meth c Q nL D cl cA A adW aT aS ck c0 d0 n0 ad0 (j_ult dec pc) τ en ((3, y) :: (3, x) :: S) st := by
  intro pc kk off t x y τ en S st h ht k1 k2
  obtain ⟨ii, hd, hf⟩ := c_ins1 h
  obtain ⟨hdc, hln⟩ := hdec _ _ _ hd
  have ht := j_tgt_s ht
  refine jw_br hx hb hdec k1 k2 (ult_ins hd (ng hf (fun _ => rfl))) (fun hS => (hd_ok (hd_ok hS).2).2) (fun hS ad H locs ls cells slots K1 K2 => ?_)
  have iy := (hd_ok hS).1.2.2.1 rfl
  have ix := (hd_ok (hd_ok hS).2).1.2.2.1 rfl
  dsimp only at ix iy
  have he : (some (adW x.toNat) = some (adW y.toNat)) ↔ x = y := by
    constructor
    · intro q
      have := hW _ _ (by omega) (by omega) (Option.some.inj q)
      omega
    · intro q
      rw [q]
  unfold a_acmp at hf
  split at hf
  · cases hf
    exact lv_acmp_eq (rx := some (adW x.toNat)) (ry := some (adW y.toNat)) hx hb hdc ht (fun q => K1 (decide_eq_true (he.mp q))) (fun q => K2 (decide_eq_false (fun z => q (he.mpr z))))
  · cases hf
    exact lv_acmp_ne (rx := some (adW x.toNat)) (ry := some (adW y.toNat)) hx hb hdc ht (fun q => K1 (decide_eq_true (fun z => q (he.mpr z)))) (fun q => K2 (decide_eq_false (fun z => z (he.mp q))))
  · cases hf
theorem z_sw (hx : p.tables.exec = Jvm.exec) (hb : c.code = cc) (hdec : DecOk dec cc) :
    ∀ pc v t τ en S st, c_swOk dec pc = true → c_swT dec pc v = some t → JW p l e R s m args below meth c Q nL D cl cA A adW aT aS ck c0 d0 n0 ad0 (j_ult dec t) τ en S st → JW p l e R s m args below meth c Q nL D cl cA A adW aT aS ck c0 d0 n0 ad0 (j_ult dec pc) τ en ((1, v) :: S) st := by
  intro pc v t τ en S st hok h k
  unfold c_swOk at hok
  unfold c_swT at h
  split at hok
  · rename_i df lo hi offs n hd
    obtain ⟨hdc, hln⟩ := hdec _ _ _ hd
    rw [hd] at h
    simp only [Option.bind_some] at h
    refine jw_st hx hb hdec k (ult_ins hd rfl) (fun _ hS _ _ => (hd_ok hS).2) (fun _ hS _ _ ad H locs ls _ _ _ _ cells slots K => ?_)
    have iv := (hd_ok hS).1.1 rfl
    dsimp only at iv
    split at h
    · rename_i hout
      exact lv_tableOut hx hb hdc (by rw [i32_of iv]; exact hout) (j_tgt_s h) K
    · rename_i hout
      obtain ⟨o, ho, h⟩ := j_bd h
      exact lv_tableIn hx hb hdc (by rw [i32_of iv]; omega) (by rw [i32_of iv]; omega) (by rw [i32_of iv]; exact ho) (j_tgt_s h) K
  · rename_i df ps n hd
    obtain ⟨hdc, hln⟩ := hdec _ _ _ hd
    rw [hd] at h
    simp only [Option.bind_some] at h
    refine jw_st hx hb hdec k (ult_ins hd rfl) (fun _ hS _ _ => (hd_ok hS).2) (fun _ hS _ _ ad H locs ls _ _ _ _ cells slots K => ?_)
    have iv := (hd_ok hS).1.1 rfl
    dsimp only at iv
    exact lv_lookup hx hb hdc hok (by rw [i32_of iv]) (j_tgt_s h) K
  · cases hok
theorem z_mono : ∀ pc τ τ' en S st, k_sub τ τ' = true → JW p l e R s m args below meth c Q nL D cl cA A adW aT aS ck c0 d0 n0 ad0 pc τ en S st → JW p l e R s m args below meth c Q nL D cl cA A adW aT aS ck c0 d0 n0 ad0 pc τ' en S st := by
  intro pc τ τ' en S st h k
  unfold k_sub at h
  rw [Bool.and_eq_true, beq_iff_eq] at h
  obtain ⟨h1, h2⟩ := h
  have h3 : ∀ i, τ.getD i 0 ≠ 0 → i < τ.length ∧ τ'.getD i 0 = τ.getD i 0 := by
    intro i hi
    have hlt : i < τ.length := by
      apply Classical.byContradiction
      intro hn
      apply hi
      simp only [List.getD]
      rw [List.getElem?_eq_none (by omega)]
      rfl
    have := List.all_eq_true.mp h2 i (List.mem_range.mpr hlt)
    rw [Bool.or_eq_true, beq_iff_eq, beq_iff_eq] at this
    rcases this with q | q
    · exact absurd q hi
    · exact ⟨hlt, q.symm⟩
  refine ⟨k.1, fun g1 g2 g3 g4 g5 g6 ad H locs ls f1 f2 f3 f4 => k.2 g1 g2 (fun i hi => ?_) g4 g5 (h1.trans g6) ad H locs ls f1 f2 f3 (lv_mono f4 (fun q hq => ?_))⟩
  · have := g3 i (by rw [(h3 i hi).2]; exact hi)
    rw [(h3 i hi).2] at this
    exact this
  · obtain ⟨a1, a2, a3⟩ := w_l_mem.mp hq
    have := h3 _ a2
    exact w_l_mem.mpr ⟨by omega, by rw [this.2]; exact a2, by rw [this.2]; exact a3⟩
end JW2
end
section
/-- what the tables say of the classes -/
def CF (Ts : List Cond) (cl : List vw_C) (ck : Nat → List Nat) : Prop := ∀ ci C T N, cl[ci]? = some (C, T, N) → (∀ w ∈ u_ws C T N, w ∈ Ts) ∧ (ck ci).length = N ∧ (∀ a, a < N → ∀ b, b < N → a ≠ b → (T a).2.1 ≠ (T b).2.1) ∧ ∀ k, k < N → ∃ v, (ck ci)[k]? = some (j_kd v) ∧ FK (T k).2.2.1 v ∧ (v = 1 ∨ v = 2 ∨ v = -1 ∨ 6 ≤ v)
/-- what stands there from the start and is never written -/
def SF (Zs : String → String → String → Value → Prop) (adW : Nat → Nat) (aT aS : Nat) (cW : Nat → Nat → Int) (xs : Nat → Int) (L : Nat) (A : Nat → Prop) (U : State) (H : Heap) : Prop :=
  (∀ C n d v, Zs C n d v → va_Z C n d v A U H) ∧ va_T (.object "FeederShares$Word") aT 24 (fun j => .ref (adW j)) A U H ∧
  va_Ef 24 "FeederShares$Word" "code" "J" (fun k => .long (Int64.ofInt (cW 0 k))) adW A U H ∧ va_Ef 24 "FeederShares$Word" "kept" "Z" (fun k => .int (Int32.ofInt (cW 1 k))) adW A U H ∧
  (∀ k, k < 24 → InL (cW 0 k) ∧ InI (cW 1 k)) ∧ va_X aS L (fun j => Int32.ofInt (xs j)) U H ∧ ¬ A aS ∧ aS < H.size ∧ L < 2147483648 ∧ (∀ j, InI (xs j)) ∧ vx_Zq Bundle.tN "UNASSIGNED_STACK" Bundle.steD A U H ∧ vx_Zq Bundle.tN "SUPPRESSED_SENTINEL" Bundle.listD A U H
theorem clampNeg_of {v : Int} (h : InI v) : (Int32.ofInt v).toNatClampNeg = v.toNat := by
  have : (Int32.ofInt v).toNatClampNeg = (Int32.ofInt v).toInt.toNat := rfl
  rw [this, i32_of h]
theorem in_of {v : Int} {n : Nat} (h : InI v) (h0 : 0 ≤ v) (h1 : v < n) : vp_in (Int32.ofInt v) n := by
  rw [vp_in_iff, i32_of h]
  exact ⟨h0, h1⟩
theorem ofNat_of (n : Nat) : Int32.ofNat n = Int32.ofInt (n : Int) := Int32.ofInt_eq_ofNat.symm
section JW3
variable {p : Program} {l : Launch} {e : Env} {R : Room} {s : State} {m : MethodId} {args : Array Value} {below : List Frame} {meth : Method} {c : Code} {Q : State → Prop}
  {cc : ByteArray} {nL : Nat} {own : String} {Ts : List Cond} {D : va_G} {cl : List vw_C} {cA : Nat → ClassId} {A : Nat → Prop} {adW : Nat → Nat} {aT aS : Nat} {ck : Nat → List Nat} {c0 d0 n0 : Nat} {ad0 : Nat → Nat} {dec : XD} {lk lp : XK} {Zs : String → String → String → Value → Prop} {cW : Nat → Nat → Int} {xs : Nat → Int} {L : Nat}
theorem slot_at {g : XS} {f : Nat → Int} {cc : XC} {ci k kd : Nat} (h : OkC ck g f cc) (h1 : cc.1 = 10 + ci) (h2 : (ck ci)[k]? = some kd) : ∃ r, cc.2.2[k]? = some (kd, r) := by
  have h3 := (h.2.2 (by omega)).1
  have h4 : cc.1 - 10 = ci := by omega
  rw [h4] at h3
  rw [← h3, List.getElem?_map] at h2
  cases hq : cc.2.2[k]? with
  | none => rw [hq] at h2; cases h2
  | some q =>
    rw [hq] at h2
    refine ⟨q.2, ?_⟩
    cases h2
    rfl
theorem obj_at {st : XT} {ad : Nat → Nat} {ci : Nat} {o : Int} (hok : OkS ck st) (hv : OkV st.1.1 (10 + ci) o) : ∃ cc, st.1.1[o.toNat]? = some cc ∧ cc.1 = 10 + ci ∧ OkC ck st.1.1 (st.2 o.toNat) cc ∧ (w_w cA ad st)[o.toNat]? = some (ad o.toNat, .inr (ci, w_fs ad (st.2 o.toNat) cc.2.2)) := by
  obtain ⟨h0, cc, h1, h2⟩ := hv.2.2.2.1 (by omega)
  refine ⟨cc, h1, h2, hok _ _ h1, ?_⟩
  rw [w_w_at h1, w_c_obj (by omega)]
  have : cc.1 - 10 = ci := by omega
  rw [this]
theorem j_kd1 {kd : Int} (h : kd = 1 ∨ kd = 2 ∨ kd = -1) : (j_kd kd = 1 ∧ (kd = 1 ∨ kd = -1)) ∨ (j_kd kd = 2 ∧ kd = 2) := by
  rcases h with rfl | rfl | rfl
  · exact Or.inl ⟨rfl, Or.inl rfl⟩
  · exact Or.inr ⟨rfl, rfl⟩
  · exact Or.inl ⟨rfl, Or.inr rfl⟩
theorem j_kd6 {kd : Int} (h : 6 ≤ kd) : j_kd kd = kd.toNat ∧ 6 ≤ kd.toNat := by
  unfold j_kd
  rw [if_neg (by omega)]
  exact ⟨rfl, by omega⟩
theorem w_s_ref {ad : Nat → Nat} {x : Int} {kd r : Nat} (h : 6 ≤ kd) : w_s ad x (kd, r + 1) = .ref (ad r) := by
  unfold w_s
  split
  · rename_i h1
    dsimp only at h1
    omega
  · rename_i h1
    dsimp only at h1
    omega
  · rfl
theorem z_getf (hx : p.tables.exec = Jvm.exec) (hb : c.code = cc) (hdec : DecOk dec cc) (hLK : ∀ i q, lk i = some q → LF Ts cl own ck adW aT Zs i q) (hown : s.vm.findClass own = some m.cls) (hts : ∀ w ∈ Ts, w.before args s = true) (hCF : CF Ts cl ck) (hK : va_K D cl (w_tys cA) s) :
    ∀ pc ci k kd o τ en S st, c_ins dec pc (a_getf lk) = some ((0, ci, k, kd), pc + 3) → (kd = 1 ∨ kd = 2 ∨ kd = -1) → JW p l e R s m args below meth c Q nL D cl cA A adW aT aS ck c0 d0 n0 ad0 (j_ult dec (pc + 3)) τ en ((j_kd kd, st.2 o.toNat k) :: S) st → JW p l e R s m args below meth c Q nL D cl cA A adW aT aS ck c0 d0 n0 ad0 (j_ult dec pc) τ en ((10 + ci, o) :: S) st := by
  intro pc ci k kd o τ en S st h hkd kk
  obtain ⟨ii, hd, hf⟩ := c_ins1 h
  obtain ⟨hdc, hln⟩ := hdec _ _ _ hd
  have hu := ult_ins hd (ng hf (fun _ => rfl))
  unfold a_getf at hf
  split at hf
  · obtain ⟨C, T, N, hc, hk, hck, hFK, hw⟩ := hLK _ _ hf
    refine jw_st hx hb hdec kk hu (fun hok hS _ _ => ?_) (fun hok hS _ _ ad H locs ls g1 _ _ _ cells slots K => ?_)
    · obtain ⟨q, q1, q2, q3, q4⟩ := obj_at (cA := cA) (ad := fun _ => 0) hok (hd_ok hS).1
      obtain ⟨r, hr⟩ := slot_at q3 q2 hck
      have hv := (q3.2.2 (by omega)).2 _ _ hr
      refine cons_ok ?_ (hd_ok hS).2
      rcases j_kd1 hkd with ⟨e1, -⟩ | ⟨e1, -⟩
      · rw [e1]
        exact OkV.int (hv.1 e1)
      · rw [e1]
        exact OkV.long (hv.2.1 e1)
    · obtain ⟨q, q1, q2, q3, q4⟩ := obj_at (cA := cA) (ad := ad) hok (hd_ok hS).1
      obtain ⟨r, hr⟩ := slot_at q3 q2 hck
      have ev : w_s ad (st.2 o.toNat k) (j_kd kd, r) = w_v ad adW aT aS (j_kd kd) (st.2 o.toNat k) := by
        rcases j_kd1 hkd with ⟨e1, -⟩ | ⟨e1, -⟩ <;> rw [e1] <;> rfl
      have hfs := w_fs_at (ad := ad) (f := st.2 o.toNat) hr
      rw [ev] at hfs
      have href : w_v ad adW aT aS (10 + ci) o = .ref (ad o.toNat) := w_v_ref (by omega)
      rw [List.map_cons, href]
      rcases hw with hw | ⟨hh, hw⟩
      · exact va_get hx hb hts (hCF _ _ _ _ hc).1 hown hK g1 o.toNat q4 hc k hk (hts _ hw) (fun _ z => z) hfs hdc K
      · exact va_getN hx hb hts (hCF _ _ _ _ hc).1 hown hK g1 o.toNat q4 hc k hk (hts _ hw) (fun _ z => z) hfs hdc K
  · cases hf
theorem z_getr (hx : p.tables.exec = Jvm.exec) (hb : c.code = cc) (hdec : DecOk dec cc) (hLK : ∀ i q, lk i = some q → LF Ts cl own ck adW aT Zs i q) (hown : s.vm.findClass own = some m.cls) (hts : ∀ w ∈ Ts, w.before args s = true) (hCF : CF Ts cl ck) (hK : va_K D cl (w_tys cA) s) :
    ∀ pc ci k kd o r τ en S st, c_ins dec pc (a_getf lk) = some ((0, ci, k, kd), pc + 3) → 6 ≤ kd → j_rf st.1.1 o.toNat k = some r → JW p l e R s m args below meth c Q nL D cl cA A adW aT aS ck c0 d0 n0 ad0 (j_ult dec (pc + 3)) τ en ((kd.toNat, r) :: S) st → JW p l e R s m args below meth c Q nL D cl cA A adW aT aS ck c0 d0 n0 ad0 (j_ult dec pc) τ en ((10 + ci, o) :: S) st := by
  intro pc ci k kd o r τ en S st h hkd hrf kk
  obtain ⟨ii, hd, hf⟩ := c_ins1 h
  obtain ⟨hdc, hln⟩ := hdec _ _ _ hd
  have hu := ult_ins hd (ng hf (fun _ => rfl))
  obtain ⟨e1, e2⟩ := j_kd6 hkd
  unfold a_getf at hf
  split at hf
  · obtain ⟨C, T, N, hc, hk, hck, hFK, hw⟩ := hLK _ _ hf
    rw [e1] at hck
    have key : OkS ck st → OkV st.1.1 (10 + ci) o → ∀ ad : Nat → Nat, ∃ (q : XC) (r' : Nat), st.1.1[o.toNat]? = some q ∧ r = (r' : Int) ∧ q.2.2[k]? = some (kd.toNat, r' + 1) ∧ (∃ c', st.1.1[r']? = some c' ∧ c'.1 = kd.toNat) ∧ (w_w cA ad st)[o.toNat]? = some (ad o.toNat, .inr (ci, w_fs ad (st.2 o.toNat) q.2.2)) := by
      intro hok hv ad
      obtain ⟨q, q1, q2, q3, q4⟩ := obj_at (cA := cA) (ad := ad) hok hv
      obtain ⟨r0, hr0⟩ := slot_at q3 q2 hck
      unfold j_rf at hrf
      rw [q1] at hrf
      obtain ⟨qa, qb, qc⟩ := q
      dsimp only at hrf hr0
      rw [hr0] at hrf
      cases r0 with
      | zero => cases hrf
      | succ r0 =>
        cases hrf
        exact ⟨_, r0, q1, rfl, hr0, ((q3.2.2 (by omega)).2 _ _ hr0).2.2 r0 (by dsimp only; omega) (by dsimp only; omega) rfl, q4⟩
    refine jw_st hx hb hdec kk hu (fun hok hS _ _ => ?_) (fun hok hS _ _ ad H locs ls g1 _ _ _ cells slots K => ?_)
    · obtain ⟨q, r', q1, q2, q3, ⟨c', q4, q5⟩, -⟩ := key hok (hd_ok hS).1 (fun _ => 0)
      refine cons_ok (OkV.ref e2 (by dsimp only; omega) ?_ q5) (hd_ok hS).2
      rw [q2]
      exact q4
    · obtain ⟨q, r', q1, q2, q3, -, q6⟩ := key hok (hd_ok hS).1 ad
      have hfs := w_fs_at (ad := ad) (f := st.2 o.toNat) q3
      rw [w_s_ref e2] at hfs
      have href : w_v ad adW aT aS (10 + ci) o = .ref (ad o.toNat) := w_v_ref (by omega)
      have hr2 : w_v ad adW aT aS kd.toNat r = .ref (ad r') := by rw [w_v_ref e2, q2]; rfl
      rw [List.map_cons, hr2] at K
      rw [List.map_cons, href]
      rcases hw with hw | ⟨hh, hw⟩
      · exact va_get hx hb hts (hCF _ _ _ _ hc).1 hown hK g1 o.toNat q6 hc k hk (hts _ hw) (fun _ z => z) hfs hdc K
      · exact va_getN hx hb hts (hCF _ _ _ _ hc).1 hown hK g1 o.toNat q6 hc k hk (hts _ hw) (fun _ z => z) hfs hdc K
  · cases hf
theorem arr_at {st : XT} {ad : Nat → Nat} {ty : Nat} {o : Int} (hok : OkS ck st) (hv : OkV st.1.1 ty o) (h6 : 6 ≤ ty) (h10 : ty < 10) : ∃ n : Nat, j_len st.1.1 o.toNat = (n : Int) ∧ n < 2147483648 ∧ (∃ z, st.1.1[o.toNat]? = some (ty, n, z)) ∧ (ty = 7 → ∀ k, InL (st.2 o.toNat k)) ∧ (ty ≠ 7 → ∀ k, InI (st.2 o.toNat k)) ∧ (w_w cA ad st)[o.toNat]? = some (ad o.toNat, w_c cA ad (st.2 o.toNat) (ty, n, [])) := by
  obtain ⟨h0, q, h1, h2⟩ := hv.2.2.2.1 h6
  have h3 := hok _ _ h1
  obtain ⟨qa, qb, qc⟩ := q
  dsimp only at h2
  subst h2
  obtain ⟨f1, f2, f3⟩ := h3.2.1 h10
  refine ⟨qb, by unfold j_len; rw [h1], f1, ⟨qc, h1⟩, f2, f3, ?_⟩
  rw [w_w_at h1]
  rcases (show qa = 6 ∨ qa = 7 ∨ qa = 8 ∨ qa = 9 by omega) with rfl | rfl | rfl | rfl <;> rfl
theorem k_arr_s {w ty : Nat} (h : k_arr w ty = true) (h6 : 6 ≤ ty) (h10 : ty < 10) : (ty = 6 ∧ w = 6) ∨ (ty = 7 ∧ w = 7) ∨ (ty = 8 ∧ w = 8) ∨ (ty = 9 ∧ (w = 8 ∨ w = 9)) := by
  unfold k_arr at h
  split at h
  · rw [Bool.or_eq_true, beq_iff_eq, beq_iff_eq] at h
    omega
  · rw [beq_iff_eq] at h
    omega
theorem z_aload (hx : p.tables.exec = Jvm.exec) (hb : c.code = cc) (hdec : DecOk dec cc) (hK : va_K D cl (w_tys cA) s) :
    ∀ pc w ty i o τ en S st, c_ins dec pc a_ald = some (w, pc + 1) → 6 ≤ ty → ty < 10 → k_arr w ty = true → 0 ≤ i → i < j_len st.1.1 o.toNat → JW p l e R s m args below meth c Q nL D cl cA A adW aT aS ck c0 d0 n0 ad0 (j_ult dec (pc + 1)) τ en ((k_elem ty, st.2 o.toNat i.toNat) :: S) st → JW p l e R s m args below meth c Q nL D cl cA A adW aT aS ck c0 d0 n0 ad0 (j_ult dec pc) τ en ((1, i) :: (ty, o) :: S) st := by
  intro pc w ty i o τ en S st h h6 h10 hka hi0 hi1 kk
  obtain ⟨ii, hd, hf⟩ := c_ins1 h
  obtain ⟨hdc, hln⟩ := hdec _ _ _ hd
  have hu := ult_ins hd (ng hf (fun _ => rfl))
  refine jw_st hx hb hdec kk hu (fun hok hS _ _ => ?_) (fun hok hS _ _ ad H locs ls g1 _ _ _ cells slots K => ?_)
  · obtain ⟨n, q1, q2, q3, q4, q5, -⟩ := arr_at (cA := cA) (ad := fun _ => 0) hok (hd_ok (hd_ok hS).2).1 h6 h10
    refine cons_ok ?_ (hd_ok (hd_ok hS).2).2
    by_cases h7 : ty = 7
    · subst h7
      exact OkV.long (q4 rfl _)
    · have : k_elem ty = 1 := by unfold k_elem; rw [if_neg h7]
      rw [this]
      exact OkV.int (q5 h7 _)
  · obtain ⟨n, q1, q2, q3, q4, q5, q6⟩ := arr_at (cA := cA) (ad := ad) hok (hd_ok (hd_ok hS).2).1 h6 h10
    have ii0 := (hd_ok hS).1.1 rfl
    dsimp only at ii0 q1 q6
    rw [q1] at hi1
    have hin := in_of ii0 hi0 hi1
    have href : w_v ad adW aT aS ty o = .ref (ad o.toNat) := w_v_ref h6
    rw [List.map_cons, List.map_cons, href]
    unfold a_ald at hf
    rcases k_arr_s hka h6 h10 with ⟨rfl, rfl⟩ | ⟨rfl, rfl⟩ | ⟨rfl, rfl⟩ | ⟨rfl, hw⟩
    · split at hf <;> cases hf
      refine va_iald hx hb hK g1 o.toNat 0 q6 rfl hin hdc ?_
      rw [clampNeg_of ii0]
      exact K
    · split at hf <;> cases hf
      refine va_lald hx hb hK g1 o.toNat 1 q6 rfl hin hdc ?_
      rw [clampNeg_of ii0]
      exact K
    · split at hf <;> cases hf
      refine va_bald hx hb hK g1 o.toNat 2 q6 rfl hin hdc ?_
      rw [clampNeg_of ii0]
      exact K
    · split at hf <;> first | (cases hf; done) | skip
      all_goals first | (exfalso; cases hf; omega) | skip
      refine va_zald hx hb hK g1 o.toNat 3 q6 rfl hin hdc ?_
      rw [clampNeg_of ii0]
      exact K
theorem z_sload (hx : p.tables.exec = Jvm.exec) (hb : c.code = cc) (hdec : DecOk dec cc) (hSF : SF Zs adW aT aS cW xs L A s s.heap) :
    ∀ pc i o τ en S st, c_ins dec pc a_ald = some (6, pc + 1) → 0 ≤ i → i < (L : Int) → JW p l e R s m args below meth c Q nL D cl cA A adW aT aS ck c0 d0 n0 ad0 (j_ult dec (pc + 1)) τ en ((1, xs i.toNat) :: S) st → JW p l e R s m args below meth c Q nL D cl cA A adW aT aS ck c0 d0 n0 ad0 (j_ult dec pc) τ en ((1, i) :: (5, o) :: S) st := by
  intro pc i o τ en S st h hi0 hi1 kk
  obtain ⟨ii, hd, hf⟩ := c_ins1 h
  obtain ⟨hdc, hln⟩ := hdec _ _ _ hd
  have hu := ult_ins hd (ng hf (fun _ => rfl))
  obtain ⟨-, -, -, -, -, hX, hnA, hlt, hL, hxs, -⟩ := hSF
  refine jw_st hx hb hdec kk hu (fun hok hS _ _ => cons_ok (OkV.int (hxs _)) (hd_ok (hd_ok hS).2).2) (fun hok hS _ _ ad H locs ls _ _ g3 _ cells slots K => ?_)
  have ii0 := (hd_ok hS).1.1 rfl
  dsimp only at ii0
  unfold a_ald at hf
  split at hf <;> cases hf
  refine va_sld hx hb hX hlt hnA g3 (in_of ii0 hi0 hi1) hdc ?_
  rw [clampNeg_of ii0]
  exact K
theorem z_wload (hx : p.tables.exec = Jvm.exec) (hb : c.code = cc) (hdec : DecOk dec cc) (hSF : SF Zs adW aT aS cW xs L A s s.heap) :
    ∀ pc i o τ en S st, c_ins dec pc a_ald = some (4, pc + 1) → 0 ≤ i → i < 24 → JW p l e R s m args below meth c Q nL D cl cA A adW aT aS ck c0 d0 n0 ad0 (j_ult dec (pc + 1)) τ en ((3, i) :: S) st → JW p l e R s m args below meth c Q nL D cl cA A adW aT aS ck c0 d0 n0 ad0 (j_ult dec pc) τ en ((1, i) :: (4, o) :: S) st := by
  intro pc i o τ en S st h hi0 hi1 kk
  obtain ⟨ii, hd, hf⟩ := c_ins1 h
  obtain ⟨hdc, hln⟩ := hdec _ _ _ hd
  have hu := ult_ins hd (ng hf (fun _ => rfl))
  obtain ⟨-, hT, -⟩ := hSF
  refine jw_st hx hb hdec kk hu (fun hok hS _ _ => cons_ok (OkV.word ⟨hi0, hi1⟩) (hd_ok (hd_ok hS).2).2) (fun hok hS _ _ ad H locs ls _ _ g3 _ cells slots K => ?_)
  have ii0 := (hd_ok hS).1.1 rfl
  dsimp only at ii0
  unfold a_ald at hf
  split at hf <;> cases hf
  exact vb_tq hx hb hT g3 (in_of ii0 hi0 hi1) (by rw [clampNeg_of ii0]; rfl) hdc K
theorem z_alen (hx : p.tables.exec = Jvm.exec) (hb : c.code = cc) (hdec : DecOk dec cc) (hK : va_K D cl (w_tys cA) s) :
    ∀ pc ty o τ en S st, c_op0 dec pc 4 = true → 6 ≤ ty → ty < 10 → JW p l e R s m args below meth c Q nL D cl cA A adW aT aS ck c0 d0 n0 ad0 (j_ult dec (pc + 1)) τ en ((1, j_len st.1.1 o.toNat) :: S) st → JW p l e R s m args below meth c Q nL D cl cA A adW aT aS ck c0 d0 n0 ad0 (j_ult dec pc) τ en ((ty, o) :: S) st := by
  intro pc ty o τ en S st h h6 h10 kk
  obtain ⟨ii, hd, hf⟩ := c_op0_spec h
  obtain ⟨hdc, hln⟩ := hdec _ _ _ hd
  have hi : ii = .arraylength := by
    unfold a_op0 at hf
    split at hf <;> first | rfl | cases hf
  subst hi
  refine jw_st hx hb hdec kk (ult_ins hd rfl) (fun hok hS _ _ => ?_) (fun hok hS _ _ ad H locs ls g1 _ _ _ cells slots K => ?_)
  · obtain ⟨n, q1, q2, q3, q4, q5, -⟩ := arr_at (cA := cA) (ad := fun _ => 0) hok (hd_ok hS).1 h6 h10
    dsimp only at q1
    refine cons_ok (OkV.int ?_) (hd_ok hS).2
    dsimp only
    rw [q1]
    exact ⟨by omega, by omega⟩
  · obtain ⟨n, q1, q2, q3, q4, q5, q6⟩ := arr_at (cA := cA) (ad := ad) hok (hd_ok hS).1 h6 h10
    dsimp only at q1 q6
    have href : w_v ad adW aT aS ty o = .ref (ad o.toNat) := w_v_ref h6
    rw [List.map_cons, href]
    rw [q1] at K
    have ev : Int32.ofNat n = Int32.ofInt (n : Int) := ofNat_of n
    rcases (show ty = 6 ∨ ty = 7 ∨ ty = 8 ∨ ty = 9 by omega) with rfl | rfl | rfl | rfl
    · exact va_alen hx hb hK g1 o.toNat 0 q6 rfl ev hdc K
    · exact va_alen hx hb hK g1 o.toNat 1 q6 rfl ev hdc K
    · exact va_alen hx hb hK g1 o.toNat 2 q6 rfl ev hdc K
    · exact va_alen hx hb hK g1 o.toNat 3 q6 rfl ev hdc K
theorem z_slen (hx : p.tables.exec = Jvm.exec) (hb : c.code = cc) (hdec : DecOk dec cc) (hSF : SF Zs adW aT aS cW xs L A s s.heap) :
    ∀ pc o τ en S st, c_op0 dec pc 4 = true → JW p l e R s m args below meth c Q nL D cl cA A adW aT aS ck c0 d0 n0 ad0 (j_ult dec (pc + 1)) τ en ((1, (L : Int)) :: S) st → JW p l e R s m args below meth c Q nL D cl cA A adW aT aS ck c0 d0 n0 ad0 (j_ult dec pc) τ en ((5, o) :: S) st := by
  intro pc o τ en S st h kk
  obtain ⟨ii, hd, hf⟩ := c_op0_spec h
  obtain ⟨hdc, hln⟩ := hdec _ _ _ hd
  have hi : ii = .arraylength := by
    unfold a_op0 at hf
    split at hf <;> first | rfl | cases hf
  subst hi
  obtain ⟨-, -, -, -, -, hX, hnA, hlt, hL, hxs, -⟩ := hSF
  refine jw_st hx hb hdec kk (ult_ins hd rfl) (fun hok hS _ _ => cons_ok (OkV.int ⟨by dsimp only; omega, by dsimp only; omega⟩) (hd_ok hS).2) (fun hok hS _ _ ad H locs ls g1 _ g3 _ cells slots K => va_slen hx hb hX hlt hnA g3 hdc ?_)
  rw [ofNat_of]
  exact K
theorem z_wlen (hx : p.tables.exec = Jvm.exec) (hb : c.code = cc) (hdec : DecOk dec cc) (hSF : SF Zs adW aT aS cW xs L A s s.heap) :
    ∀ pc o τ en S st, c_op0 dec pc 4 = true → JW p l e R s m args below meth c Q nL D cl cA A adW aT aS ck c0 d0 n0 ad0 (j_ult dec (pc + 1)) τ en ((1, 24) :: S) st → JW p l e R s m args below meth c Q nL D cl cA A adW aT aS ck c0 d0 n0 ad0 (j_ult dec pc) τ en ((4, o) :: S) st := by
  intro pc o τ en S st h kk
  obtain ⟨ii, hd, hf⟩ := c_op0_spec h
  obtain ⟨hdc, hln⟩ := hdec _ _ _ hd
  have hi : ii = .arraylength := by
    unfold a_op0 at hf
    split at hf <;> first | rfl | cases hf
  subst hi
  obtain ⟨-, hT, -⟩ := hSF
  exact jw_st hx hb hdec kk (ult_ins hd rfl) (fun hok hS _ _ => cons_ok (OkV.int ⟨by dsimp only; omega, by dsimp only; omega⟩) (hd_ok hS).2) (fun hok hS _ _ ad H locs ls g1 _ g3 _ cells slots K => va_tlen hx hb hT g3 rfl hdc K)
theorem z_wf (hx : p.tables.exec = Jvm.exec) (hb : c.code = cc) (hdec : DecOk dec cc) (hLK : ∀ i q, lk i = some q → LF Ts cl own ck adW aT Zs i q) (hown : s.vm.findClass own = some m.cls) (hts : ∀ w ∈ Ts, w.before args s = true) (hSF : SF Zs adW aT aS cW xs L A s s.heap) :
    ∀ pc y k kd o τ en S st, c_ins dec pc (a_getf lk) = some ((1, y, k, kd), pc + 3) → (kd = 1 ∨ kd = 2) → JW p l e R s m args below meth c Q nL D cl cA A adW aT aS ck c0 d0 n0 ad0 (j_ult dec (pc + 3)) τ en ((kd.toNat, cW k o.toNat) :: S) st → JW p l e R s m args below meth c Q nL D cl cA A adW aT aS ck c0 d0 n0 ad0 (j_ult dec pc) τ en ((3, o) :: S) st := by
  intro pc y k kd o τ en S st h hkd kk
  obtain ⟨ii, hd, hf⟩ := c_ins1 h
  obtain ⟨hdc, hln⟩ := hdec _ _ _ hd
  have hu := ult_ins hd (ng hf (fun _ => rfl))
  obtain ⟨-, -, hE0, hE1, hE, -⟩ := hSF
  unfold a_getf at hf
  split at hf
  · obtain ⟨n, d, hh, hw, hk⟩ := hLK _ _ hf
    rcases hk with ⟨rfl, rfl, rfl, rfl⟩ | ⟨rfl, rfl, rfl, rfl⟩
    · refine jw_st hx hb hdec kk hu (fun hok hS _ _ => ?_) (fun hok hS _ _ ad H locs ls g1 _ g3 _ cells slots K => ?_)
      · have ho := (hd_ok hS).1.2.2.1 rfl
        dsimp only at ho
        exact cons_ok (OkV.long (hE _ (by omega)).1) (hd_ok hS).2
      · have ho := (hd_ok hS).1.2.2.1 rfl
        dsimp only at ho
        obtain ⟨cf, kf, fi, f, cell, h1, h2, h3, h4, h5, h6⟩ := hE0 o.toNat (by omega)
        exact va_Wgetf (g := F0 m pc ls _) hx hb hown (hts _ hw) h1 h2 (by rw [g3.2.1 _ (Array.getElem?_eq_some_iff.mp h3).1 h6]; exact h3) h4 h5 rfl rfl hdc K
    · refine jw_st hx hb hdec kk hu (fun hok hS _ _ => ?_) (fun hok hS _ _ ad H locs ls g1 _ g3 _ cells slots K => ?_)
      · have ho := (hd_ok hS).1.2.2.1 rfl
        dsimp only at ho
        exact cons_ok (OkV.int (hE _ (by omega)).2) (hd_ok hS).2
      · have ho := (hd_ok hS).1.2.2.1 rfl
        dsimp only at ho
        obtain ⟨cf, kf, fi, f, cell, h1, h2, h3, h4, h5, h6⟩ := hE1 o.toNat (by omega)
        exact va_Wgetf (g := F0 m pc ls _) hx hb hown (hts _ hw) h1 h2 (by rw [g3.2.1 _ (Array.getElem?_eq_some_iff.mp h3).1 h6]; exact h3) h4 h5 rfl rfl hdc K
  · cases hf
/-- a step that writes a number: the world behind it -/
theorem w_w_put {st : XT} {ad : Nat → Nat} {o : Nat} {q : XC} {x : va_E} {h' : XH} (h1 : st.1.1[o]? = some q) (h2 : w_c cA ad (h' o) q = x) (h3 : ∀ a, a ≠ o → h' a = st.2 a) : (w_w cA ad st).set o (ad o, x) = w_w cA ad (st.1, h') := by
  apply List.ext_getElem?
  intro j
  by_cases e : j = o
  · subst e
    rw [w_w_at (st := (st.1, h')) h1, h2]
    have hl : j < (w_w cA ad st).length := by
      unfold w_w
      rw [List.length_mapIdx]
      exact (List.getElem?_eq_some_iff.mp h1).1
    rw [List.getElem?_set_self hl]
  · rw [List.getElem?_set_ne (fun h => e h.symm)]
    unfold w_w
    rw [List.getElem?_mapIdx, List.getElem?_mapIdx]
    dsimp only
    rw [h3 j e]
theorem w_fs_put {ad : Nat → Nat} {f f' : Nat → Int} {sl : List (Nat × Nat)} {k : Nat} {q : Nat × Nat} {v : Value} (h : sl[k]? = some q) (hv : w_s ad (f' k) q = v) (hf : ∀ j, j ≠ k → f' j = f j) : (w_fs ad f sl).set k v = w_fs ad f' sl := by
  apply List.ext_getElem?
  intro j
  by_cases e : j = k
  · subst e
    rw [w_fs_at (f := f') h, hv]
    have hl : j < (w_fs ad f sl).length := by
      unfold w_fs
      rw [List.length_mapIdx]
      exact (List.getElem?_eq_some_iff.mp h).1
    rw [List.getElem?_set_self hl]
  · rw [List.getElem?_set_ne (fun h => e h.symm)]
    unfold w_fs
    rw [List.getElem?_mapIdx, List.getElem?_mapIdx]
    rw [hf j e]
theorem j_up_ne {h : XH} {o k : Nat} {v : Int} {a : Nat} (e : a ≠ o) : j_up h o k v a = h a := by
  funext b
  unfold j_up
  rw [if_neg (fun q => e q.1)]
theorem j_up_at {h : XH} {o k : Nat} {v : Int} : j_up h o k v o k = v := by
  unfold j_up
  rw [if_pos ⟨rfl, rfl⟩]
theorem j_up_nk {h : XH} {o k : Nat} {v : Int} {b : Nat} (e : b ≠ k) : j_up h o k v o b = h o b := by
  unfold j_up
  rw [if_neg (fun q => e q.2)]
/-- numbers stay in their bounds behind a write -/
theorem OkS.put {st : XT} {o k : Nat} {v : Int} (hok : OkS ck st) (h : ∀ q, st.1.1[o]? = some q → (q.1 < 10 → (q.1 = 7 → InL v) ∧ (q.1 ≠ 7 → InI v)) ∧ (10 ≤ q.1 → ∀ z, q.2.2[k]? = some z → (z.1 = 1 → InI v) ∧ (z.1 = 2 → InL v))) : OkS ck (st.1, j_up st.2 o k v) := by
  intro a q hq
  have h0 := hok a q hq
  by_cases e : a = o
  · subst e
    obtain ⟨g1, g2⟩ := h q hq
    refine ⟨h0.1, fun h10 => ⟨(h0.2.1 h10).1, fun h7 b => ?_, fun h7 b => ?_⟩, fun h10 => ⟨(h0.2.2 h10).1, fun b z hz => ⟨fun z1 => ?_, fun z2 => ?_, (h0.2.2 h10).2 b z hz |>.2.2⟩⟩⟩
    · dsimp only
      by_cases eb : b = k
      · subst eb
        rw [j_up_at]
        exact (g1 h10).1 h7
      · rw [j_up_nk eb]
        exact (h0.2.1 h10).2.1 h7 b
    · dsimp only
      by_cases eb : b = k
      · subst eb
        rw [j_up_at]
        exact (g1 h10).2 h7
      · rw [j_up_nk eb]
        exact (h0.2.1 h10).2.2 h7 b
    · dsimp only
      by_cases eb : b = k
      · subst eb
        rw [j_up_at]
        exact (g2 h10 z hz).1 z1
      · rw [j_up_nk eb]
        exact ((h0.2.2 h10).2 b z hz).1 z1
    · dsimp only
      by_cases eb : b = k
      · subst eb
        rw [j_up_at]
        exact (g2 h10 z hz).2 z2
      · rw [j_up_nk eb]
        exact ((h0.2.2 h10).2 b z hz).2.1 z2
  · dsimp only
    rw [j_up_ne e]
    exact h0
/-- a putfield of a number, of what kind it may be -/
theorem jw_putf (hx : p.tables.exec = Jvm.exec) (hb : c.code = cc) (hdec : DecOk dec cc) (hown : s.vm.findClass own = some m.cls) (hts : ∀ w ∈ Ts, w.before args s = true) (hCF : CF Ts cl ck) (hK : va_K D cl (w_tys cA) s) (hLP : ∀ i q, lp i = some q → LF Ts cl own ck adW aT Zs i q ∧ (q.1 = 0 → ∀ C T N, cl[q.2.1]? = some (C, T, N) → (T q.2.2.1).2.2.2 = true → (T q.2.2.1).1 = own ∧ Cond.fieldLink own i (T q.2.2.1).1 (T q.2.2.1).2.1 (T q.2.2.1).2.2.1 ∈ Ts ∧ meth.name = "<init>"))
    {pc ci k : Nat} {kd o v : Int} {τ : List Nat} {en : List Int} {S : List (Nat × Int)} {st : XT} (h : c_ins dec pc (a_putf lp) = some ((0, ci, k, kd), pc + 3)) (hkd : kd = 1 ∨ kd = 2 ∨ (kd = -1 ∧ (v = 0 ∨ v = 1)))
    (kk : JW p l e R s m args below meth c Q nL D cl cA A adW aT aS ck c0 d0 n0 ad0 (j_ult dec (pc + 3)) τ en S (st.1, j_up st.2 o.toNat k v)) : JW p l e R s m args below meth c Q nL D cl cA A adW aT aS ck c0 d0 n0 ad0 (j_ult dec pc) τ en ((j_kd kd, v) :: (10 + ci, o) :: S) st := by
  obtain ⟨ii, hd, hf⟩ := c_ins1 h
  obtain ⟨hdc, hln⟩ := hdec _ _ _ hd
  have hu := ult_ins hd (ng hf (fun _ => rfl))
  have k' := jw_ult hx hb hdec kk
  rw [hu]
  unfold a_putf at hf
  split at hf
  · obtain ⟨⟨C, T, N, hc, hk, hck, hFK, hw⟩, hfin⟩ := hLP _ _ hf
    have hfin := hfin rfl C T N hc
    refine ⟨k'.1, fun hok hS hL h4 h5 h6 ad H locs ls g1 g2 g3 g4 => ?_⟩
    obtain ⟨hv, hS2⟩ := hd_ok hS
    obtain ⟨ho, hS3⟩ := hd_ok hS2
    obtain ⟨q, q1, q2, q3, q4⟩ := obj_at (cA := cA) (ad := ad) hok ho
    obtain ⟨r, hr⟩ := slot_at q3 q2 hck
    have hkd' : kd = 1 ∨ kd = 2 ∨ kd = -1 := by
      rcases hkd with h | h | h
      · exact Or.inl h
      · exact Or.inr (Or.inl h)
      · exact Or.inr (Or.inr h.1)
    have hok' : OkS ck (st.1, j_up st.2 o.toNat k v) := by
      refine hok.put (fun z hz => ?_)
      dsimp only at q1
      rw [q1] at hz
      cases hz
      refine ⟨fun e => by omega, fun _ z2 hz2 => ?_⟩
      rw [hr] at hz2
      cases hz2
      exact ⟨fun e => hv.1 e, fun e => hv.2.1 e⟩
    have ev : w_s ad v (j_kd kd, r) = w_v ad adW aT aS (j_kd kd) v := by
      rcases j_kd1 hkd' with ⟨e1, -⟩ | ⟨e1, -⟩ <;> rw [e1] <;> rfl
    have K := fun H1 locs1 a1 a2 a3 => k'.2 hok' hS3 hL h4 h5 h6 ad H1 locs1 ls a1 ⟨a2, g2.2⟩ a3 g4
    have eW : (w_w cA ad st).set o.toNat (ad o.toNat, .inr (ci, (w_fs ad (st.2 o.toNat) q.2.2).set k (w_v ad adW aT aS (j_kd kd) v))) = w_w cA ad (st.1, j_up st.2 o.toNat k v) := by
      refine w_w_put q1 ?_ (fun a ha => j_up_ne ha)
      rw [w_c_obj (by omega)]
      have : q.1 - 10 = ci := by omega
      rw [this, w_fs_put hr (by rw [j_up_at]; exact ev) (fun j hj => j_up_nk hj)]
    obtain ⟨hc1, hc2, hc3, hc4⟩ := hCF _ _ _ _ hc
    obtain ⟨ty, ty1, ty2, ty3, ty4, -⟩ := hFK
    have href : w_v ad adW aT aS (10 + ci) o = .ref (ad o.toNat) := w_v_ref (by omega)
    have hnar : narrow ty (w_v ad adW aT aS (j_kd kd) v) = w_v ad adW aT aS (j_kd kd) v ∧ fits ty (w_v ad adW aT aS (j_kd kd) v) = true := by
      rcases hkd with rfl | rfl | ⟨rfl, hz⟩
      · rw [ty2 rfl]
        exact ⟨rfl, rfl⟩
      · rw [ty3 rfl]
        exact ⟨rfl, rfl⟩
      · rw [ty4 rfl]
        rcases hz with rfl | rfl <;> exact ⟨rfl, rfl⟩
    have hkl : k < (w_fs ad (st.2 o.toNat) q.2.2).length := by
      unfold w_fs
      rw [List.length_mapIdx]
      exact (List.getElem?_eq_some_iff.mp hr).1
    rw [List.map_cons, List.map_cons, href]
    have hty0 : ∀ k, k < N → parseFieldDescriptor (T k).2.2.1 = some ((fun k => (parseFieldDescriptor (T k).2.2.1).getD .int) k) := by
      intro k hk
      obtain ⟨v', -, ⟨ty', e1, -⟩, -⟩ := hc4 k hk
      dsimp only
      rw [e1]
      rfl
    cases hfl : (T k).2.2.2 with
    | true =>
      obtain ⟨f1, f2, f3⟩ := hfin hfl
      exact va_putF hx hb hts hc1 _ hty0 hc3 hown hK g1 g2.1 g3 o.toNat q4 hc k hk (hts _ f2) (fun _ z => z) hfl f3 f1 ty1 hnar.1 hnar.2 hkl hdc (fun H1 locs1 a1 a2 a3 => K H1 locs1 (by rw [← eW]; exact a1) (by rw [← eW]; exact a2) a3)
    | false =>
      rcases hw with hw | ⟨hh, hw⟩
      · exact va_put hx hb hts hc1 _ hty0 hc3 hown hK g1 g2.1 g3 o.toNat q4 hc k hk (hts _ hw) (fun _ z => z) hfl ty1 hnar.1 hnar.2 hkl hdc (fun H1 locs1 a1 a2 a3 => K H1 locs1 (by rw [← eW]; exact a1) (by rw [← eW]; exact a2) a3)
      · exact va_putN hx hb hts hc1 _ hty0 hc3 hown hK g1 g2.1 g3 o.toNat q4 hc k hk (hts _ hw) (fun _ z => z) hfl ty1 hnar.1 hnar.2 hkl hdc (fun H1 locs1 a1 a2 a3 => K H1 locs1 (by rw [← eW]; exact a1) (by rw [← eW]; exact a2) a3)
  · cases hf
end JW3
end
section
section JW4
variable {p : Program} {l : Launch} {e : Env} {R : Room} {s : State} {m : MethodId} {args : Array Value} {below : List Frame} {meth : Method} {c : Code} {Q : State → Prop}
  {cc : ByteArray} {nL : Nat} {own : String} {Ts : List Cond} {D : va_G} {cl : List vw_C} {cA : Nat → ClassId} {A : Nat → Prop} {adW : Nat → Nat} {aT aS : Nat} {ck : Nat → List Nat} {c0 d0 n0 : Nat} {ad0 : Nat → Nat} {dec : XD} {lk lp : XK} {Zs : String → String → String → Value → Prop} {cW : Nat → Nat → Int} {xs : Nat → Int} {L : Nat}
theorem j_setR_s {g : XS} {o k r : Nat} {kd n : Nat} {sl : List (Nat × Nat)} {ty r0 : Nat} (h : g[o]? = some (kd, n, sl)) (h2 : sl[k]? = some (ty, r0)) : j_setR g o k r = g.set o (kd, n, sl.set k (ty, r + 1)) := by
  unfold j_setR
  rw [h]
  dsimp only
  rw [h2]
/-- a putfield of a reference -/
theorem z_putr (hx : p.tables.exec = Jvm.exec) (hb : c.code = cc) (hdec : DecOk dec cc) (hown : s.vm.findClass own = some m.cls) (hts : ∀ w ∈ Ts, w.before args s = true) (hCF : CF Ts cl ck) (hK : va_K D cl (w_tys cA) s) (hLP : ∀ i q, lp i = some q → LF Ts cl own ck adW aT Zs i q ∧ (q.1 = 0 → ∀ C T N, cl[q.2.1]? = some (C, T, N) → (T q.2.2.1).2.2.2 = true → (T q.2.2.1).1 = own ∧ Cond.fieldLink own i (T q.2.2.1).1 (T q.2.2.1).2.1 (T q.2.2.1).2.2.1 ∈ Ts ∧ meth.name = "<init>")) :
    ∀ pc ci k kd o v τ en S st, c_ins dec pc (a_putf lp) = some ((0, ci, k, kd), pc + 3) → 6 ≤ kd → JW p l e R s m args below meth c Q nL D cl cA A adW aT aS ck c0 d0 n0 ad0 (j_ult dec (pc + 3)) τ en S ((j_setR st.1.1 o.toNat k v.toNat, st.1.2), st.2) → JW p l e R s m args below meth c Q nL D cl cA A adW aT aS ck c0 d0 n0 ad0 (j_ult dec pc) τ en ((kd.toNat, v) :: (10 + ci, o) :: S) st := by
  intro pc ci k kd o v τ en S st h hkd kk
  obtain ⟨ii, hd, hf⟩ := c_ins1 h
  obtain ⟨hdc, hln⟩ := hdec _ _ _ hd
  have hu := ult_ins hd (ng hf (fun _ => rfl))
  have k' := jw_ult hx hb hdec kk
  rw [hu]
  obtain ⟨e1, e2⟩ := j_kd6 hkd
  unfold a_putf at hf
  split at hf
  · obtain ⟨⟨C, T, N, hc, hk, hck, hFK, hw⟩, hfin⟩ := hLP _ _ hf
    have hfin := hfin rfl C T N hc
    rw [e1] at hck
    refine ⟨k'.1, fun hok hS hL h4 h5 h6 ad H locs ls g1 g2 g3 g4 => ?_⟩
    obtain ⟨hv, hS2⟩ := hd_ok hS
    obtain ⟨ho, hS3⟩ := hd_ok hS2
    obtain ⟨q, q1, q2, q3, q4⟩ := obj_at (cA := cA) (ad := ad) hok ho
    obtain ⟨r, hr⟩ := slot_at q3 q2 hck
    obtain ⟨hv0, cv, hv1, hv2⟩ := hv.2.2.2.1 e2
    obtain ⟨qa, qb, qc⟩ := q
    dsimp only at q1 q2 hr hv0 hv1 hv2
    have eR : j_setR st.1.1 o.toNat k v.toNat = st.1.1.set o.toNat (qa, qb, qc.set k (kd.toNat, v.toNat + 1)) := j_setR_s q1 hr
    have hol : o.toNat < st.1.1.length := (List.getElem?_eq_some_iff.mp q1).1
    have hkl0 : k < qc.length := (List.getElem?_eq_some_iff.mp hr).1
    -- a cell's kind stays
    have hkeep : ∀ (r : Nat) (c' : XC), st.1.1[r]? = some c' → ∃ c'', (st.1.1.set o.toNat (qa, qb, qc.set k (kd.toNat, v.toNat + 1)))[r]? = some c'' ∧ c''.1 = c'.1 := by
      intro r c' hc'
      by_cases er : r = o.toNat
      · subst er
        rw [q1] at hc'
        cases hc'
        exact ⟨_, List.getElem?_set_self hol, rfl⟩
      · rw [List.getElem?_set_ne (fun h => er h.symm)]
        exact ⟨c', hc', rfl⟩
    have hVk : ∀ kd' v', OkV st.1.1 kd' v' → OkV (st.1.1.set o.toNat (qa, qb, qc.set k (kd.toNat, v.toNat + 1))) kd' v' := by
      intro kd' v' h
      refine ⟨h.1, h.2.1, h.2.2.1, fun h6 => ?_, h.2.2.2.2⟩
      obtain ⟨a1, c', a2, a3⟩ := h.2.2.2.1 h6
      obtain ⟨c'', b1, b2⟩ := hkeep _ _ a2
      exact ⟨a1, c'', b1, b2.trans a3⟩
    have hok' : OkS ck ((j_setR st.1.1 o.toNat k v.toNat, st.1.2), st.2) := by
      rw [eR]
      intro a z hz
      dsimp only at hz ⊢
      by_cases ea : a = o.toNat
      · subst ea
        rw [List.getElem?_set_self hol] at hz
        cases hz
        refine ⟨q3.1, fun h10 => (q3.2.1 h10), fun h10 => ⟨?_, fun b z hz => ?_⟩⟩
        · have := (q3.2.2 h10).1
          dsimp only at this ⊢
          rw [← this]
          apply List.ext_getElem?
          intro j
          rw [List.getElem?_map, List.getElem?_map]
          by_cases ej : j = k
          · subst ej
            rw [List.getElem?_set_self hkl0, hr]
            rfl
          · rw [List.getElem?_set_ne (fun h => ej h.symm)]
        · dsimp only at hz
          by_cases eb : b = k
          · subst eb
            rw [List.getElem?_set_self hkl0] at hz
            cases hz
            refine ⟨fun z1 => ?_, fun z2 => ?_, fun r h1 h2 h3 => ?_⟩
            · dsimp only at z1
              omega
            · dsimp only at z2
              omega
            · dsimp only at h3 ⊢
              have : r = v.toNat := by omega
              subst this
              obtain ⟨c'', b1, b2⟩ := hkeep _ _ hv1
              exact ⟨c'', b1, b2.trans hv2⟩
          · rw [List.getElem?_set_ne (fun h => eb h.symm)] at hz
            obtain ⟨w1, w2, w3⟩ := (q3.2.2 h10).2 b z hz
            refine ⟨w1, w2, fun r h1 h2 h3 => ?_⟩
            obtain ⟨c', b1, b2⟩ := w3 r h1 h2 h3
            obtain ⟨c'', b3, b4⟩ := hkeep _ _ b1
            exact ⟨c'', b3, b4.trans b2⟩
      · rw [List.getElem?_set_ne (fun h => ea h.symm)] at hz
        have h0 := hok a z hz
        refine ⟨h0.1, h0.2.1, fun h10 => ⟨(h0.2.2 h10).1, fun b y hy => ?_⟩⟩
        obtain ⟨w1, w2, w3⟩ := (h0.2.2 h10).2 b y hy
        refine ⟨w1, w2, fun r h1 h2 h3 => ?_⟩
        obtain ⟨c', b1, b2⟩ := w3 r h1 h2 h3
        obtain ⟨c'', b3, b4⟩ := hkeep _ _ b1
        exact ⟨c'', b3, b4.trans b2⟩
    have K := fun H1 locs1 a1 a2 a3 => k'.2 hok' (by rw [eR]; exact fun q hq => hVk _ _ (hS3 q hq)) (by rw [eR]; exact fun i hi => hVk _ _ (hL i hi)) ⟨h4.1, by rw [eR, List.length_set]; exact h4.2⟩ h5 h6 ad H1 locs1 ls a1 ⟨a2, g2.2⟩ a3 g4
    have eW : (w_w cA ad st).set o.toNat (ad o.toNat, .inr (ci, (w_fs ad (st.2 o.toNat) qc).set k (.ref (ad v.toNat)))) = w_w cA ad ((j_setR st.1.1 o.toNat k v.toNat, st.1.2), st.2) := by
      rw [eR]
      apply List.ext_getElem?
      intro j
      by_cases ej : j = o.toNat
      · subst ej
        rw [w_w_at (st := ((st.1.1.set o.toNat (qa, qb, qc.set k (kd.toNat, v.toNat + 1)), st.1.2), st.2)) (List.getElem?_set_self hol), w_c_obj (by dsimp only; omega)]
        have : qa - 10 = ci := by omega
        dsimp only
        rw [this]
        have hl : o.toNat < (w_w cA ad st).length := by
          unfold w_w
          rw [List.length_mapIdx]
          exact hol
        rw [List.getElem?_set_self hl]
        congr 4
        apply List.ext_getElem?
        intro i
        by_cases ei : i = k
        · subst ei
          rw [w_fs_at (List.getElem?_set_self hkl0), w_s_ref e2]
          have hl2 : i < (w_fs ad (st.2 o.toNat) qc).length := by
            unfold w_fs
            rw [List.length_mapIdx]
            exact hkl0
          rw [List.getElem?_set_self hl2]
        · rw [List.getElem?_set_ne (fun h => ei h.symm)]
          unfold w_fs
          rw [List.getElem?_mapIdx, List.getElem?_mapIdx, List.getElem?_set_ne (fun h => ei h.symm)]
      · rw [List.getElem?_set_ne (fun h => ej h.symm)]
        unfold w_w
        rw [List.getElem?_mapIdx, List.getElem?_mapIdx]
        dsimp only
        rw [List.getElem?_set_ne (fun h => ej h.symm)]
    obtain ⟨hc1, hc2, hc3, hc4⟩ := hCF _ _ _ _ hc
    obtain ⟨ty, ty1, -, -, -, ty5⟩ := hFK
    have href : w_v ad adW aT aS (10 + ci) o = .ref (ad o.toNat) := w_v_ref (by omega)
    have href2 : w_v ad adW aT aS kd.toNat v = .ref (ad v.toNat) := w_v_ref e2
    have hnar : narrow ty (.ref (ad v.toNat)) = .ref (ad v.toNat) ∧ fits ty (.ref (ad v.toNat)) = true := by
      rcases ty5 hkd with ⟨n, rfl⟩ | ⟨t, rfl⟩ <;> exact ⟨rfl, rfl⟩
    have hkl : k < (w_fs ad (st.2 o.toNat) qc).length := by
      unfold w_fs
      rw [List.length_mapIdx]
      exact hkl0
    rw [List.map_cons, List.map_cons, href, href2]
    have hty0 : ∀ k, k < N → parseFieldDescriptor (T k).2.2.1 = some ((fun k => (parseFieldDescriptor (T k).2.2.1).getD .int) k) := by
      intro k hk
      obtain ⟨v', -, ⟨ty', e1, -⟩, -⟩ := hc4 k hk
      dsimp only
      rw [e1]
      rfl
    cases hfl : (T k).2.2.2 with
    | true =>
      obtain ⟨f1, f2, f3⟩ := hfin hfl
      exact va_putF hx hb hts hc1 _ hty0 hc3 hown hK g1 g2.1 g3 o.toNat q4 hc k hk (hts _ f2) (fun _ z => z) hfl f3 f1 ty1 hnar.1 hnar.2 hkl hdc (fun H1 locs1 a1 a2 a3 => K H1 locs1 (by rw [← eW]; exact a1) (by rw [← eW]; exact a2) a3)
    | false =>
      rcases hw with hw | ⟨hh, hw⟩
      · exact va_put hx hb hts hc1 _ hty0 hc3 hown hK g1 g2.1 g3 o.toNat q4 hc k hk (hts _ hw) (fun _ z => z) hfl ty1 hnar.1 hnar.2 hkl hdc (fun H1 locs1 a1 a2 a3 => K H1 locs1 (by rw [← eW]; exact a1) (by rw [← eW]; exact a2) a3)
      · exact va_putN hx hb hts hc1 _ hty0 hc3 hown hK g1 g2.1 g3 o.toNat q4 hc k hk (hts _ hw) (fun _ z => z) hfl ty1 hnar.1 hnar.2 hkl hdc (fun H1 locs1 a1 a2 a3 => K H1 locs1 (by rw [← eW]; exact a1) (by rw [← eW]; exact a2) a3)
  · cases hf
theorem upd_i (h : XH) (o k : Nat) (v : Int) : (fun j => Int32.ofInt (j_up h o k v o j)) = upd (fun j => Int32.ofInt (h o j)) k (Int32.ofInt v) := by
  funext j
  by_cases e : j = k
  · subst e
    rw [j_up_at, pk_us]
  · rw [j_up_nk e, pk_un e]
theorem upd_l (h : XH) (o k : Nat) (v : Int) : (fun j => Int64.ofInt (j_up h o k v o j)) = vp_updL (fun j => Int64.ofInt (h o j)) k (Int64.ofInt v) := by
  funext j
  by_cases e : j = k
  · subst e
    rw [j_up_at, pk_uLs]
  · rw [j_up_nk e, pk_uLn e]
theorem nar_b (v : Int) : Int32.ofInt ((Int32.ofInt v).toInt8.toInt32).toInt = vp_nar .byte (Int32.ofInt v) := by
  rw [Int32.ofInt_toInt, vp_nar_byte]
theorem nar_z (v : Int) : Int32.ofInt (Int32.ofInt v &&& 1).toInt = vp_nar .boolean (Int32.ofInt v) := by
  rw [Int32.ofInt_toInt]
  rfl
theorem z_astore (hx : p.tables.exec = Jvm.exec) (hb : c.code = cc) (hdec : DecOk dec cc) (hK : va_K D cl (w_tys cA) s) :
    ∀ pc w ty i o v τ en S st, c_ins dec pc a_ast = some (w, pc + 1) → 6 ≤ ty → ty < 10 → k_arr w ty = true → 0 ≤ i → i < j_len st.1.1 o.toNat → JW p l e R s m args below meth c Q nL D cl cA A adW aT aS ck c0 d0 n0 ad0 (j_ult dec (pc + 1)) τ en S (st.1, j_up st.2 o.toNat i.toNat (match ty with
      | 8 => ((Int32.ofInt v).toInt8.toInt32).toInt
      | 9 => (Int32.ofInt v &&& 1).toInt
      | _ => v)) → JW p l e R s m args below meth c Q nL D cl cA A adW aT aS ck c0 d0 n0 ad0 (j_ult dec pc) τ en ((k_elem ty, v) :: (1, i) :: (ty, o) :: S) st := by
  intro pc w ty i o v τ en S st h h6 h10 hka hi0 hi1 kk
  obtain ⟨ii, hd, hf⟩ := c_ins1 h
  obtain ⟨hdc, hln⟩ := hdec _ _ _ hd
  have hu := ult_ins hd (ng hf (fun _ => rfl))
  have k' := jw_ult hx hb hdec kk
  rw [hu]
  refine ⟨k'.1, fun hok hS hL h4 h5 h6' ad H locs ls g1 g2 g3 g4 => ?_⟩
  obtain ⟨hv, hS2⟩ := hd_ok hS
  obtain ⟨hi, hS3⟩ := hd_ok hS2
  obtain ⟨ho, hS4⟩ := hd_ok hS3
  obtain ⟨n, q1, q2, ⟨zz, q3⟩, q4, q5, q6⟩ := arr_at (cA := cA) (ad := ad) hok ho h6 h10
  have ii0 := hi.1 rfl
  dsimp only at ii0 q1 q6 q3
  rw [q1] at hi1
  have hin := in_of ii0 hi0 hi1
  have hcl := clampNeg_of ii0
  have href : w_v ad adW aT aS ty o = .ref (ad o.toNat) := w_v_ref h6
  rw [List.map_cons, List.map_cons, List.map_cons, href]
  unfold a_ast at hf
  rcases k_arr_s hka h6 h10 with ⟨rfl, rfl⟩ | ⟨rfl, rfl⟩ | ⟨rfl, rfl⟩ | ⟨rfl, hw⟩
  · split at hf <;> cases hf
    have hok' := OkS.put (k := i.toNat) (v := v) hok (o := o.toNat) (fun z hz => by
      rw [q3] at hz
      cases hz
      exact ⟨fun _ => ⟨fun e => (by cases e), fun _ => hv.1 rfl⟩, fun e => absurd e (by dsimp only; omega)⟩)
    refine va_iast hx hb hK g1 g2.1 g3 o.toNat 0 q6 rfl hin hdc (fun H1 locs1 a1 a2 a3 => ?_)
    have K := fun (b1 : va_P D cl (w_w cA ad (st.1, j_up st.2 o.toNat i.toNat (v))) H1) (b2 : va_D A (w_w cA ad (st.1, j_up st.2 o.toNat i.toNat (v)))) => k'.2 hok' hS4 hL h4 h5 h6' ad H1 locs1 ls b1 ⟨b2, g2.2⟩ a3 g4
    have eW : (w_w cA ad st).set o.toNat (ad o.toNat, .inl (cA 6, n, .inl (upd (fun j => Int32.ofInt (st.2 o.toNat j)) (Int32.ofInt i).toNatClampNeg (Int32.ofInt v)))) = w_w cA ad (st.1, j_up st.2 o.toNat i.toNat (v)) := by
      refine w_w_put q3 ?_ (fun a ha => j_up_ne ha)
      have := upd_i st.2 o.toNat i.toNat (v)
      rw [hcl, ← this]
      rfl
    have b1 : va_P D cl ((w_w cA ad st).set o.toNat (ad o.toNat, .inl (cA 6, n, .inl (upd (fun j => Int32.ofInt (st.2 o.toNat j)) (Int32.ofInt i).toNatClampNeg (Int32.ofInt v))))) H1 := a1
    have b2 : va_D A ((w_w cA ad st).set o.toNat (ad o.toNat, .inl (cA 6, n, .inl (upd (fun j => Int32.ofInt (st.2 o.toNat j)) (Int32.ofInt i).toNatClampNeg (Int32.ofInt v))))) := a2
    rw [eW] at b1 b2
    exact K b1 b2
  · split at hf <;> cases hf
    have hok' := OkS.put (k := i.toNat) (v := v) hok (o := o.toNat) (fun z hz => by
      rw [q3] at hz
      cases hz
      exact ⟨fun _ => ⟨fun _ => hv.2.1 rfl, fun e => absurd rfl e⟩, fun e => absurd e (by dsimp only; omega)⟩)
    refine va_last hx hb hK g1 g2.1 g3 o.toNat 1 q6 rfl hin hdc (fun H1 locs1 a1 a2 a3 => ?_)
    have K := fun (b1 : va_P D cl (w_w cA ad (st.1, j_up st.2 o.toNat i.toNat (v))) H1) (b2 : va_D A (w_w cA ad (st.1, j_up st.2 o.toNat i.toNat (v)))) => k'.2 hok' hS4 hL h4 h5 h6' ad H1 locs1 ls b1 ⟨b2, g2.2⟩ a3 g4
    have eW : (w_w cA ad st).set o.toNat (ad o.toNat, .inl (cA 7, n, .inr (.inl (vp_updL (fun j => Int64.ofInt (st.2 o.toNat j)) (Int32.ofInt i).toNatClampNeg (Int64.ofInt v))))) = w_w cA ad (st.1, j_up st.2 o.toNat i.toNat (v)) := by
      refine w_w_put q3 ?_ (fun a ha => j_up_ne ha)
      have := upd_l st.2 o.toNat i.toNat (v)
      rw [hcl, ← this]
      rfl
    have b1 : va_P D cl ((w_w cA ad st).set o.toNat (ad o.toNat, .inl (cA 7, n, .inr (.inl (vp_updL (fun j => Int64.ofInt (st.2 o.toNat j)) (Int32.ofInt i).toNatClampNeg (Int64.ofInt v)))))) H1 := a1
    have b2 : va_D A ((w_w cA ad st).set o.toNat (ad o.toNat, .inl (cA 7, n, .inr (.inl (vp_updL (fun j => Int64.ofInt (st.2 o.toNat j)) (Int32.ofInt i).toNatClampNeg (Int64.ofInt v)))))) := a2
    rw [eW] at b1 b2
    exact K b1 b2
  · split at hf <;> cases hf
    have hok' := OkS.put (k := i.toNat) (v := ((Int32.ofInt v).toInt8.toInt32).toInt) hok (o := o.toNat) (fun z hz => by
      rw [q3] at hz
      cases hz
      exact ⟨fun _ => ⟨fun e => (by cases e), fun _ => in_i32 _⟩, fun e => absurd e (by dsimp only; omega)⟩)
    refine va_bast hx hb hK g1 g2.1 g3 o.toNat 2 q6 rfl hin hdc (fun H1 locs1 a1 a2 a3 => ?_)
    have K := fun (b1 : va_P D cl (w_w cA ad (st.1, j_up st.2 o.toNat i.toNat (((Int32.ofInt v).toInt8.toInt32).toInt))) H1) (b2 : va_D A (w_w cA ad (st.1, j_up st.2 o.toNat i.toNat (((Int32.ofInt v).toInt8.toInt32).toInt)))) => k'.2 hok' hS4 hL h4 h5 h6' ad H1 locs1 ls b1 ⟨b2, g2.2⟩ a3 g4
    have eW : (w_w cA ad st).set o.toNat (ad o.toNat, .inl (cA 8, n, .inl (upd (fun j => Int32.ofInt (st.2 o.toNat j)) (Int32.ofInt i).toNatClampNeg (vp_nar .byte (Int32.ofInt v))))) = w_w cA ad (st.1, j_up st.2 o.toNat i.toNat (((Int32.ofInt v).toInt8.toInt32).toInt)) := by
      refine w_w_put q3 ?_ (fun a ha => j_up_ne ha)
      have := upd_i st.2 o.toNat i.toNat (((Int32.ofInt v).toInt8.toInt32).toInt)
      rw [hcl, ← nar_b, ← this]
      rfl
    have b1 : va_P D cl ((w_w cA ad st).set o.toNat (ad o.toNat, .inl (cA 8, n, .inl (upd (fun j => Int32.ofInt (st.2 o.toNat j)) (Int32.ofInt i).toNatClampNeg (vp_nar .byte (Int32.ofInt v)))))) H1 := a1
    have b2 : va_D A ((w_w cA ad st).set o.toNat (ad o.toNat, .inl (cA 8, n, .inl (upd (fun j => Int32.ofInt (st.2 o.toNat j)) (Int32.ofInt i).toNatClampNeg (vp_nar .byte (Int32.ofInt v)))))) := a2
    rw [eW] at b1 b2
    exact K b1 b2
  · split at hf <;> first | (cases hf; done) | skip
    all_goals first | (exfalso; cases hf; omega) | skip
    have hok' := OkS.put (k := i.toNat) (v := (Int32.ofInt v &&& 1).toInt) hok (o := o.toNat) (fun z hz => by
      rw [q3] at hz
      cases hz
      exact ⟨fun _ => ⟨fun e => (by cases e), fun _ => in_i32 _⟩, fun e => absurd e (by dsimp only; omega)⟩)
    refine va_zast hx hb hK g1 g2.1 g3 o.toNat 3 q6 rfl hin hdc (fun H1 locs1 a1 a2 a3 => ?_)
    have K := fun (b1 : va_P D cl (w_w cA ad (st.1, j_up st.2 o.toNat i.toNat ((Int32.ofInt v &&& 1).toInt))) H1) (b2 : va_D A (w_w cA ad (st.1, j_up st.2 o.toNat i.toNat ((Int32.ofInt v &&& 1).toInt)))) => k'.2 hok' hS4 hL h4 h5 h6' ad H1 locs1 ls b1 ⟨b2, g2.2⟩ a3 g4
    have eW : (w_w cA ad st).set o.toNat (ad o.toNat, .inl (cA 9, n, .inl (upd (fun j => Int32.ofInt (st.2 o.toNat j)) (Int32.ofInt i).toNatClampNeg (vp_nar .boolean (Int32.ofInt v))))) = w_w cA ad (st.1, j_up st.2 o.toNat i.toNat ((Int32.ofInt v &&& 1).toInt)) := by
      refine w_w_put q3 ?_ (fun a ha => j_up_ne ha)
      have := upd_i st.2 o.toNat i.toNat ((Int32.ofInt v &&& 1).toInt)
      rw [hcl, ← nar_z, ← this]
      rfl
    have b1 : va_P D cl ((w_w cA ad st).set o.toNat (ad o.toNat, .inl (cA 9, n, .inl (upd (fun j => Int32.ofInt (st.2 o.toNat j)) (Int32.ofInt i).toNatClampNeg (vp_nar .boolean (Int32.ofInt v)))))) H1 := a1
    have b2 : va_D A ((w_w cA ad st).set o.toNat (ad o.toNat, .inl (cA 9, n, .inl (upd (fun j => Int32.ofInt (st.2 o.toNat j)) (Int32.ofInt i).toNatClampNeg (vp_nar .boolean (Int32.ofInt v)))))) := a2
    rw [eW] at b1 b2
    exact K b1 b2
/-- one cell more -/
def j_grow (st : XT) (z : XC) (a b : Nat) : XT := ((st.1.1 ++ [z], a, b), fun x y => if x = st.1.1.length then 0 else st.2 x y)
def ad_up (ad : Nat → Nat) (o q : Nat) : Nat → Nat := fun k => if k = o then q else ad k
theorem grow_at {st : XT} {z q : XC} {a b o : Nat} (h : st.1.1[o]? = some q) : (j_grow st z a b).1.1[o]? = some q ∧ (j_grow st z a b).2 o = st.2 o ∧ o < st.1.1.length := by
  have hl := (List.getElem?_eq_some_iff.mp h).1
  refine ⟨?_, ?_, hl⟩
  · show (st.1.1 ++ [z])[o]? = _
    rw [List.getElem?_append_left hl]
    exact h
  · funext y
    show (if o = st.1.1.length then 0 else st.2 o y) = _
    rw [if_neg (by omega)]
theorem grow_V {st : XT} {z : XC} {a b kd : Nat} {v : Int} (h : OkV st.1.1 kd v) : OkV (j_grow st z a b).1.1 kd v :=
  ⟨h.1, h.2.1, h.2.2.1, fun h6 => by
    obtain ⟨h0, c', h1, h2⟩ := h.2.2.2.1 h6
    exact ⟨h0, c', (grow_at h1).1, h2⟩, h.2.2.2.2⟩
theorem grow_S {st : XT} {z : XC} {a b : Nat} (hok : OkS ck st) (hz : OkC ck (j_grow st z a b).1.1 (fun _ => 0) z) : OkS ck (j_grow st z a b) := by
  intro o q hq
  by_cases hl : o < st.1.1.length
  · have hq0 : st.1.1[o]? = some q := by
      have : (st.1.1 ++ [z])[o]? = some q := hq
      rw [List.getElem?_append_left hl] at this
      exact this
    have h0 := hok o q hq0
    rw [(grow_at hq0).2.1]
    refine ⟨h0.1, h0.2.1, fun h10 => ⟨(h0.2.2 h10).1, fun k y hy => ?_⟩⟩
    obtain ⟨w1, w2, w3⟩ := (h0.2.2 h10).2 k y hy
    refine ⟨w1, w2, fun r r1 r2 r3 => ?_⟩
    obtain ⟨c', b1, b2⟩ := w3 r r1 r2 r3
    exact ⟨c', (grow_at b1).1, b2⟩
  · have : (st.1.1 ++ [z])[o]? = some q := hq
    rw [List.getElem?_append_right (by omega)] at this
    have e : o = st.1.1.length := by
      have := (List.getElem?_eq_some_iff.mp this).1
      simp at this
      omega
    subst e
    rw [Nat.sub_self] at this
    cases this
    have e2 : (j_grow st z a b).2 st.1.1.length = fun _ => 0 := by
      funext y
      show (if st.1.1.length = st.1.1.length then 0 else st.2 st.1.1.length y) = 0
      rw [if_pos rfl]
    rw [e2]
    exact hz
theorem w_c_ad {cA : Nat → ClassId} {ad ad' : Nat → Nat} {f : Nat → Int} {g : XS} {q : XC} (h : OkC ck g f q) (ha : ∀ r, r < g.length → ad' r = ad r) : w_c cA ad' f q = w_c cA ad f q := by
  by_cases h10 : 10 ≤ q.1
  · rw [w_c_obj h10, w_c_obj h10]
    congr 2
    apply List.ext_getElem?
    intro k
    unfold w_fs
    rw [List.getElem?_mapIdx, List.getElem?_mapIdx]
    cases hk : q.2.2[k]? with
    | none => rfl
    | some y =>
      simp only [Option.map_some]
      congr 1
      obtain ⟨w1, w2, w3⟩ := (h.2.2 h10).2 k y hk
      obtain ⟨y1, y2⟩ := y
      unfold w_s
      dsimp only
      split
      · rfl
      · rfl
      · rename_i n1 n2
        cases y2 with
        | zero => rfl
        | succ r =>
          obtain ⟨c', b1, -⟩ := w3 r n1 n2 rfl
          dsimp only
          rw [ha r (List.getElem?_eq_some_iff.mp b1).1]
  · have h6 := h.1
    obtain ⟨qa, qb, qc⟩ := q
    dsimp only at h6 h10
    rcases (show qa = 6 ∨ qa = 7 ∨ qa = 8 ∨ qa = 9 by omega) with rfl | rfl | rfl | rfl <;> rfl
theorem w_w_grow {st : XT} {z : XC} {a b : Nat} {ad : Nat → Nat} {q : Nat} (hok : OkS ck st) : w_w cA (ad_up ad st.1.1.length q) (j_grow st z a b) = w_w cA ad st ++ [(q, w_c cA (ad_up ad st.1.1.length q) (fun _ => 0) z)] := by
  apply List.ext_getElem?
  intro o
  by_cases hl : o < st.1.1.length
  · have hl2 : o < (w_w cA ad st).length := by
      unfold w_w
      rw [List.length_mapIdx]
      exact hl
    rw [List.getElem?_append_left hl2]
    obtain ⟨y, hy⟩ : ∃ y, st.1.1[o]? = some y := ⟨st.1.1[o], List.getElem?_eq_getElem hl⟩
    rw [w_w_at hy, w_w_at (grow_at (z := z) (a := a) (b := b) hy).1, (grow_at hy).2.1]
    have e1 : ad_up ad st.1.1.length q o = ad o := if_neg (by omega)
    rw [e1, w_c_ad (ad' := ad_up ad st.1.1.length q) (hok o y hy) (fun r hr => if_neg (by omega))]
  · have hl2 : (w_w cA ad st).length = st.1.1.length := by
      unfold w_w
      rw [List.length_mapIdx]
    rw [List.getElem?_append_right (by omega), hl2]
    by_cases e : o = st.1.1.length
    · subst e
      have hz : (j_grow st z a b).1.1[st.1.1.length]? = some z := by
        show (st.1.1 ++ [z])[st.1.1.length]? = _
        simp
      rw [w_w_at hz, Nat.sub_self]
      have e1 : ad_up ad st.1.1.length q st.1.1.length = q := if_pos rfl
      have e2 : (j_grow st z a b).2 st.1.1.length = fun _ => 0 := by
        funext y
        exact if_pos rfl
      rw [e1, e2]
      rfl
    · have h1 : (j_grow st z a b).1.1[o]? = none := by
        show (st.1.1 ++ [z])[o]? = _
        apply List.getElem?_eq_none
        simp
        omega
      unfold w_w
      rw [List.getElem?_mapIdx, h1]
      rw [List.getElem?_eq_none (by simp; omega)]
      rfl
theorem w_v_ad {ad ad' : Nat → Nat} {g : XS} {kd : Nat} {v : Int} (h : OkV g kd v) (ha : ∀ r, r < g.length → ad' r = ad r) : w_v ad' adW aT aS kd v = w_v ad adW aT aS kd v := by
  by_cases h6 : 6 ≤ kd
  · rw [w_v_ref h6, w_v_ref h6]
    obtain ⟨h0, c', h1, -⟩ := h.2.2.2.1 h6
    rw [ha _ (List.getElem?_eq_some_iff.mp h1).1]
  · have h0 := h.2.2.2.2
    rcases (show kd = 1 ∨ kd = 2 ∨ kd = 3 ∨ kd = 4 ∨ kd = 5 by omega) with rfl | rfl | rfl | rfl | rfl <;> rfl
theorem w_l_ad {ad ad' : Nat → Nat} {g : XS} {τ : List Nat} {en : List Int} (h : ∀ i, τ.getD i 0 ≠ 0 → OkV g (τ.getD i 0) (en.getD i 0)) (ha : ∀ r, r < g.length → ad' r = ad r) : ∀ q ∈ w_l ad' adW aT aS τ en, q ∈ w_l ad adW aT aS τ en := by
  intro q hq
  obtain ⟨h1, h2, h3⟩ := w_l_mem.mp hq
  exact w_l_mem.mpr ⟨h1, h2, by rw [h3, w_v_ad (h _ h2) ha]⟩
theorem w_S_ad {ad ad' : Nat → Nat} {g : XS} {S : List (Nat × Int)} (h : ∀ q ∈ S, OkV g q.1 q.2) (ha : ∀ r, r < g.length → ad' r = ad r) : (S.map fun q => w_v ad' adW aT aS q.1 q.2) = S.map fun q => w_v ad adW aT aS q.1 q.2 :=
  List.map_congr_left fun q hq => w_v_ad (h q hq) ha
theorem z_new (hx : p.tables.exec = Jvm.exec) (hb : c.code = cc) (hdec : DecOk dec cc) (hLK : ∀ i q, lk i = some q → LF Ts cl own ck adW aT Zs i q) (hown : s.vm.findClass own = some m.cls) (hts : ∀ w ∈ Ts, w.before args s = true) (hCF : CF Ts cl ck) (hK : va_K D cl (w_tys cA) s) (hA : ∀ q, s.heap.size ≤ q → A q) :
    ∀ pc ci y τ en S st, c_ins dec pc (a_new lk) = some ((5, ci, y), pc + 3) → JW p l e R s m args below meth c Q nL D cl cA A adW aT aS ck c0 d0 n0 ad0 (j_ult dec (pc + 3)) τ en ((10 + ci, (st.1.1.length : Int)) :: S) (j_grow st (10 + ci, 0, (ck ci).map fun k => (k, 0)) (st.1.2.1 + 1) (st.1.2.2 + (ck ci).length)) → JW p l e R s m args below meth c Q nL D cl cA A adW aT aS ck c0 d0 n0 ad0 (j_ult dec pc) τ en S st := by
  intro pc ci y τ en S st h kk
  obtain ⟨ii, hd, hf⟩ := c_ins1 h
  obtain ⟨hdc, hln⟩ := hdec _ _ _ hd
  have hu := ult_ins hd (ng hf (fun _ => rfl))
  have k' := jw_ult hx hb hdec kk
  rw [hu]
  unfold a_new at hf
  split at hf
  · obtain ⟨C, T, N, hc, hN, hw1, hw2, hw3⟩ := hLK _ _ hf
    obtain ⟨hc1, hc2, hc3, hc4⟩ := hCF _ _ _ _ hc
    have hlim := k'.1
    refine ⟨⟨Nat.le_trans (Nat.le_succ _) hlim.1, Nat.le_trans (Nat.le_add_right _ _) hlim.2⟩, fun hok hS hL h4 h5 h6 ad H locs ls g1 g2 g3 g4 => ?_⟩
    have hlim1 : st.1.2.1 + 1 ≤ c0 + R.cells := hlim.1
    have hlim2 : st.1.2.2 + (ck ci).length ≤ d0 + R.slots := hlim.2
    have hok' : OkS ck (j_grow st (10 + ci, 0, (ck ci).map fun k => (k, 0)) (st.1.2.1 + 1) (st.1.2.2 + (ck ci).length)) := by
      refine grow_S hok ⟨by dsimp only; omega, fun h => by dsimp only at h; omega, fun _ => ⟨?_, fun k z hz => ?_⟩⟩
      · dsimp only
        rw [List.map_map]
        have : 10 + ci - 10 = ci := by omega
        rw [this]
        exact List.map_id _
      · dsimp only at hz
        rw [List.getElem?_map] at hz
        cases hk : (ck ci)[k]? with
        | none => rw [hk] at hz; cases hz
        | some kd =>
          rw [hk] at hz
          cases hz
          exact ⟨fun _ => in_0, fun _ => in_0L, fun r _ _ h3 => (by cases h3)⟩
    have hv' : OkV (j_grow st (10 + ci, 0, (ck ci).map fun k => (k, 0)) (st.1.2.1 + 1) (st.1.2.2 + (ck ci).length)).1.1 (10 + ci) (st.1.1.length : Int) := by
      refine OkV.ref (by omega) (by omega) (c := (10 + ci, 0, (ck ci).map fun k => (k, 0))) ?_ rfl
      show (st.1.1 ++ [_])[((st.1.1.length : Int)).toNat]? = _
      simp
    have hty : ∀ k, k < N → parseFieldDescriptor (T k).2.2.1 = some ((fun k => (parseFieldDescriptor (T k).2.2.1).getD .int) k) := by
      intro k hk
      obtain ⟨v', -, ⟨ty', e1, -⟩, -⟩ := hc4 k hk
      dsimp only
      rw [e1]
      rfl
    refine va_new (fs := w_fs ad (fun _ => 0) ((ck ci).map fun k => (k, 0))) hx hb hts hc1 _ hty hown (hts _ hw1) (hts _ hw2) (hts _ hw3) hK g1 g2.1 g3 hA hc ?_ (by omega) (by rw [← hc2]; omega) hdc (fun q H1 a1 a2 a3 => ?_)
    · intro j hj
      obtain ⟨v', e0, ⟨ty', e1, f1, f2, f3, f4⟩, e2⟩ := hc4 j hj
      rw [e1]
      have hs : ((ck ci).map fun k => (k, 0))[j]? = some (j_kd v', 0) := by
        rw [List.getElem?_map, e0]
        rfl
      have := w_fs_at (ad := ad) (f := fun _ => 0) hs
      unfold vp_V
      rw [List.getD, this]
      show defaultValue ty' = w_s ad 0 (j_kd v', 0)
      rcases e2 with rfl | rfl | rfl | h6v
      · rw [f1 rfl]
        rfl
      · rw [f2 rfl]
        rfl
      · rw [f3 rfl]
        rfl
      · obtain ⟨k1, k2⟩ := j_kd6 h6v
        have ew : w_s ad 0 (j_kd v', 0) = .null := by
          unfold w_s
          split
          · rename_i q
            dsimp only at q
            omega
          · rename_i q
            dsimp only at q
            omega
          · rfl
        rw [ew]
        rcases f4 h6v with ⟨n, rfl⟩ | ⟨t, rfl⟩ <;> rfl
    · have ha : ∀ r, r < st.1.1.length → ad_up ad st.1.1.length q r = ad r := fun r hr => if_neg (by omega)
      have eW := w_w_grow (cA := cA) (z := (10 + ci, 0, (ck ci).map fun k => (k, 0))) (a := st.1.2.1 + 1) (b := st.1.2.2 + (ck ci).length) (ad := ad) (q := q) hok
      have ec : w_c cA (ad_up ad st.1.1.length q) (fun _ => 0) (10 + ci, 0, (ck ci).map fun k => (k, 0)) = .inr (ci, w_fs ad (fun _ => 0) ((ck ci).map fun k => (k, 0))) := by
        rw [w_c_obj (by dsimp only; omega)]
        have : 10 + ci - 10 = ci := by omega
        dsimp only
        rw [this]
        congr 2
        apply List.ext_getElem?
        intro k
        unfold w_fs
        rw [List.getElem?_mapIdx, List.getElem?_mapIdx, List.getElem?_map]
        cases (ck ci)[k]? with
        | none => rfl
        | some kd => rfl
      rw [ec] at eW
      have K := k'.2 hok' (cons_ok hv' (fun q hq => grow_V (hS q hq))) (fun i hi => grow_V (hL i hi)) ⟨Nat.le_trans h4.1 (Nat.le_succ _), Nat.le_trans h4.2 (by show _ ≤ (st.1.1 ++ [_]).length; rw [List.length_append]; exact Nat.le_add_right _ _)⟩ (Nat.le_trans h5 (Nat.le_add_right _ _)) h6 (ad_up ad st.1.1.length q) H1 locs ls (by rw [eW]; exact a1) ⟨by rw [eW]; exact a2, fun r hr => (ha r (Nat.lt_of_lt_of_le hr h4.2)).trans (g2.2 r hr)⟩ a3 (lv_mono g4 (w_l_ad hL ha))
      rw [List.map_cons, w_S_ad hS ha] at K
      have er : w_v (ad_up ad st.1.1.length q) adW aT aS (10 + ci) (st.1.1.length : Int) = .ref q := by
        rw [w_v_ref (by omega)]
        have : ad_up ad st.1.1.length q ((st.1.1.length : Int)).toNat = q := if_pos (by omega)
        rw [this]
      dsimp only at K
      rw [er] at K
      have e1 : (j_grow st (10 + ci, 0, (ck ci).map fun k => (k, 0)) (st.1.2.1 + 1) (st.1.2.2 + (ck ci).length)).1.2.1 - c0 = st.1.2.1 - c0 + 1 := by
        show st.1.2.1 + 1 - c0 = _
        have := h4.1
        omega
      have e2 : (j_grow st (10 + ci, 0, (ck ci).map fun k => (k, 0)) (st.1.2.1 + 1) (st.1.2.2 + (ck ci).length)).1.2.2 - d0 = st.1.2.2 - d0 + N := by
        show st.1.2.2 + (ck ci).length - d0 = _
        omega
      rw [e1, e2] at K
      exact K
  · cases hf
theorem cA_of {ty : FieldType} (hn : ∀ C, ty ≠ .object C) {tys : List (ClassId × FieldType)} {c1 c2 : ClassId} (h1 : va_K D cl tys s) {t0 : Nat} (ht : tys[t0]? = some (c1, ty)) (h2 : va_K D cl (tys ++ [(c2, ty)]) s) : c2 = c1 := by
  have a1 := (h1.2 _ _ ht).2
  have a2 := (h2.2 tys.length (c2, ty) (by simp)).2
  unfold va_RA at a1 a2
  dsimp only at a1 a2
  split at a1
  · exact absurd rfl (hn _)
  · rename_i q
    split at a2
    · exact absurd rfl (hn _)
    · rw [a1] at a2
      exact (Option.some.inj a2).symm
theorem z_newa (hx : p.tables.exec = Jvm.exec) (hb : c.code = cc) (hdec : DecOk dec cc) (hts : ∀ w ∈ Ts, w.before args s = true) (hK : va_K D cl (w_tys cA) s) (hA : ∀ q, s.heap.size ≤ q → A q) (hTa : ∀ ty, (ty = .int ∨ ty = .long ∨ ty = .byte ∨ ty = .boolean) → (Cond.arrayClass ty).before args s = true) :
    ∀ pc ty n τ en S st, c_ins dec pc a_atype = some (ty, pc + 2) → 0 ≤ n → n ≤ 67108864 → JW p l e R s m args below meth c Q nL D cl cA A adW aT aS ck c0 d0 n0 ad0 (j_ult dec (pc + 2)) τ en ((ty, (st.1.1.length : Int)) :: S) (j_grow st (ty, n.toNat, []) (st.1.2.1 + 1) (st.1.2.2 + n.toNat)) → JW p l e R s m args below meth c Q nL D cl cA A adW aT aS ck c0 d0 n0 ad0 (j_ult dec pc) τ en ((1, n) :: S) st := by
  intro pc ty n τ en S st h hn0 hn1 kk
  obtain ⟨ii, hd, hf⟩ := c_ins1 h
  obtain ⟨hdc, hln⟩ := hdec _ _ _ hd
  have hu := ult_ins hd (ng hf (fun _ => rfl))
  have k' := jw_ult hx hb hdec kk
  rw [hu]
  have hlim := k'.1
  have hlim1 : st.1.2.1 + 1 ≤ c0 + R.cells := hlim.1
  have hlim2 : st.1.2.2 + n.toNat ≤ d0 + R.slots := hlim.2
  refine ⟨⟨by omega, by omega⟩, fun hok hS hL h4 h5 h6 ad H locs ls g1 g2 g3 g4 => ?_⟩
  obtain ⟨hn, hS2⟩ := hd_ok hS
  have in0 : InI n := hn.1 rfl
  have hty : ty = 6 ∨ ty = 7 ∨ ty = 8 ∨ ty = 9 := by
    unfold a_atype at hf
    split at hf <;> cases hf <;> simp
  have hok' : OkS ck (j_grow st (ty, n.toNat, []) (st.1.2.1 + 1) (st.1.2.2 + n.toNat)) :=
    grow_S hok ⟨by dsimp only; omega, fun _ => ⟨by dsimp only; omega, fun _ _ => in_0L, fun _ _ => in_0⟩, fun h => by dsimp only at h; omega⟩
  have hv' : OkV (j_grow st (ty, n.toNat, []) (st.1.2.1 + 1) (st.1.2.2 + n.toNat)).1.1 ty (st.1.1.length : Int) := by
    refine OkV.ref (by omega) (by omega) (c := (ty, n.toNat, [])) ?_ rfl
    show (st.1.1 ++ [_])[((st.1.1.length : Int)).toNat]? = _
    simp
  have K := fun (q : Nat) (H1 : Heap) (a1 : va_P D cl (w_w cA ad st ++ [(q, w_c cA (ad_up ad st.1.1.length q) (fun _ => 0) (ty, n.toNat, []))]) H1) (a2 : va_D A (w_w cA ad st ++ [(q, w_c cA (ad_up ad st.1.1.length q) (fun _ => 0) (ty, n.toNat, []))])) (a3 : va_S A s.heap H1 locs) => by
    have ha : ∀ r, r < st.1.1.length → ad_up ad st.1.1.length q r = ad r := fun r hr => if_neg (by omega)
    have eW := w_w_grow (cA := cA) (z := (ty, n.toNat, [])) (a := st.1.2.1 + 1) (b := st.1.2.2 + n.toNat) (ad := ad) (q := q) hok
    have K := k'.2 hok' (cons_ok hv' (fun q hq => grow_V (hS2 q hq))) (fun i hi => grow_V (hL i hi)) ⟨Nat.le_trans h4.1 (Nat.le_succ _), Nat.le_trans h4.2 (by show _ ≤ (st.1.1 ++ [_]).length; rw [List.length_append]; exact Nat.le_add_right _ _)⟩ (Nat.le_trans h5 (Nat.le_add_right _ _)) h6 (ad_up ad st.1.1.length q) H1 locs ls (by rw [eW]; exact a1) ⟨by rw [eW]; exact a2, fun r hr => (ha r (Nat.lt_of_lt_of_le hr h4.2)).trans (g2.2 r hr)⟩ a3 (lv_mono g4 (w_l_ad hL ha))
    rw [List.map_cons, w_S_ad hS2 ha] at K
    have er : w_v (ad_up ad st.1.1.length q) adW aT aS ty (st.1.1.length : Int) = .ref q := by
      rw [w_v_ref (by omega)]
      have : ad_up ad st.1.1.length q ((st.1.1.length : Int)).toNat = q := if_pos (by omega)
      rw [this]
    dsimp only at K
    rw [er] at K
    have e1 : (j_grow st (ty, n.toNat, []) (st.1.2.1 + 1) (st.1.2.2 + n.toNat)).1.2.1 - c0 = st.1.2.1 - c0 + 1 := by
      show st.1.2.1 + 1 - c0 = _
      have := h4.1
      omega
    have e2 : (j_grow st (ty, n.toNat, []) (st.1.2.1 + 1) (st.1.2.2 + n.toNat)).1.2.2 - d0 = st.1.2.2 - d0 + n.toNat := by
      show st.1.2.2 + n.toNat - d0 = _
      omega
    rw [e1, e2] at K
    exact K
  have hneg : ¬ Int32.ofInt n < 0 := fun q => by
    have := (of_lt in0 in_0).mp q
    omega
  have hcl := clampNeg_of in0
  have h2c : st.1.2.1 - c0 + 1 ≤ R.cells := by omega
  have h2s : st.1.2.2 - d0 + n.toNat ≤ R.slots := by omega
  have hw : w_v ad adW aT aS 1 n = .int (Int32.ofInt n) := rfl
  rw [List.map_cons]
  dsimp only
  rw [hw]
  unfold a_atype at hf
  split at hf <;> cases hf
  · refine va_newa (atype := .int) (a0 := (n.toNat, .inl fun _ => 0)) hx hb (hTa .int (by simp)) rfl hK g1 g2.1 g3 hA (fun cA => rfl) hneg hcl (by show n.toNat * componentBytes .int ≤ _; rw [show componentBytes .int = 4 from rfl]; omega) h2c h2s hdc (fun q c1 H1 b0 b1 b2 b3 => ?_)
    have := cA_of (fun C e => by cases e) hK (t0 := 0) rfl b0
    subst this
    exact K q H1 b1 b2 b3
  · refine va_newa (atype := .long) (a0 := (n.toNat, .inr (.inl fun _ => 0))) hx hb (hTa .long (by simp)) rfl hK g1 g2.1 g3 hA (fun cA => rfl) hneg hcl (by show n.toNat * componentBytes .long ≤ _; rw [show componentBytes .long = 8 from rfl]; omega) h2c h2s hdc (fun q c1 H1 b0 b1 b2 b3 => ?_)
    have := cA_of (fun C e => by cases e) hK (t0 := 1) rfl b0
    subst this
    exact K q H1 b1 b2 b3
  · refine va_newa (atype := .byte) (a0 := (n.toNat, .inl fun _ => 0)) hx hb (hTa .byte (by simp)) rfl hK g1 g2.1 g3 hA (fun cA => rfl) hneg hcl (by show n.toNat * componentBytes .byte ≤ _; rw [show componentBytes .byte = 1 from rfl]; omega) h2c h2s hdc (fun q c1 H1 b0 b1 b2 b3 => ?_)
    have := cA_of (fun C e => by cases e) hK (t0 := 2) rfl b0
    subst this
    exact K q H1 b1 b2 b3
  · refine va_newa (atype := .boolean) (a0 := (n.toNat, .inl fun _ => 0)) hx hb (hTa .boolean (by simp)) rfl hK g1 g2.1 g3 hA (fun cA => rfl) hneg hcl (by show n.toNat * componentBytes .boolean ≤ _; rw [show componentBytes .boolean = 1 from rfl]; omega) h2c h2s hdc (fun q c1 H1 b0 b1 b2 b3 => ?_)
    have := cA_of (fun C e => by cases e) hK (t0 := 3) rfl b0
    subst this
    exact K q H1 b1 b2 b3
/-- what the table says of Object's constructor -/
def LO (Ts : List Cond) (own : String) (i : Nat) : Prop := Cond.methodLink own i Lib.objectInit ∈ Ts ∧ Cond.instanceMethod Lib.objectInit ∈ Ts ∧ Cond.code Lib.objectInit ⟨#[0xb1]⟩ 1 none ∈ Ts
theorem z_oinit (hx : p.tables.exec = Jvm.exec) (hb : c.code = cc) (hdec : DecOk dec cc) (hml : c.maxLocals = nL) (hown : s.vm.findClass own = some m.cls) (hts : ∀ w ∈ Ts, w.before args s = true) (hLO : ∀ i z, lk i = some (10, z) → LO Ts own i) (hR : 1 ≤ R.frames ∧ 20 ≤ R.locals) :
    ∀ pc i z kd o τ en (S : List (Nat × Int)) st, S = [] → dec pc = some (.invokespecial i, 3) → lk i = some (10, z) → 10 ≤ kd → JW p l e R s m args below meth c Q nL D cl cA A adW aT aS ck c0 d0 n0 ad0 (j_ult dec (pc + 3)) τ en S st → JW p l e R s m args below meth c Q nL D cl cA A adW aT aS ck c0 d0 n0 ad0 (j_ult dec pc) τ en ((kd, o) :: S) st := by
  intro pc i z kd o τ en S st hS0 hd hl hk kk
  subst hS0
  obtain ⟨hdc, hln⟩ := hdec _ _ _ hd
  obtain ⟨h1, h2, h3⟩ := hLO _ _ hl
  refine jw_st hx hb hdec kk (ult_ins hd rfl) (fun _ hS _ _ => (hd_ok hS).2) (fun hok hS _ _ ad H locs ls g1 _ g3 g4 cells slots K => ?_)
  refine W.objInit (g := F0 m pc ls _) (a := ad o.toNat) (rest := []) hx hb hown (hts _ h1) (hts _ h2) (hts _ h3) rfl ?_ ?_ hdc hR.1 ?_ K
  · show ls.size = _
    rw [hml]
    exact g4.1
  · show [w_v ad adW aT aS kd o] = _
    rw [w_v_ref (by omega)]
  · exact Nat.le_trans (Nat.le_of_ble_eq_true rfl) hR.2
end JW4
end
section
theorem goodS {Ts ws : List Cond} {own : String} {i : Nat} {y : MethodName} (h : GoodIn Ts ws) (h1 : Cond.methodLink own i y ∈ Ts) (h2 : Cond.static y ∈ Ts) (h3 : Cond.initialized y.cls ∈ Ts) : GoodIn Ts (va_wsS own i y ws) := fun w hw => by
  unfold va_wsS at hw
  rcases List.mem_append.mp hw with hw | hw
  · rcases List.mem_cons.mp hw with rfl | hw
    · exact ⟨h1, Or.inl rfl⟩
    rcases List.mem_cons.mp hw with rfl | hw
    · exact ⟨h2, Or.inl rfl⟩
    rcases List.mem_cons.mp hw with rfl | hw
    · exact ⟨h3, Or.inl rfl⟩
    cases hw
  · exact h w hw
/-- a method's answer type and its table of handlers -/
abbrev XRt := Option FieldType × List (Nat × Nat × Nat × Nat)
/-- the word of a method's code -/
def cwd (y : MethodName) (b : ByteArray) (ml : Nat) (rt : XRt) : Cond := match rt.2 with
  | [] => .code y b ml rt.1
  | q :: h => .codeWith y b ml rt.1 (q :: h)
theorem cwd_nil {y : MethodName} {b : ByteArray} {ml : Nat} {rt : XRt} (h : rt.2 = []) : cwd y b ml rt = .code y b ml rt.1 := by
  unfold cwd
  rw [h]
theorem cwd_cons {y : MethodName} {b : ByteArray} {ml : Nat} {rt : XRt} (h : rt.2 ≠ []) : cwd y b ml rt = .codeWith y b ml rt.1 rt.2 := by
  unfold cwd
  split
  · rename_i h'
    exact absurd h' h
  · rename_i h'
    rw [h']
def niceW : Cond → Bool
  | .fieldLinkNest .. => true
  | .methodLinkNest .. => true
  | .declares _ => true
  | .privateMethod _ => true
  | .castable _ _ => true
  | w => goodWord w
theorem nw_at {w : Cond} (hn : niceW w = true) {args a' : Array Value} {s U : State} (hW : s.WarmedH U.vm) (h : w.before args s = true) : w.before a' U = true := by
  unfold niceW at hn
  split at hn
  · exact va_Nw.use rfl (va_Nw.warmF hW (va_Nw.of rfl h))
  · exact va_Nw.use rfl (va_Nw.warmM hW (va_Nw.of rfl h))
  · exact va_tabs rfl (rfl : (s.setVm U.vm).vm = U.vm) (Cond.faceAtom_setVm hW.alike _ rfl h)
  · exact va_tabs rfl (rfl : (s.setVm U.vm).vm = U.vm) (Cond.faceAtom_setVm hW.alike _ rfl h)
  · exact va_tabs rfl (rfl : (s.setVm U.vm).vm = U.vm) (Cond.faceAtom_setVm hW.alike _ rfl h)
  · exact word_at hW (good_of_word hn) h
theorem SF.moved {Zs : String → String → String → Value → Prop} {adW : Nat → Nat} {aT aS : Nat} {cW : Nat → Nat → Int} {xs : Nat → Int} {L : Nat} {A : Nat → Prop} {u U : State} {H : Heap} (hvm : u.vm.Alike U.vm) (h : SF Zs adW aT aS cW xs L A u H) : SF Zs adW aT aS cW xs L A U H :=
  ⟨fun C n d v hz => va_Z.moved hvm (h.1 C n d v hz), va_T.moved hvm h.2.1, va_Ef.moved hvm h.2.2.1, va_Ef.moved hvm h.2.2.2.1, h.2.2.2.2.1, va_X.moved hvm h.2.2.2.2.2.1, h.2.2.2.2.2.2.1, h.2.2.2.2.2.2.2.1, h.2.2.2.2.2.2.2.2.1, h.2.2.2.2.2.2.2.2.2.1, vx_Zq.moved hvm h.2.2.2.2.2.2.2.2.2.2.1, vx_Zq.moved hvm h.2.2.2.2.2.2.2.2.2.2.2⟩
theorem SF.kept {Zs : String → String → String → Value → Prop} {adW : Nat → Nat} {aT aS : Nat} {cW : Nat → Nat → Int} {xs : Nat → Int} {L : Nat} {A : Nat → Prop} {U : State} {H H1 : Heap} (h : SF Zs adW aT aS cW xs L A U H) (hz : H.size ≤ H1.size) (hq : ∀ a : Nat, a < H.size → ¬ A a → H1[a]? = H[a]?) : SF Zs adW aT aS cW xs L A U H1 := by
  obtain ⟨h1, h2, h3, h4, h5, h6, h7, h8, h9, h10, h11, h12⟩ := h
  exact ⟨fun C n d v z => (h1 C n d v z).kept hq, h2.kept hq, h3.kept hq, h4.kept hq, h5, h6.kept (hq _ h8 h7), h7, Nat.lt_of_lt_of_le h8 hz, h9, h10, h11.kept hq, h12.kept hq⟩
def rm_n (n mc ms : Nat) : Room := { frames := n + 10, cells := mc, slots := ms, locals := 60 * n + 300 }
theorem rm_f (n mc ms : Nat) : (rm_n n mc ms).frames = n + 10 := rfl
theorem rm_l (n mc ms : Nat) : (rm_n n mc ms).locals = 60 * n + 300 := rfl
set_option maxRecDepth 8000 in
theorem rm_ok {n a b ml : Nat} {R : Room} (h1 : n + 11 ≤ R.frames) (h2 : 60 * n + 360 ≤ R.locals) (h3 : ml ≤ 40) : (rm_n n a b).frames + 1 ≤ R.frames ∧ 8 + (ml + 11) + (rm_n n a b).locals ≤ R.locals := by
  rw [rm_f, rm_l]
  refine ⟨by omega, ?_⟩
  generalize R.locals = z at h2 ⊢
  generalize 60 * n = w at h2 ⊢
  clear h1
  omega
section JWC
variable {p : Program} {l : Launch} {e : Env} {R : Room} {s : State} {m : MethodId} {args : Array Value} {below : List Frame} {meth : Method} {c : Code} {Q : State → Prop}
  {cc : ByteArray} {nL : Nat} {own : String} {Ts : List Cond} {D : va_G} {cl : List vw_C} {cA : Nat → ClassId} {A : Nat → Prop} {adW : Nat → Nat} {aT aS : Nat} {ck : Nat → List Nat} {c0 d0 n0 : Nat} {ad0 : Nat → Nat} {dec : XD} {lk lp : XK} {Zs : String → String → String → Value → Prop} {cW : Nat → Nat → Int} {xs : Nat → Int} {L : Nat}
/-- the world at a method's start -/
def WB (Ts : List Cond) (D : va_G) (cl : List vw_C) (cA : Nat → ClassId) (A : Nat → Prop) (adW : Nat → Nat) (aT aS : Nat) (Zs : String → String → String → Value → Prop) (cW : Nat → Nat → Int) (xs : Nat → Int) (L : Nat) (st : XT) (ad : Nat → Nat) (U : State) : Prop :=
  va_P D cl (w_w cA ad st) U.heap ∧ va_D A (w_w cA ad st) ∧ (∀ w ∈ Ts, w.before #[] U = true) ∧ va_K D cl (w_tys cA) U ∧ SF Zs adW aT aS cW xs L A U U.heap ∧ ∀ q, U.heap.size ≤ q → A q
def w_ret (ad adW : Nat → Nat) (aT aS : Nat) (rk : List Nat) (r : List Int) : Option Value := ((rk.zip r).head?).map fun q => w_v ad adW aT aS q.1 q.2
/-- what a method leaves: its answer, its world -/
def QB (D : va_G) (cl : List vw_C) (cA : Nat → ClassId) (A : Nat → Prop) (adW : Nat → Nat) (aT aS : Nat) (ck : Nat → List Nat) (rk : List Nat) (r : List Int) (n0 : Nat) (ad0 : Nat → Nat) (st' : XT) : Array Value → State → Outcome → State → Prop := fun _ s0 o t =>
  ∃ ad : Nat → Nat, (∀ k, k < n0 → ad k = ad0 k) ∧ o = .returned (w_ret ad adW aT aS rk r) ∧ OkS ck st' ∧ (∀ q ∈ rk.zip r, OkV st'.1.1 q.1 q.2) ∧ va_P D cl (w_w cA ad st') t.heap ∧ va_D A (w_w cA ad st') ∧ va_F A s0 t
theorem WB.blind {st : XT} {ad : Nat → Nat} {av : List Value} (hn : ∀ w ∈ Ts, niceW w = true) : FrameBlind (va_Pc av (WB Ts D cl cA A adW aT aS Zs cW xs L st ad)) := by
  intro a U g mk h
  obtain ⟨h0, h1, h2, h3, h4, h5, h6⟩ := h
  exact ⟨h0, h1, h2, fun w hw => nw_at (U := U.calling g mk a) (hn w hw) (show U.WarmedH U.vm from State.WarmedH.refl U) (h3 w hw), va_K.moved (u := U) (U := U.calling g mk a) (Vm.Alike.refl U.vm) h4, SF.moved (u := U) (U := U.calling g mk a) (Vm.Alike.refl U.vm) h5, h6⟩
theorem zip_map_cons {rk : List Nat} {r : List Int} (h : r.length = rk.length) (h1 : rk.length ≤ 1) (ad : Nat → Nat) (S : List (Nat × Int)) : (((rk.zip r).reverse ++ S).map fun q => w_v ad adW aT aS q.1 q.2) = (w_ret ad adW aT aS rk r).toList ++ S.map fun q => w_v ad adW aT aS q.1 q.2 := by
  match rk, r, h, h1 with
  | [], [], _, _ => rfl
  | [k], [v], _, _ => rfl
  | _ :: _ :: _, _, _, h1 => exact absurd h1 (by simp)
/-- behind a call: the world that the callee leaves -/
theorem jw_run {ad : Nat → Nat} {H : Heap} {locs : List Loc} {ls : Array Slot} {cells slots mc ms : Nat} {pc : Nat} {st0 rest : List Value} {a : Array Value} {rk : List Nat} {r : List Int} {st st' : XT}
    (hr : va_Run p l e R s m args below meth c H locs cells slots mc ms (F0 m pc ls st0) rest (QB D cl cA A adW aT aS ck rk r st.1.1.length ad st' a) A) (hS : va_S A s.heap H locs)
    (kk : ∀ (ad' : Nat → Nat) (H1 : Heap) (locs1 : List Loc), (∀ k, k < st.1.1.length → ad' k = ad k) → OkS ck st' → (∀ q ∈ rk.zip r, OkV st'.1.1 q.1 q.2) → va_P D cl (w_w cA ad' st') H1 → va_D A (w_w cA ad' st') → va_S A s.heap H1 locs1 → W p l e R s m args below meth c H1 locs1 (cells + mc) (slots + ms) Q (F0 m (pc + 3) ls ((w_ret ad' adW aT aS rk r).toList ++ rest))) :
    W p l e R s m args below meth c H locs cells slots Q (F0 m pc ls st0) := by
  intro T hT X
  obtain ⟨v, st₀, t, T', LL, h0, X', hL, e1, e2, ⟨ad', q1, q2, q3, q4, q5, q6, hz, hk⟩, stp⟩ := hr T hT X
  rw [h0] at hz hk
  have hv : v = w_ret ad' adW aT aS rk r := by
    injection q2
  subst hv
  obtain ⟨t2, a1, b1⟩ := kk ad' T'.heap (locs ++ LL) q1 q3 q4 (by rw [e1]; exact q5) q6
    ⟨Nat.le_trans hS.1 (by rw [e1]; exact hz), fun q h1 h2 => by rw [e1, hk q (Nat.lt_of_lt_of_le h1 hS.1) h2]; exact hS.2.1 q h1 h2, fun q hq => by
      rcases List.mem_append.mp hq with h | h
      · exact hS.2.2 q h
      · exact hL q h⟩ T' rfl X'
  exact ⟨t2, stp t2 a1, b1⟩
/-- what the tables say of a method, of a call of it -/
def MF (Ts : List Cond) (Y : Nat → MethodName) (CC : Nat → ByteArray) (ML : Nat → Nat) (RT : Nat → XRt) (RK : Nat → List Nat) (f : Nat) : Prop :=
  cwd (Y f) (CC f) (ML f) (RT f) ∈ Ts ∧ Cond.initialized (Y f).cls ∈ Ts ∧ ((Y f).cls ≠ "java/lang/invoke/MethodHandle" ∧ (Y f).cls ≠ "java/lang/invoke/VarHandle") ∧ ML f ≤ 40 ∧ (RK f).length ≤ 1
def LC (Ts : List Cond) (cl : List vw_C) (own : String) (Y : Nat → MethodName) (RT : Nat → XRt) (PK : Nat → List Nat) (i f how : Nat) : Prop := match how with
  | 0 => (RT f).2 = [] ∧ (parseMethodDescriptor (Y f).desc).map (fun d => d.parameters.length) = some ((PK f).length - 1) ∧ Cond.methodLink own i (Y f) ∈ Ts ∧ Cond.instanceMethod (Y f) ∈ Ts ∧ Cond.selects (Y f).cls (Y f) (Y f) ∈ Ts ∧ ∃ ci T N ks, PK f = (10 + ci) :: ks ∧ cl[ci]? = some ((Y f).cls, T, N)
  | 1 => (parseMethodDescriptor (Y f).desc).map (fun d => d.parameters.length) = some (PK f).length ∧ Cond.static (Y f) ∈ Ts ∧ (Cond.methodLink own i (Y f) ∈ Ts ∨ (RT f).2 = [] ∧ ∃ h, Cond.methodLinkNest own i (Y f) h ∈ Ts)
  | 2 => (parseMethodDescriptor (Y f).desc).map (fun d => d.parameters.length) = some ((PK f).length - 1) ∧ Cond.instanceMethod (Y f) ∈ Ts ∧ (Y f).name = "<init>" ∧ RT f = (none, []) ∧ (Cond.methodLink own i (Y f) ∈ Ts ∨ ∃ h, Cond.methodLinkNest own i (Y f) h ∈ Ts) ∧ ∃ ci ks, PK f = (10 + ci) :: ks
  | _ => False
/-- a method's contract -/
def CTm (l : Launch) (Ts : List Cond) (D : va_G) (cl : List vw_C) (cA : Nat → ClassId) (A : Nat → Prop) (adW : Nat → Nat) (aT aS : Nat) (ck : Nat → List Nat) (Zs : String → String → String → Value → Prop) (cW : Nat → Nat → Int) (xs : Nat → Int) (L : Nat) (Y : Nat → MethodName) (CC : Nat → ByteArray) (ML : Nat → Nat) (RT : Nat → XRt) (PK RK : Nat → List Nat) (F : XP) (n f : Nat) : Prop :=
  ∀ av st r st' ad, F f av st = some (1, r, st') → OkS ck st → (∀ q ∈ (PK f).zip av, OkV st.1.1 q.1 q.2) → av.length = (PK f).length →
    Met l (Y f) [cwd (Y f) (CC f) (ML f) (RT f)] (rm_n n (st'.1.2.1 - st.1.2.1) (st'.1.2.2 - st.1.2.2)) (va_Pc (((PK f).zip av).map fun q => w_v ad adW aT aS q.1 q.2) (WB Ts D cl cA A adW aT aS Zs cW xs L st ad)) (QB D cl cA A adW aT aS ck (RK f) r st.1.1.length ad st') (st'.1.2.1 - st.1.2.1) (st'.1.2.2 - st.1.2.2) A
def Kp (g g' : XS) : Prop := g.length ≤ g'.length ∧ ∀ (o : Nat) (q : XC), g[o]? = some q → ∃ q', g'[o]? = some q' ∧ q'.1 = q.1
theorem Kp.of {g g' : XS} (h : (g.map (·.1)).isPrefixOf (g'.map (·.1)) = true) : Kp g g' := by
  have h1 := List.isPrefixOf_iff_prefix.mp h
  have hl := h1.length_le
  rw [List.length_map, List.length_map] at hl
  refine ⟨hl, fun o q hq => ?_⟩
  have ho := (List.getElem?_eq_some_iff.mp hq).1
  have e1 : (g'.map (·.1))[o]? = (g.map (·.1))[o]? := by
    obtain ⟨t, ht⟩ := h1
    rw [← ht, List.getElem?_append_left (by rw [List.length_map]; exact ho)]
  rw [List.getElem?_map, List.getElem?_map, hq] at e1
  cases hq' : g'[o]? with
  | none => rw [hq'] at e1; cases e1
  | some q' =>
    rw [hq'] at e1
    exact ⟨q', rfl, Option.some.inj e1⟩
theorem Kp.V {g g' : XS} (h : Kp g g') {kd : Nat} {v : Int} (hv : OkV g kd v) : OkV g' kd v :=
  ⟨hv.1, hv.2.1, hv.2.2.1, fun h6 => by
    obtain ⟨h0, c', h1, h2⟩ := hv.2.2.2.1 h6
    obtain ⟨q', h3, h4⟩ := h.2 _ _ h1
    exact ⟨h0, q', h3, h4.trans h2⟩, hv.2.2.2.2⟩
theorem cats_map {ad : Nat → Nat} (S : List (Nat × Int)) : ((S.map fun q => w_v ad adW aT aS q.1 q.2).map fun v => v.category).sum = k_cats (S.map (·.1)) := by
  unfold k_cats
  rw [List.map_map, List.map_map]
  congr 1
  apply List.map_congr_left
  intro q _
  exact w_cat
theorem z_call {Y : Nat → MethodName} {CC : Nat → ByteArray} {ML : Nat → Nat} {RT : Nat → XRt} {PK RK : Nat → List Nat} {F : XP} {n : Nat} {thr : Nat → Bool}
    (hx : p.tables.exec = Jvm.exec) (hb : c.code = cc) (hdec : DecOk dec cc) (hml : c.maxLocals = nL) (hown : s.vm.findClass own = some m.cls) (hw0 : ∀ w ∈ Ts, w.before #[] s = true) (hts : ∀ w ∈ Ts, w.before args s = true) (hnice : ∀ w ∈ Ts, niceW w = true) (hK : va_K D cl (w_tys cA) s) (hSF : SF Zs adW aT aS cW xs L A s s.heap) (hA : ∀ q, s.heap.size ≤ q → A q)
    (hMF : ∀ f, MF Ts Y CC ML RT RK f ∨ thr f = true) (hLC : ∀ i f how z, lk i = some (6, f, how, z) → LC Ts cl own Y RT PK i f how) (hCT : ∀ f, thr f = false → CTm l Ts D cl cA A adW aT aS ck Zs cW xs L Y CC ML RT PK RK F n f) (hR : n + 11 ≤ R.frames ∧ 60 * n + 360 ≤ R.locals)
    (hFm : ∀ f av (st : XT) c r (st' : XT), F f av st = some (c, r, st') → st.1.2.1 ≤ st'.1.2.1 ∧ st.1.2.2 ≤ st'.1.2.2 ∧ Kp st.1.1 st'.1.1) (hFl : ∀ f av st r st', F f av st = some (1, r, st') → r.length = (RK f).length) :
    ∀ pc f av r τ en S st st', c_ins dec pc (a_call lk) = some (f, pc + 3) → thr f = false → F f av st = some (1, r, st') → av.length = (PK f).length → k_cats (S.map (·.1)) ≤ 8 → JW p l e R s m args below meth c Q nL D cl cA A adW aT aS ck c0 d0 n0 ad0 (j_ult dec (pc + 3)) τ en (((RK f).zip r).reverse ++ S) st' → JW p l e R s m args below meth c Q nL D cl cA A adW aT aS ck c0 d0 n0 ad0 (j_ult dec pc) τ en (((PK f).zip av).reverse ++ S) st := by
  intro pc f av r τ en S st st' h hthr hF hlen hcat kk
  obtain ⟨ii, hd, hf⟩ := c_ins1 h
  obtain ⟨hdc, hln⟩ := hdec _ _ _ hd
  have hu := ult_ins hd (ng hf (fun _ => rfl))
  have k' := jw_ult hx hb hdec kk
  rw [hu]
  obtain ⟨m1, m2, m3⟩ := hFm _ _ _ _ _ _ hF
  have hlim := k'.1
  refine ⟨⟨Nat.le_trans m1 hlim.1, Nat.le_trans m2 hlim.2⟩, fun hok hS hL h4 h5 h6 ad H locs ls g1 g2 g3 g4 => ?_⟩
  have hSa : ∀ q ∈ (PK f).zip av, OkV st.1.1 q.1 q.2 := fun q hq => hS q (List.mem_append_left _ (List.mem_reverse.mpr hq))
  have hSr : ∀ q ∈ S, OkV st.1.1 q.1 q.2 := fun q hq => hS q (List.mem_append_right _ hq)
  have hM := hCT f hthr av st r st' ad hF hok hSa hlen
  obtain ⟨f1, f2, f3, f4, f5⟩ := (hMF f).resolve_right (by rw [hthr]; exact fun e => by cases e)
  have hG : GoodIn Ts [cwd (Y f) (CC f) (ML f) (RT f)] := fun w hw => by
    rw [List.mem_singleton.mp hw]
    refine ⟨f1, ?_⟩
    unfold cwd
    split <;> exact Or.inl rfl
  have hB : ∀ U : State, U.heap = H → s.WarmedH U.vm → WB Ts D cl cA A adW aT aS Zs cW xs L st ad U := fun U hU hW => by
    refine ⟨by rw [hU]; exact g1, g2.1, fun w hw => nw_at (hnice w hw) hW (hw0 w hw), va_K.moved hW.alike hK, ?_, fun q hq => hA q (Nat.le_trans g3.1 (by rw [← hU]; exact hq))⟩
    rw [hU]
    exact SF.moved hW.alike (hSF.kept g3.1 g3.2.1)
  have hbl : FrameBlind (va_Pc (((PK f).zip av).map fun q => w_v ad adW aT aS q.1 q.2) (WB Ts D cl cA A adW aT aS Zs cW xs L st ad)) := WB.blind hnice
  have hRr := rm_ok (a := st'.1.2.1 - st.1.2.1) (b := st'.1.2.2 - st.1.2.2) hR.1 hR.2 f4
  have hlim1 := hlim.1
  have hlim2 := hlim.2
  have hc0 := h4.1
  have hcs : st.1.2.1 - c0 + (st'.1.2.1 - st.1.2.1) ≤ R.cells ∧ st.1.2.2 - d0 + (st'.1.2.2 - st.1.2.2) ≤ R.slots := by omega
  have hroom : 2 * (F0 m pc ls ((((PK f).zip av).reverse ++ S).map fun q => w_v ad adW aT aS q.1 q.2)).monitorRoom + ((S.map fun q => w_v ad adW aT aS q.1 q.2).map fun v => v.category).sum ≤ 8 := by
    rw [cats_map]
    show 2 * 0 + _ ≤ 8
    omega
  have K : ∀ (ad' : Nat → Nat) (H1 : Heap) (locs1 : List Loc), (∀ k, k < st.1.1.length → ad' k = ad k) → OkS ck st' → (∀ q ∈ (RK f).zip r, OkV st'.1.1 q.1 q.2) → va_P D cl (w_w cA ad' st') H1 → va_D A (w_w cA ad' st') → va_S A s.heap H1 locs1 → W p l e R s m args below meth c H1 locs1 (st.1.2.1 - c0 + (st'.1.2.1 - st.1.2.1)) (st.1.2.2 - d0 + (st'.1.2.2 - st.1.2.2)) Q (F0 m (pc + 3) ls ((w_ret ad' adW aT aS (RK f) r).toList ++ S.map fun q => w_v ad adW aT aS q.1 q.2)) := by
    intro ad' H1 locs1 q1 q2 q3 q4 q5 q6
    have hS' : ∀ q ∈ ((RK f).zip r).reverse ++ S, OkV st'.1.1 q.1 q.2 := fun q hq => by
      rcases List.mem_append.mp hq with hq | hq
      · exact q3 q (List.mem_reverse.mp hq)
      · exact m3.V (hSr q hq)
    have K := k'.2 q2 hS' (fun i hi => m3.V (hL i hi)) ⟨by omega, Nat.le_trans h4.2 m3.1⟩ (by omega) h6 ad' H1 locs1 ls q4 ⟨q5, fun k hk => (q1 k (Nat.lt_of_lt_of_le hk h4.2)).trans (g2.2 k hk)⟩ q6 (lv_mono g4 (w_l_ad hL q1))
    rw [zip_map_cons (hFl _ _ _ _ _ hF) f5, w_S_ad hSr q1] at K
    have e1 : st'.1.2.1 - c0 = st.1.2.1 - c0 + (st'.1.2.1 - st.1.2.1) := by omega
    have e2 : st'.1.2.2 - d0 = st.1.2.2 - d0 + (st'.1.2.2 - st.1.2.2) := by omega
    rw [e1, e2] at K
    exact K
  have hfix : CallFix p m c cc nL s args Ts own := ⟨hx, hb, hml, hown, hts⟩
  have hini := hts _ f2
  unfold a_call at hf
  split at hf
  · split at hf
    · rename_i i f' z hl
      cases hf
      obtain ⟨p0, p1, p2, p3, p4, ci, T, N, ks, p5, p6⟩ := hLC _ _ _ _ hl
      rw [cwd_nil p0] at hM hG
      obtain ⟨o, vs, rfl⟩ : ∃ o vs, av = o :: vs := by
        cases av with
        | nil => rw [p5] at hlen; cases hlen
        | cons o vs => exact ⟨o, vs, rfl⟩
      rw [p5] at hM hSa hlen p1 hroom ⊢
      rw [p5] at hbl
      have ho := hSa (10 + ci, o) List.mem_cons_self
      obtain ⟨q, w1, w2, w3, w4⟩ := obj_at (cA := cA) (ad := ad) hok ho
      have href : w_v ad adW aT aS (10 + ci) o = .ref (ad o.toNat) := w_v_ref (by omega)
      have hlv : (((ks.zip vs).map fun q => w_v ad adW aT aS q.1 q.2)).length = ks.length := by
        simp at hlen
        simp [hlen]
      refine jw_run (st := st) (st' := st') (ad := ad) (r := r) (rk := RK f) (va_runV (As := (ks.zip vs).map fun q => w_v ad adW aT aS q.1 q.2) (b := ad o.toNat) (C := (Y f).cls) (rest := S.map fun q => w_v ad adW aT aS q.1 q.2) hfix hM ⟨callB_of ks.length hts hG rfl rfl rfl hini (hts _ p2) ⟨f3.1, f3.2, p1⟩ hRr, hts _ p3, hts _ p4⟩ ⟨hbl, va_recv hK g1 p6 w4, fun U hU hW => ⟨?_, hB U hU hW⟩⟩ rfl hlv g4.1 ?_ hroom hdc hcs) g3 K
      · show _ = (List.map _ ((10 + ci, o) :: ks.zip vs)).toArray
        rw [List.map_cons, href]
      · show List.map _ (((10 + ci, o) :: ks.zip vs).reverse ++ S) = _
        rw [List.map_append, List.reverse_cons, List.map_append, List.map_reverse, List.append_assoc]
        show _ ++ ([w_v ad adW aT aS (10 + ci) o] ++ _) = _
        rw [href]
        rfl
    · cases hf
  · split at hf
    · rename_i i f' z hl
      cases hf
      obtain ⟨p1, p2, p3⟩ := hLC _ _ _ _ hl
      have hlv : (((PK f).zip av).map fun q => w_v ad adW aT aS q.1 q.2).length = (PK f).length := by
        simp [hlen]
      have hstk : List.map (fun q => w_v ad adW aT aS q.1 q.2) (((PK f).zip av).reverse ++ S) = (((PK f).zip av).map fun q => w_v ad adW aT aS q.1 q.2).reverse ++ S.map fun q => w_v ad adW aT aS q.1 q.2 := by
        rw [List.map_append, List.map_reverse]
      rcases p3 with p3 | ⟨p0, hh, p3⟩
      · by_cases p0 : (RT f).2 = []
        · rw [cwd_nil p0] at hM hG
          exact jw_run (st := st) (st' := st') (ad := ad) (r := r) (rk := RK f) (va_runS (As := ((PK f).zip av).map fun q => w_v ad adW aT aS q.1 q.2) (rest := S.map fun q => w_v ad adW aT aS q.1 q.2) hfix hM ⟨callB_of (PK f).length hts hG rfl rfl rfl hini (hts _ p3) ⟨f3.1, f3.2, p1⟩ hRr, hts _ p2⟩ ⟨hbl, fun U hU hW => ⟨rfl, hB U hU hW⟩⟩ rfl hlv g4.1 hstk hroom hdc hcs) g3 K
        · rw [cwd_cons p0] at hM hG
          exact jw_run (st := st) (st' := st') (ad := ad) (r := r) (rk := RK f) (vx_runSW (As := ((PK f).zip av).map fun q => w_v ad adW aT aS q.1 q.2) (rest := S.map fun q => w_v ad adW aT aS q.1 q.2) hfix hM (vx_cwSW (PK f).length hts (goodS hG p3 p2 f2) rfl rfl rfl ⟨f3.1, f3.2, p1⟩ hRr) ⟨hbl, fun U hU hW => ⟨rfl, hB U hU hW⟩⟩ rfl hlv g4.1 hstk hroom hdc hcs) g3 K
      · rw [cwd_nil p0] at hM hG
        exact jw_run (st := st) (st' := st') (ad := ad) (r := r) (rk := RK f) (va_runSN (As := ((PK f).zip av).map fun q => w_v ad adW aT aS q.1 q.2) (rest := S.map fun q => w_v ad adW aT aS q.1 q.2) hfix hM ⟨va_cnB (PK f).length hts hG rfl rfl rfl (va_Nw.of rfl (hts _ p3)) hini ⟨f3.1, f3.2, p1⟩ hRr, hts _ p2, trivial⟩ ⟨hbl, fun U hU hW => ⟨rfl, hB U hU hW⟩⟩ rfl hlv g4.1 hstk hroom hdc hcs) g3 K
    · cases hf
  · split at hf
    · rename_i i f' z hl
      cases hf
      obtain ⟨p1, p2, p3, p4, p5, ci, ks, p6⟩ := hLC _ _ _ _ hl
      obtain ⟨o, vs, rfl⟩ : ∃ o vs, av = o :: vs := by
        cases av with
        | nil => rw [p6] at hlen; cases hlen
        | cons o vs => exact ⟨o, vs, rfl⟩
      rw [p6] at hM hSa hlen p1 hroom ⊢
      rw [p6] at hbl
      rw [cwd_nil (by rw [p4]), p4] at hM hG
      have href : w_v ad adW aT aS (10 + ci) o = .ref (ad o.toNat) := w_v_ref (by omega)
      have hlv : (((ks.zip vs).map fun q => w_v ad adW aT aS q.1 q.2)).length = ks.length := by
        simp at hlen
        simp [hlen]
      have hstk : List.map (fun q => w_v ad adW aT aS q.1 q.2) ((((10 + ci) :: ks).zip (o :: vs)).reverse ++ S) = ((ks.zip vs).map fun q => w_v ad adW aT aS q.1 q.2).reverse ++ .ref (ad o.toNat) :: S.map fun q => w_v ad adW aT aS q.1 q.2 := by
        show List.map _ (((10 + ci, o) :: ks.zip vs).reverse ++ S) = _
        rw [List.map_append, List.reverse_cons, List.map_append, List.map_reverse, List.append_assoc]
        show _ ++ ([w_v ad adW aT aS (10 + ci) o] ++ _) = _
        rw [href]
        rfl
      have hav : Value.ref (ad o.toNat) :: (ks.zip vs).map (fun q => w_v ad adW aT aS q.1 q.2) = List.map (fun q => w_v ad adW aT aS q.1 q.2) (((10 + ci) :: ks).zip (o :: vs)) := by
        show _ = List.map _ ((10 + ci, o) :: ks.zip vs)
        rw [List.map_cons, href]
      rcases p5 with p5 | ⟨hh, p5⟩
      · exact jw_run (st := st) (st' := st') (ad := ad) (r := r) (rk := RK f) (va_runI (As := (ks.zip vs).map fun q => w_v ad adW aT aS q.1 q.2) (b := ad o.toNat) (rest := S.map fun q => w_v ad adW aT aS q.1 q.2) hfix hM ⟨callB_of ks.length hts hG rfl rfl rfl hini (hts _ p5) ⟨f3.1, f3.2, p1⟩ hRr, p3, hts _ p2⟩ ⟨hbl, fun U hU hW => ⟨by rw [hav], hB U hU hW⟩⟩ rfl hlv g4.1 hstk hroom hdc hcs) g3 K
      · exact jw_run (st := st) (st' := st') (ad := ad) (r := r) (rk := RK f) (va_runIN (As := (ks.zip vs).map fun q => w_v ad adW aT aS q.1 q.2) (b := ad o.toNat) (rest := S.map fun q => w_v ad adW aT aS q.1 q.2) hfix hM ⟨va_cnB ks.length hts hG rfl rfl rfl (va_Nw.of rfl (hts _ p5)) hini ⟨f3.1, f3.2, p1⟩ hRr, p3, hts _ p2⟩ ⟨hbl, fun U hU hW => ⟨by rw [hav], hB U hU hW⟩⟩ rfl hlv g4.1 hstk hroom hdc hcs) g3 K
    · cases hf
  · cases hf
end JWC
end
section
def RTok (rk : List Nat) (rz : Bool) (RT : Option FieldType) : Prop := match rk with
  | [] => RT = none
  | [1] => RT = some (if rz then .boolean else .int)
  | [2] => RT = some .long ∧ rz = false
  | [3] => (∃ n, RT = some (.object n)) ∧ rz = false
  | _ => False
section JWR
variable {p : Program} {l : Launch} {e : Env} {R : Room} {s : State} {m : MethodId} {args : Array Value} {below : List Frame} {meth : Method} {c : Code}
  {cc : ByteArray} {nL : Nat} {own : String} {Ts : List Cond} {D : va_G} {cl : List vw_C} {cA : Nat → ClassId} {A : Nat → Prop} {adW : Nat → Nat} {aT aS : Nat} {ck : Nat → List Nat} {c0 d0 n0 : Nat} {ad0 : Nat → Nat} {dec : XD} {lk lp : XK} {Zs : String → String → String → Value → Prop} {cW : Nat → Nat → Int} {xs : Nat → Int} {L : Nat}
  {rk : List Nat} {rz : Bool} {RT : Option FieldType} {rE : List Int} {stE : XT}
theorem j_lim {a b : Nat} : a ≤ b + (a - b) := by omega
theorem QB.of {s : State} {H : Heap} {locs : List Loc} {ad : Nat → Nat} {o : Outcome} {t : State} {Qa : Array Value} (hlen : rE.length = rk.length) (h1 : ∀ k, k < n0 → ad k = ad0 k) (h2 : o = .returned (w_ret ad adW aT aS rk rE)) (h3 : OkS ck stE) (h4 : ∀ q ∈ rk.zip rE, OkV stE.1.1 q.1 q.2) (h5 : va_P D cl (w_w cA ad stE) H) (h6 : va_D A (w_w cA ad stE)) (h7 : va_S A s.heap H locs) (ht : t.heap = H) : QB D cl cA A adW aT aS ck rk rE n0 ad0 stE Qa s o t :=
  ⟨ad, h1, h2, h3, h4, by rw [ht]; exact h5, h6, h7.F ht⟩
theorem z_ret (hx : p.tables.exec = Jvm.exec) (hb : c.code = cc) (hdec : DecOk dec cc) (hrt : meth.sig.returnType = RT) (hRT : RTok rk rz RT) (hlocks : meth.locks = false) (hR : R.cells = stE.1.2.1 - c0 ∧ R.slots = stE.1.2.2 - d0) :
    ∀ pc kd v τ en st, rk = [kd] → rz = false → kd ≠ 0 → c_op0 dec pc (10 + k_cl kd) = true → ([v] = rE ∧ st = stE) → JW p l e R s m args below meth c (MQ below (QB D cl cA A adW aT aS ck rk rE n0 ad0 stE) args s (stE.1.2.1 - c0) (stE.1.2.2 - d0) A) nL D cl cA A adW aT aS ck c0 d0 n0 ad0 (j_ult dec pc) τ en [(kd, v)] st := by
  intro pc kd v τ en st hk hz hkd h hE
  obtain ⟨rfl, rfl⟩ := hE
  subst hk
  obtain ⟨ii, hd, hf⟩ := c_op0_spec h
  obtain ⟨hdc, hln⟩ := hdec _ _ _ hd
  rw [ult_ins hd (ng0 hf (by omega))]
  refine ⟨⟨by rw [hR.1]; exact j_lim, by rw [hR.2]; exact j_lim⟩, fun hok hS hL h4 h5 h6 ad H locs ls g1 g2 g3 g4 => ?_⟩
  have hq : ∀ o, o = Outcome.returned (w_ret ad adW aT aS [kd] [v]) → ∀ t : State, t.heap = H → s.WarmedH t.vm → QB D cl cA A adW aT aS ck [kd] [v] n0 ad0 st args s o t := fun o ho t ht _ => QB.of rfl g2.2 ho hok hS g1 g2.1 g3 ht
  have hfr : ∀ q ∈ locs, A q.base := g3.2.2
  unfold RTok at hRT
  split at hRT
  · rename_i e
    cases e
  · rename_i e
    cases e
    rw [hz] at hRT
    have hi : ii = .ireturn := by
      unfold a_op0 at hf
      split at hf <;> first | rfl | cases hf
    subst hi
    exact W.iret hx hb (hrt.trans hRT) (hq _ rfl) hfr hdc hlocks
  · rename_i e
    cases e
    have hi : ii = .lreturn := by
      unfold a_op0 at hf
      split at hf <;> first | rfl | cases hf
    subst hi
    exact W.lret hx hb (hrt.trans hRT.1) (hq _ rfl) hfr hdc hlocks
  · rename_i e
    cases e
    have hi : ii = .areturn := by
      unfold a_op0 at hf
      split at hf <;> first | rfl | cases hf
    subst hi
    obtain ⟨n, hn⟩ := hRT.1
    exact W.aret hx hb (hrt.trans hn) (Or.inl ⟨n, rfl⟩) (Or.inr ⟨_, rfl⟩) (hq _ rfl) hfr hdc hlocks
  · cases hRT
theorem z_retz (hx : p.tables.exec = Jvm.exec) (hb : c.code = cc) (hdec : DecOk dec cc) (hrt : meth.sig.returnType = RT) (hRT : RTok rk rz RT) (hlocks : meth.locks = false) (hR : R.cells = stE.1.2.1 - c0 ∧ R.slots = stE.1.2.2 - d0) :
    ∀ pc v τ en st, rk = [1] → rz = true → c_op0 dec pc 11 = true → (v = 0 ∨ v = 1) → ([v] = rE ∧ st = stE) → JW p l e R s m args below meth c (MQ below (QB D cl cA A adW aT aS ck rk rE n0 ad0 stE) args s (stE.1.2.1 - c0) (stE.1.2.2 - d0) A) nL D cl cA A adW aT aS ck c0 d0 n0 ad0 (j_ult dec pc) τ en [(1, v)] st := by
  intro pc v τ en st hk hz h hv hE
  obtain ⟨rfl, rfl⟩ := hE
  subst hk
  subst hz
  obtain ⟨ii, hd, hf⟩ := c_op0_spec h
  obtain ⟨hdc, hln⟩ := hdec _ _ _ hd
  rw [ult_ins hd (ng0 hf (by omega))]
  refine ⟨⟨by rw [hR.1]; exact j_lim, by rw [hR.2]; exact j_lim⟩, fun hok hS hL h4 h5 h6 ad H locs ls g1 g2 g3 g4 => ?_⟩
  have hq : ∀ o, o = Outcome.returned (w_ret ad adW aT aS [1] [v]) → ∀ t : State, t.heap = H → s.WarmedH t.vm → QB D cl cA A adW aT aS ck [1] [v] n0 ad0 st args s o t := fun o ho t ht _ => QB.of rfl g2.2 ho hok hS g1 g2.1 g3 ht
  have hi : ii = .ireturn := by
    unfold a_op0 at hf
    split at hf <;> first | rfl | cases hf
  subst hi
  refine W.zret (ty := .boolean) hx hb (hrt.trans hRT) ?_ (hq _ rfl) g3.2.2 hdc hlocks
  rcases hv with rfl | rfl <;> rfl
theorem z_retv (hx : p.tables.exec = Jvm.exec) (hb : c.code = cc) (hdec : DecOk dec cc) (hrt : meth.sig.returnType = RT) (hRT : RTok rk rz RT) (hlocks : meth.locks = false) (hR : R.cells = stE.1.2.1 - c0 ∧ R.slots = stE.1.2.2 - d0) :
    ∀ pc τ en st, rk = [] → c_op0 dec pc 14 = true → ([] = rE ∧ st = stE) → JW p l e R s m args below meth c (MQ below (QB D cl cA A adW aT aS ck rk rE n0 ad0 stE) args s (stE.1.2.1 - c0) (stE.1.2.2 - d0) A) nL D cl cA A adW aT aS ck c0 d0 n0 ad0 (j_ult dec pc) τ en [] st := by
  intro pc τ en st hk h hE
  obtain ⟨rfl, rfl⟩ := hE
  subst hk
  obtain ⟨ii, hd, hf⟩ := c_op0_spec h
  obtain ⟨hdc, hln⟩ := hdec _ _ _ hd
  rw [ult_ins hd (ng0 hf (by omega))]
  refine ⟨⟨by rw [hR.1]; exact j_lim, by rw [hR.2]; exact j_lim⟩, fun hok hS hL h4 h5 h6 ad H locs ls g1 g2 g3 g4 => ?_⟩
  have hi : ii = .return_ := by
    unfold a_op0 at hf
    split at hf <;> first | rfl | cases hf
  subst hi
  exact W.vret hx hb (hrt.trans hRT) (fun t ht _ => QB.of rfl g2.2 rfl hok (fun q hq => by cases hq) g1 g2.1 g3 ht) g3.2.2 hdc hlocks
def nsee : String := "java/util/NoSuchElementException"
def nseeN : List String := ["java/lang/RuntimeException", "java/lang/Exception"]
/-- what the table says of the throw -/
def LT (Ts : List Cond) (own : String) (lk : XK) : Prop := ∀ ik z ic z', lk ik = some (8, z) → lk ic = some (9, z') → Cond.classLink own ik nsee ∈ Ts ∧ Cond.initialized nsee ∈ Ts ∧ (∀ w ∈ vx_at0 own ic nsee nseeN, w ∈ Ts) ∧ ∀ w ∈ Cond.classLink own ik nsee :: Cond.initialized nsee :: vx_at0 own ic nsee nseeN, vx_ot w = true
/-- what a throw leaves -/
def QX (D : va_G) (cl : List vw_C) (cA : Nat → ClassId) (A : Nat → Prop) (ck : Nat → List Nat) (n0 : Nat) (ad0 : Nat → Nat) (st' : XT) : String → State → State → Prop := fun E s0 t =>
  E = nsee ∧ ∃ ad : Nat → Nat, (∀ k, k < n0 → ad k = ad0 k) ∧ OkS ck st' ∧ va_P D cl (w_w cA ad st') t.heap ∧ va_D A (w_w cA ad st') ∧ va_F A s0 t
theorem c_throw_s {pc : Nat} (h : c_throw dec lk pc = true) : ∃ ik z ic z', dec pc = some (.new ik, 3) ∧ lk ik = some (8, z) ∧ dec (pc + 3) = some (.dup, 1) ∧ dec (pc + 4) = some (.invokespecial ic, 3) ∧ lk ic = some (9, z') ∧ dec (pc + 7) = some (.athrow, 1) := by
  unfold c_throw at h
  split at h
  · rename_i z p' he
    obtain ⟨ii, n, hd, hf, hp⟩ := c_ins_spec he
    simp only [Bool.and_eq_true, beq_iff_eq] at h
    obtain ⟨⟨⟨h1, h2⟩, h3⟩, h4⟩ := h
    have hn : n = 3 := by omega
    subst hn
    unfold a_new at hf
    split at hf
    · rename_i ik
      obtain ⟨i1, hd1, hf1⟩ := c_op0_spec h2
      obtain ⟨i2, hd2, hf2⟩ := c_op0_spec h3
      have e1 : i1 = .dup := by
        unfold a_op0 at hf1
        split at hf1 <;> first | rfl | cases hf1
      have e2 : i2 = .athrow := by
        unfold a_op0 at hf2
        split at hf2 <;> first | rfl | cases hf2
      subst e1; subst e2
      split at h4
      · rename_i ic n4 hd4
        simp only [Bool.and_eq_true, beq_iff_eq] at h4
        obtain ⟨h5, h6⟩ := h4
        subst h5
        split at h6
        · rename_i z' hl'
          exact ⟨ik, z, ic, z', hd, hf, hd1, hd4, hl', hd2⟩
        · cases h6
      · cases h4
    · cases hf
  · cases h
theorem z_throw {Qc : Array Value → State → Outcome → State → Prop} {XC : String → State → State → Prop} (hXC : ∀ E s0 t, QX D cl cA A ck n0 ad0 stE E s0 t → XC E s0 t) (hx : p.tables.exec = Jvm.exec) (hb : c.code = cc) (hdec : DecOk dec cc) (hml : c.maxLocals = nL) (hl : l.stackTraces = false) (hown : s.vm.findClass own = some m.cls) (hts : ∀ w ∈ Ts, w.before args s = true) (hLT : LT Ts own lk) (hSF : SF Zs adW aT aS cW xs L A s s.heap) (hlocks : meth.locks = false) (hexc : ∀ x ∈ c.exceptionTable.toList, False) (hR : R.cells = stE.1.2.1 - c0 ∧ R.slots = stE.1.2.2 - d0 ∧ 10 ≤ R.frames ∧ 120 ≤ R.locals) :
    ∀ pc τ en (st : XT), c_throw dec lk pc = true → ((st.1.1, st.1.2.1 + 1, st.1.2.2 + 6), st.2) = stE → JW p l e R s m args below meth c (vx_MQ below Qc XC args s (stE.1.2.1 - c0) (stE.1.2.2 - d0) A) nL D cl cA A adW aT aS ck c0 d0 n0 ad0 (j_ult dec pc) τ en [] st := by
  intro pc τ en st h hE
  obtain ⟨ik, z, ic, z', q1, q2, q3, q4, q5, q6⟩ := c_throw_s h
  obtain ⟨t1, t2, t3, t4⟩ := hLT _ _ _ _ q2 q5
  rw [ult_ins q1 rfl]
  have e1 : stE.1.2.1 = st.1.2.1 + 1 := by rw [← hE]
  have e2 : stE.1.2.2 = st.1.2.2 + 6 := by rw [← hE]
  refine ⟨⟨by rw [hR.1]; omega, by rw [hR.2.1]; omega⟩, fun hok hS hL h4 h5 h6 ad H locs ls g1 g2 g3 g4 => ?_⟩
  have h41 := h4.1
  have ew : w_w cA ad stE = w_w cA ad st := by rw [← hE]; rfl
  have hok' : OkS ck stE := by rw [← hE]; exact hok
  obtain ⟨-, -, -, -, -, -, -, -, -, -, hU, hN⟩ := hSF
  refine vx_throw0 (cls := nsee) (names := nseeN) hx hb hl hown (by decide +kernel) (by decide +kernel) (hts _ t1) (hts _ t2) (fun w hw => hts _ (t3 w hw)) t4 hU hN g3 (g4.1.trans hml.symm) (hdec _ _ _ q1).1 (hdec _ _ _ q3).1 (hdec _ _ _ q4).1 (hdec _ _ _ q6).1 (fun x hx => (hexc x hx).elim) (Nat.lt_of_lt_of_le (show nseeN.length + 3 < 10 by decide) hR.2.2.1) ?_ (by rw [hR.1]; omega) (by rw [hR.2.1]; omega) hlocks (fun t hal hz hq => ?_) g3.2.2 (by omega) (by omega)
  · exact Nat.le_trans (Nat.le_of_ble_eq_true rfl) hR.2.2.2
  · refine hXC _ _ _ ⟨rfl, ad, g2.2, hok', ?_, by rw [ew]; exact g2.1, Nat.le_trans g3.1 hz, fun q h1 h2 => ?_⟩
    · rw [ew]
      exact fun k y hk => (g1 k y hk).kept (hq _ (g1 k y hk).lt)
    · rw [hq q (Nat.lt_of_lt_of_le h1 g3.1)]
      exact g3.2.1 q h1 h2
theorem layT2 (pk : List Nat) : j_layT (2 :: pk) = 2 :: 0 :: j_layT pk := rfl
theorem layT1 {k : Nat} (h : k ≠ 2) (pk : List Nat) : j_layT (k :: pk) = k :: j_layT pk := if_neg h
theorem lay2 (pk : List Nat) (v : Int) (av : List Int) : j_lay (2 :: pk) (v :: av) = v :: 0 :: j_lay pk av := rfl
theorem lay1 {k : Nat} (h : k ≠ 2) (pk : List Nat) (v : Int) (av : List Int) : j_lay (k :: pk) (v :: av) = v :: j_lay pk av := if_neg h
/-- the start of a method: its locals -/
theorem lay_args {ad : Nat → Nat} : ∀ (pk : List Nat) (av : List Int) (base i : Nat), av.length = pk.length → (j_layT pk).getD i 0 ≠ 0 → (base + i, w_v ad adW aT aS ((j_layT pk).getD i 0) ((j_lay pk av).getD i 0)) ∈ lv_args base ((pk.zip av).map fun q => w_v ad adW aT aS q.1 q.2)
  | [], _, _, i, _, h => absurd (by simp [j_layT]) h
  | k :: pk, [], _, _, h0, _ => by cases h0
  | k :: pk, v :: av, base, i, h0, h => by
    have h0' : av.length = pk.length := by simpa using h0
    by_cases hk : k = 2
    · subst hk
      rw [layT2] at h ⊢
      rw [lay2]
      match i, h with
      | 0, h => exact List.mem_cons_self
      | 1, h => exact absurd rfl h
      | i + 2, h =>
        have := lay_args (ad := ad) pk av (base + 2) i h0' h
        have e : base + 2 + i = base + (i + 2) := by omega
        rw [e] at this
        exact List.mem_cons_of_mem _ this
    · rw [layT1 hk] at h ⊢
      rw [lay1 hk]
      have ec : (if (w_v ad adW aT aS k v).category = 2 then base + 2 else base + 1) = base + 1 := by
        rw [w_cat]
        unfold k_cat
        rw [if_neg hk]
        rfl
      match i, h with
      | 0, h => exact List.mem_cons_self
      | i + 1, h =>
        have := lay_args (ad := ad) pk av (base + 1) i h0' h
        have e : base + 1 + i = base + (i + 1) := by omega
        rw [e, ← ec] at this
        exact List.mem_cons_of_mem _ this
theorem pad_getD {α : Type} {z : α} {n : Nat} {l : List α} {i : Nat} : (j_pad z n l).getD i z = l.getD i z := by
  unfold j_pad
  simp only [List.getD]
  by_cases h : i < l.length
  · rw [List.getElem?_append_left h]
  · rw [List.getElem?_append_right (by omega), List.getElem?_eq_none (l := l) (by omega)]
    cases hq : (List.replicate (n - l.length) z)[i - l.length]? with
    | none => rfl
    | some y =>
      have := List.mem_of_getElem? hq
      rw [List.eq_of_mem_replicate this]
      rfl
theorem lay_len : ∀ (pk : List Nat) (av : List Int), av.length = pk.length → (j_lay pk av).length = (j_layT pk).length
  | [], [], _ => rfl
  | [], _ :: _, h => by cases h
  | k :: pk, [], h => by cases h
  | k :: pk, v :: av, h => by
    have h' := lay_len pk av (by simpa using h)
    by_cases hk : k = 2
    · subst hk
      rw [layT2, lay2]
      simp [h']
    · rw [layT1 hk, lay1 hk]
      simp [h']
/-- kinds of the locals at the start are those of the arguments -/
theorem lay_ok {g : XS} : ∀ (pk : List Nat) (av : List Int) (i : Nat), av.length = pk.length → (∀ q ∈ pk.zip av, OkV g q.1 q.2) → (j_layT pk).getD i 0 ≠ 0 → OkV g ((j_layT pk).getD i 0) ((j_lay pk av).getD i 0)
  | [], _, i, _, _, h => absurd (by simp [j_layT]) h
  | k :: pk, [], _, h0, _, _ => by cases h0
  | k :: pk, v :: av, i, h0, hq, h => by
    have h0' : av.length = pk.length := by simpa using h0
    have hq0 : OkV g k v := hq (k, v) List.mem_cons_self
    have hq1 : ∀ q ∈ pk.zip av, OkV g q.1 q.2 := fun q hz => hq q (List.mem_cons_of_mem _ hz)
    by_cases hk : k = 2
    · subst hk
      rw [layT2] at h ⊢
      rw [lay2]
      match i, h with
      | 0, h => exact hq0
      | 1, h => exact absurd rfl h
      | i + 2, h => exact lay_ok pk av i h0' hq1 h
    · rw [layT1 hk] at h ⊢
      rw [lay1 hk]
      match i, h with
      | 0, h => exact hq0
      | i + 1, h => exact lay_ok pk av i h0' hq1 h
end JWR
end
section
section JWZ
variable {p : Program} {l : Launch} {e : Env} {R : Room} {s : State} {m : MethodId} {args : Array Value} {below : List Frame} {meth : Method} {c : Code} {Q : State → Prop}
  {cc : ByteArray} {nL : Nat} {own : String} {Ts : List Cond} {D : va_G} {cl : List vw_C} {cA : Nat → ClassId} {A : Nat → Prop} {adW : Nat → Nat} {aT aS : Nat} {ck : Nat → List Nat} {c0 d0 n0 : Nat} {ad0 : Nat → Nat} {dec : XD} {lk lp : XK} {Zs : String → String → String → Value → Prop} {cW : Nat → Nat → Int} {xs : Nat → Int} {L : Nat}
  {Y : Nat → MethodName} {CC : Nat → ByteArray} {ML : Nat → Nat} {RT : Nat → XRt} {PK RK : Nat → List Nat} {F : XP} {n : Nat} {thr : Nat → Bool} {rt : List Nat} {rz : Bool} {hnd : Nat → Option (Nat × Nat)} {RR : List Int → XT → Prop} {XX : XT → Prop}
/-- what the tables say of a method's own code -/
def FO (Ts : List Cond) (cl : List vw_C) (ck : Nat → List Nat) (adW : Nat → Nat) (aT : Nat) (Zs : String → String → String → Value → Prop) (Y : Nat → MethodName) (RT : Nat → XRt) (PK : Nat → List Nat) (own name : String) (lk lp : XK) : Prop :=
  (∀ i q, lk i = some q → LF Ts cl own ck adW aT Zs i q) ∧
  (∀ i q, lp i = some q → LF Ts cl own ck adW aT Zs i q ∧ (q.1 = 0 → ∀ C T N, cl[q.2.1]? = some (C, T, N) → (T q.2.2.1).2.2.2 = true → (T q.2.2.1).1 = own ∧ Cond.fieldLink own i (T q.2.2.1).1 (T q.2.2.1).2.1 (T q.2.2.1).2.2.1 ∈ Ts ∧ name = "<init>")) ∧
  (∀ i f how z, lk i = some (6, f, how, z) → LC Ts cl own Y RT PK i f how) ∧ (∀ i z, lk i = some (10, z) → LO Ts own i)
theorem clo (hx : p.tables.exec = Jvm.exec) (hb : c.code = cc) (hdec : DecOk dec cc) (hml : c.maxLocals = nL) (hown : s.vm.findClass own = some m.cls) (hw0 : ∀ w ∈ Ts, w.before #[] s = true) (hts : ∀ w ∈ Ts, w.before args s = true) (hnice : ∀ w ∈ Ts, niceW w = true) (hCF : CF Ts cl ck) (hK : va_K D cl (w_tys cA) s) (hSF : SF Zs adW aT aS cW xs L A s s.heap) (hA : ∀ q, s.heap.size ≤ q → A q) (hWi : ∀ i j : Nat, i < 24 → j < 24 → adW i = adW j → i = j)
    (hTa : ∀ ty, (ty = .int ∨ ty = .long ∨ ty = .byte ∨ ty = .boolean) → Cond.arrayClass ty ∈ Ts)
    (hFO : FO Ts cl ck adW aT Zs Y RT PK own meth.name lk lp)
    (hMF : ∀ f, MF Ts Y CC ML RT RK f ∨ thr f = true) (hCT : ∀ f, thr f = false → CTm l Ts D cl cA A adW aT aS ck Zs cW xs L Y CC ML RT PK RK F n f) (hR : n + 11 ≤ R.frames ∧ 60 * n + 360 ≤ R.locals)
    (hFm : ∀ f av (st : XT) c r (st' : XT), F f av st = some (c, r, st') → st.1.2.1 ≤ st'.1.2.1 ∧ st.1.2.2 ≤ st'.1.2.2 ∧ Kp st.1.1 st'.1.1) (hFl : ∀ f av st r st', F f av st = some (1, r, st') → r.length = (RK f).length)
    (hret : ∀ pc kd v τ en st, rt = [kd] → rz = false → kd ≠ 0 → c_op0 dec pc (10 + k_cl kd) = true → RR [v] st → JW p l e R s m args below meth c Q nL D cl cA A adW aT aS ck c0 d0 n0 ad0 (j_ult dec pc) τ en [(kd, v)] st)
    (hretv : ∀ pc τ en st, rt = [] → c_op0 dec pc 14 = true → RR [] st → JW p l e R s m args below meth c Q nL D cl cA A adW aT aS ck c0 d0 n0 ad0 (j_ult dec pc) τ en [] st)
    (hthr : ∀ pc τ en (st : XT), c_throw dec lk pc = true → XX ((st.1.1, st.1.2.1 + 1, st.1.2.2 + 6), st.2) → JW p l e R s m args below meth c Q nL D cl cA A adW aT aS ck c0 d0 n0 ad0 (j_ult dec pc) τ en [] st)
    (hcx : ∀ pc f av r τ en S st k st' q kk, c_ins dec pc (a_call lk) = some (f, pc + 3) → thr f = true → hnd pc = some (q, kk) → τ.getD kk 0 = 0 → k_fit τ kk 3 = true → F f av st = some (k, r, st') → av.length = (PK f).length → k_cats (S.map (·.1)) ≤ 8 → (k = 1 → JW p l e R s m args below meth c Q nL D cl cA A adW aT aS ck c0 d0 n0 ad0 (j_ult dec (pc + 3)) τ en (((RK f).zip r).reverse ++ S) st') → (k = 4 → JW p l e R s m args below meth c Q nL D cl cA A adW aT aS ck c0 d0 n0 ad0 (j_ult dec q) τ en [] st') → (k = 1 ∨ k = 4) → JW p l e R s m args below meth c Q nL D cl cA A adW aT aS ck c0 d0 n0 ad0 (j_ult dec pc) τ en (((PK f).zip av).reverse ++ S) st)
    (hretz : ∀ pc v τ en st, rt = [1] → rz = true → c_op0 dec pc 11 = true → (v = 0 ∨ v = 1) → RR [v] st → JW p l e R s m args below meth c Q nL D cl cA A adW aT aS ck c0 d0 n0 ad0 (j_ult dec pc) τ en [(1, v)] st) :
    XClo dec lk lp PK RK thr rt rz xs L ck F cW hnd RR XX (JW p l e R s m args below meth c Q nL D cl cA A adW aT aS ck c0 d0 n0 ad0) := by
  obtain ⟨hLK, hLP, hLC, hLO⟩ := hFO
  have hta : ∀ ty, (ty = .int ∨ ty = .long ∨ ty = .byte ∨ ty = .boolean) → (Cond.arrayClass ty).before args s = true := fun ty h => hts _ (hTa ty h)
  refine ⟨z_const hx hb hdec hLK hown hts hSF.1, z_load hx hb hdec, z_store hx hb hdec, z_iinc hx hb hdec, z_getf hx hb hdec hLK hown hts hCF hK, z_getr hx hb hdec hLK hown hts hCF hK, z_aload hx hb hdec hK, z_sload hx hb hdec hSF, z_wload hx hb hdec hSF, z_alen hx hb hdec hK, z_slen hx hb hdec hSF, z_wlen hx hb hdec hSF, z_wf hx hb hdec hLK hown hts hSF,
    z_iop hx hb hdec, z_lop hx hb hdec, z_lsh hx hb hdec, z_div hx hb hdec, z_un hx hb hdec, z_icmp hx hb hdec, z_if hx hb hdec, z_lcmp hx hb hdec, z_acmp hx hb hdec hWi, z_call hx hb hdec hml hown hw0 hts hnice hK hSF hA hMF hLC hCT hR hFm hFl, z_new hx hb hdec hLK hown hts hCF hK hA, z_newa hx hb hdec hts hK hA hta, z_dup hx hb hdec, z_dup2 hx hb hdec, z_pop hx hb hdec, ?_, z_putr hx hb hdec hown hts hCF hK hLP, z_astore hx hb hdec hK,
    hret, hretv, hthr, z_oinit hx hb hdec hml hown hts hLO ⟨by omega, by omega⟩, z_sw hx hb hdec, z_mono, fun f av r st st' h => hFl f av st r st' h, hcx, ?_, hretz⟩
  · intro pc ci k kd o v τ en S st h hk kk
    have := jw_putf hx hb hdec hown hts hCF hK hLP h (v := v) (o := o) (by rcases hk with h | h; exact Or.inl h; exact Or.inr (Or.inl h)) kk
    have e : j_kd kd = kd.toNat := by rcases hk with rfl | rfl <;> rfl
    rw [e] at this
    exact this
  · intro pc ci k o v τ en S st h hv kk
    exact jw_putf hx hb hdec hown hts hCF hK hLP h (v := v) (o := o) (Or.inr (Or.inr ⟨rfl, hv⟩)) kk
end JWZ
theorem Met_ofF {l : Launch} {y : MethodName} {ws ws' : List Cond} {rm : Room} {Pc : Array Value → State → Prop} {Qc : Array Value → State → Outcome → State → Prop} {mc ms : Nat} {free : Addr → Prop} {cc : ByteArray} {maxL : Nat} {ret : Option FieldType}
    (hy : plainFor y = true) (hw : ws = Cond.code y cc maxL ret :: ws')
    (body : ∀ p e s m args below meth c s₁, BodyLoose p l y (headSpec ws rm) cc maxL ret e s m args below meth c s₁ → c.maxLocals = maxL → Pc args s →
      W p l e (headSpec ws rm).room s m args below meth c s.heap [] 0 0 (MQ below Qc args s mc ms free) (entryFrame m args maxL)) : Met l y ws rm Pc Qc mc ms free := by
  refine MetFree.of_bodySF (code := cc) (maxLocals := maxL) (ret := ret) hy ?_ ?_
  · intro args s m h hn
    obtain ⟨meth, c, h1, h2, h3, h4, h5, h6, -, -⟩ := Cond.code_spec hn (atoms_spec (ws := ws) h _ (by rw [hw]; exact List.mem_cons_self))
    exact ⟨meth, c, h1, h2, h3, h4, h5, h6⟩
  · intro p e s m args below meth c s₁ B hml hP _
    have hh0 : s₁.heap = s.heap := by rw [B.state]; rfl
    obtain ⟨t, a1, o, b1, b2, b3⟩ := body p e s m args below meth c s₁ B hml hP s₁ hh0 (Stand.of_body B)
    exact ⟨t, o, a1, b1, b2, ⟨b3.1, b3.2⟩⟩
section JWM
variable {l : Launch} {Ts : List Cond} {D : va_G} {cl : List vw_C} {cA : Nat → ClassId} {A : Nat → Prop} {adW : Nat → Nat} {aT aS : Nat} {ck : Nat → List Nat} {Zs : String → String → String → Value → Prop} {cW : Nat → Nat → Int} {xs : Nat → Int} {L K : Nat}
  {Y : Nat → MethodName} {CC : Nat → ByteArray} {RT : Nat → XRt} {M : Nat → XM} {THR RZ : Nat → Bool} {DEC LK LP : Nat → XK} {DE : Nat → XD} {HND : Nat → Nat → Option (Nat × Nat)}
def m_L (M : Nat → XM) (f : Nat) : Nat := (M f).2.1
def m_P (M : Nat → XM) (f : Nat) : List Nat := (M f).2.2.1
def m_R (M : Nat → XM) (f : Nat) : List Nat := (M f).2.2.2.1
def m_B (M : Nat → XM) (f : Nat) : SX := (M f).2.2.2.2
/-- the tree of a method stands the check -/
def CK (M : Nat → XM) (DE : Nat → XD) (LK LP : Nat → XK) (THR RZ : Nat → Bool) (HND : Nat → Nat → Option (Nat × Nat)) (f : Nat) : Prop :=
  (chS (DE f) (LK f) (m_P M) (m_R M) THR (LP f) (m_R M f) (RZ f) (HND f) (m_B M f) (j_pad 0 (m_L M f) (j_layT (m_P M f))) [] [] 0).map (fun r => r.2.2) = some (false, [], []) ∧ k_ok (j_pad 0 (m_L M f) (j_layT (m_P M f))) = true ∧ (j_layT (m_P M f)).length ≤ m_L M f
theorem CK.run {f : Nat} (h : CK M DE LK LP THR RZ HND f) : ∃ τ' pc', chS (DE f) (LK f) (m_P M) (m_R M) THR (LP f) (m_R M f) (RZ f) (HND f) (m_B M f) (j_pad 0 (m_L M f) (j_layT (m_P M f))) [] [] 0 = some (τ', pc', false, [], []) := by
  have h1 := h.1
  rw [Option.map_eq_some_iff] at h1
  obtain ⟨⟨τ', pc', z⟩, h2, h3⟩ := h1
  dsimp only at h3
  subst h3
  exact ⟨τ', pc', h2⟩
theorem pad_len {α : Type} {z : α} {n : Nat} {l : List α} (h : l.length ≤ n) : (j_pad z n l).length = n := by
  unfold j_pad
  rw [List.length_append, List.length_replicate]
  omega
theorem evF_some {n f : Nat} {av : List Int} {st st' : XT} {k : Nat} {r : List Int} (h : evF xs L ck K cW M (n + 1) f av st = some (k, r, st')) :
    ∃ en', evS xs L ck (evF xs L ck K cW M n) K cW (m_B M f) (j_pad 0 (m_L M f) (j_lay (m_P M f) av)) st = some (k, r, en', st') ∧ (k = 1 ∨ k = 4) ∧ st.1.2.1 ≤ st'.1.2.1 ∧ st.1.2.2 ≤ st'.1.2.2 ∧ Kp st.1.1 st'.1.1 := by
  obtain ⟨⟨k1, r1, en1, s1⟩, h1, h⟩ := j_bd h
  obtain ⟨⟨g1, g2, g3, g4⟩, h⟩ := j_if h
  cases h
  exact ⟨en1, h1, g1, g2, g3, Kp.of g4⟩
theorem evF_mono : ∀ (n f : Nat) (av : List Int) (st : XT) (k : Nat) (r : List Int) (st' : XT), evF xs L ck K cW M n f av st = some (k, r, st') → st.1.2.1 ≤ st'.1.2.1 ∧ st.1.2.2 ≤ st'.1.2.2 ∧ Kp st.1.1 st'.1.1
  | 0, _, _, _, _, _, _, h => by cases h
  | n + 1, _, _, _, _, _, _, h => by
    obtain ⟨en', -, -, h1, h2, h3⟩ := evF_some h
    exact ⟨h1, h2, h3⟩
theorem XClo.triv {dec : XD} {lk lp : XK} {pk rk : Nat → List Nat} {thr : Nat → Bool} {rt : List Nat} {rz : Bool} {F : XP} {hnd : Nat → Option (Nat × Nat)} (h : ∀ f av st r st', F f av st = some (1, r, st') → r.length = (rk f).length) :
    XClo dec lk lp pk rk thr rt rz xs L ck F cW hnd (fun _ _ => True) (fun _ => True) (fun _ _ _ _ _ => True) := by
  refine ⟨?_, ?_, ?_, ?_, ?_, ?_, ?_, ?_, ?_, ?_, ?_, ?_, ?_, ?_, ?_, ?_, ?_, ?_, ?_, ?_, ?_, ?_, ?_, ?_, ?_, ?_, ?_, ?_, ?_, ?_, ?_, ?_, ?_, ?_, ?_, ?_, ?_, fun f av r st st' q => h f av st r st' q, ?_, ?_, ?_⟩ <;> intros <;> trivial
theorem lay_le : ∀ (pk : List Nat) (av : List Int), (j_lay pk av).length ≤ (j_layT pk).length
  | [], av => by cases av <;> exact Nat.le_refl _
  | k :: pk, [] => Nat.zero_le _
  | k :: pk, v :: av => by
    have h' := lay_le pk av
    by_cases hk : k = 2
    · subst hk
      rw [layT2, lay2]
      simpa using h'
    · rw [layT1 hk, lay1 hk]
      simpa using h'
theorem lg_len {ad : Nat → Nat} : ∀ (pk : List Nat) (av : List Int), av.length = pk.length → (lg_sl ((pk.zip av).map fun q => w_v ad adW aT aS q.1 q.2)).length = (j_layT pk).length
  | [], [], _ => rfl
  | [], _ :: _, h => by cases h
  | k :: pk, [], h => by cases h
  | k :: pk, v :: av, h => by
    have h' := lg_len (ad := ad) pk av (by simpa using h)
    have e : lg_sl (((k :: pk).zip (v :: av)).map fun q => w_v ad adW aT aS q.1 q.2) = (if (w_v ad adW aT aS k v).category = 2 then [.val (w_v ad adW aT aS k v), .second] else [.val (w_v ad adW aT aS k v)]) ++ lg_sl ((pk.zip av).map fun q => w_v ad adW aT aS q.1 q.2) := rfl
    rw [e, List.length_append, h', w_cat]
    unfold k_cat
    by_cases hk : k = 2
    · subst hk
      rw [layT2]
      simp
      omega
    · rw [layT1 hk, if_neg hk]
      simp
      omega
theorem evF_len (hCK : ∀ f, CK M DE LK LP THR RZ HND f ∨ m_B M f = .var 0) : ∀ (n f : Nat) (av : List Int) (st : XT) (r : List Int) (st' : XT), evF xs L ck K cW M n f av st = some (1, r, st') → r.length = (m_R M f).length
  | 0, _, _, _, _, _, h => by cases h
  | n + 1, f, av, st, r, st', h => by
    obtain ⟨en', h1, -⟩ := evF_some h
    rcases hCK f with hc | hc
    · obtain ⟨τ', pc', hc1⟩ := hc.run
      have HC := XClo.triv (dec := DE f) (lk := LK f) (lp := LP f) (pk := m_P M) (rk := m_R M) (thr := THR) (rt := m_R M f) (rz := RZ f) (xs := xs) (L := L) (ck := ck) (cW := cW) (hnd := HND f) (evF_len hCK n)
      have := (snd_S (K := K) HC (m_B M f)).1 _ _ _ _ _ _ _ _ _ _ _ _ _ _ _ hc1 hc.2.1 (by rw [pad_len (Nat.le_trans (lay_le _ _) hc.2.2), pad_len hc.2.2]) h1
      exact this.2.2.2.1 rfl
    · rw [hc] at h1
      cases h1
/-- all that is said of a method that throws nothing -/
def FA (Ts : List Cond) (cl : List vw_C) (ck : Nat → List Nat) (adW : Nat → Nat) (aT : Nat) (Zs : String → String → String → Value → Prop) (Y : Nat → MethodName) (CC : Nat → ByteArray) (RT : Nat → XRt) (M : Nat → XM) (THR RZ : Nat → Bool) (LK LP : Nat → XK) (DE : Nat → XD) (HND : Nat → Nat → Option (Nat × Nat)) (f : Nat) : Prop :=
  MF Ts Y CC (m_L M) RT (m_R M) f ∧ FO Ts cl ck adW aT Zs Y RT (m_P M) (Y f).cls (Y f).name (LK f) (LP f) ∧ DecOk (DE f) (CC f) ∧ RTok (m_R M f) (RZ f) (RT f).1 ∧ plainFor (Y f) = true ∧ CK M DE LK LP THR RZ HND f
theorem meth_ok (hnice : ∀ w ∈ Ts, niceW w = true) (hCF : CF Ts cl ck) (hWi : ∀ i j : Nat, i < 24 → j < 24 → adW i = adW j → i = j) (hTa : ∀ ty, (ty = .int ∨ ty = .long ∨ ty = .byte ∨ ty = .boolean) → Cond.arrayClass ty ∈ Ts)
    (hMF : ∀ f, MF Ts Y CC (m_L M) RT (m_R M) f ∨ THR f = true) (hCK : ∀ f, CK M DE LK LP THR RZ HND f ∨ m_B M f = .var 0) {n f : Nat} (hz : (RT f).2 = []) (hFA : FA Ts cl ck adW aT Zs Y CC RT M THR RZ LK LP DE HND f) (hh : ∀ pc, HND f pc = none)
    (hCT : ∀ g, THR g = false → CTm l Ts D cl cA A adW aT aS ck Zs cW xs L Y CC (m_L M) RT (m_P M) (m_R M) (evF xs L ck K cW M n) n g) : CTm l Ts D cl cA A adW aT aS ck Zs cW xs L Y CC (m_L M) RT (m_P M) (m_R M) (evF xs L ck K cW M (n + 1)) (n + 1) f := by
  intro av st r st' ad hF hok hav hlen
  obtain ⟨en', h1, h2, h3, h4, h5⟩ := evF_some hF
  obtain ⟨hMFf, hFO, hDE, hRT, hpl, hc⟩ := hFA
  obtain ⟨τ', pc', hc1⟩ := hc.run
  rw [cwd_nil hz]
  refine Met_ofF (cc := CC f) (maxL := m_L M f) (ret := (RT f).1) hpl rfl ?_
  intro p e s m args below meth c s₁ B hml hv
  obtain ⟨rfl, w1, w2, w3, w4, w5, w6⟩ := hv
  have hx := B.exec
  have hb := B.bytes
  have hown : s.vm.findClass (Y f).cls = some m.cls := findClass_of_methodNamed B.named
  have hname : meth.name = (Y f).name := (name_of_methodNamed B.named B.method).1
  have hts : ∀ w ∈ Ts, w.before ((((m_P M f).zip av).map fun q => w_v ad adW aT aS q.1 q.2).toArray) s = true := fun w hw => nw_at (hnice w hw) (show s.WarmedH s.vm from State.WarmedH.refl s) (w3 w hw)
  have hR : n + 11 ≤ (headSpec [Cond.code (Y f) (CC f) (m_L M f) (RT f).1] (rm_n (n + 1) (st'.1.2.1 - st.1.2.1) (st'.1.2.2 - st.1.2.2))).room.frames ∧ 60 * n + 360 ≤ (headSpec [Cond.code (Y f) (CC f) (m_L M f) (RT f).1] (rm_n (n + 1) (st'.1.2.1 - st.1.2.1) (st'.1.2.2 - st.1.2.2))).room.locals := by
    show n + 11 ≤ (rm_n (n + 1) _ _).frames ∧ 60 * n + 360 ≤ (rm_n (n + 1) _ _).locals
    rw [rm_f, rm_l]
    exact ⟨by omega, by omega⟩
  have HC := clo (p := p) (l := l) (e := e) (R := (headSpec [Cond.code (Y f) (CC f) (m_L M f) (RT f).1] (rm_n (n + 1) (st'.1.2.1 - st.1.2.1) (st'.1.2.2 - st.1.2.2))).room) (s := s) (m := m) (below := below) (meth := meth) (c := c) (nL := m_L M f) (D := D) (cl := cl) (cA := cA) (A := A) (adW := adW) (aT := aT) (aS := aS) (ck := ck) (c0 := st.1.2.1) (d0 := st.1.2.2) (n0 := st.1.1.length) (ad0 := ad) (dec := DE f) (lk := LK f) (lp := LP f) (Zs := Zs) (cW := cW) (xs := xs) (L := L) (Y := Y) (CC := CC) (ML := m_L M) (RT := RT) (PK := m_P M) (RK := m_R M) (F := evF xs L ck K cW M n) (n := n) (thr := THR) (rt := m_R M f) (rz := RZ f) (hnd := HND f)
    (Q := MQ below (QB D cl cA A adW aT aS ck (m_R M f) r st.1.1.length ad st') ((((m_P M f).zip av).map fun q => w_v ad adW aT aS q.1 q.2).toArray) s (st'.1.2.1 - st.1.2.1) (st'.1.2.2 - st.1.2.2) A)
    (RR := fun v z => v = r ∧ z = st') (XX := fun _ => False) (args := (((m_P M f).zip av).map fun q => w_v ad adW aT aS q.1 q.2).toArray) (own := (Y f).cls) (Ts := Ts) (cc := CC f)
    hx hb hDE hml hown w3 hts hnice hCF w4 w5 w6 hWi hTa (by rw [hname]; exact hFO) hMF hCT hR (evF_mono n) (evF_len hCK n)
    (z_ret hx hb hDE B.returns hRT B.notSynchronized ⟨rfl, rfl⟩) (z_retv hx hb hDE B.returns hRT B.notSynchronized ⟨rfl, rfl⟩) (fun _ _ _ _ _ h => h.elim) (fun pc _ _ _ _ _ _ _ _ _ _ _ _ _ h => by rw [hh pc] at h; cases h) (z_retz hx hb hDE B.returns hRT B.notSynchronized ⟨rfl, rfl⟩)
  have key := (snd_S (K := K) HC (m_B M f)).1 _ _ _ _ _ _ _ _ _ _ _ _ _ _ _ hc1 hc.2.1 (by rw [pad_len (Nat.le_trans (lay_le _ _) hc.2.2), pad_len hc.2.2]) h1
  have J0 := key.2.2.2.2.2 (fun h => by cases h) (fun _ => ⟨rfl, rfl⟩) (fun h => by cases h) (fun h => by cases h) (fun h => by cases h)
  have J1 := jw_ult hx hb hDE J0
  have hτ : (j_pad 0 (m_L M f) (j_layT (m_P M f))).length = m_L M f := pad_len hc.2.2
  have hlo := lv_entry (((m_P M f).zip av).map fun q => w_v ad adW aT aS q.1 q.2) (n := m_L M f) (by rw [lg_len _ _ hlen]; exact hc.2.2)
  have W0 := J1.2 hok (fun q hq => by cases hq) (fun i hi => by rw [pad_getD] at hi ⊢; rw [pad_getD]; exact lay_ok _ _ _ hlen hav hi) ⟨Nat.le_refl _, Nat.le_refl _⟩ (Nat.le_refl _) hτ ad s.heap [] _ w1 ⟨w2, fun _ _ => rfl⟩ va_S.rf (lv_mono hlo (fun q hq => by
    obtain ⟨a1, a2, a3⟩ := w_l_mem.mp hq
    rw [pad_getD] at a2 a3
    rw [pad_getD] at a3
    have := lay_args (ad := ad) (adW := adW) (aT := aT) (aS := aS) (m_P M f) av 0 q.1 hlen a2
    rw [Nat.zero_add, ← a3] at this
    exact this))
  rw [Nat.sub_self, Nat.sub_self] at W0
  rw [lg_entry_eq]
  exact W0
end JWM
end
section
section JWT
variable {p : Program} {l : Launch} {e : Env} {R : Room} {s : State} {m : MethodId} {args : Array Value} {below : List Frame} {meth : Method} {c : Code} {Q : State → Prop}
  {cc : ByteArray} {nL : Nat} {own : String} {Ts : List Cond} {D : va_G} {cl : List vw_C} {cA : Nat → ClassId} {A : Nat → Prop} {adW : Nat → Nat} {aT aS : Nat} {ck : Nat → List Nat} {c0 d0 n0 : Nat} {ad0 : Nat → Nat} {dec : XD} {lk lp : XK} {Zs : String → String → String → Value → Prop} {cW : Nat → Nat → Int} {xs : Nat → Int} {L K : Nat}
  {Y : Nat → MethodName} {CC : Nat → ByteArray} {RT : Nat → XRt} {M : Nat → XM} {THR RZ : Nat → Bool} {LK LP : Nat → XK} {DE : Nat → XD} {HND : Nat → Nat → Option (Nat × Nat)}
theorem w_mono {H : Heap} {locs : List Loc} {cells slots : Nat} {Q1 Q2 : State → Prop} {g : JFrame} (h : ∀ t, Q1 t → Q2 t) (k : W p l e R s m args below meth c H locs cells slots Q1 g) : W p l e R s m args below meth c H locs cells slots Q2 g := fun T hT X => by
  obtain ⟨t, a, b⟩ := k T hT X
  exact ⟨t, a, h t b⟩
theorem jw_Q {Q1 Q2 : State → Prop} (h : ∀ t, Q1 t → Q2 t) {pc : Nat} {τ : List Nat} {en : List Int} {S : List (Nat × Int)} {st : XT} (k : JW p l e R s m args below meth c Q1 nL D cl cA A adW aT aS ck c0 d0 n0 ad0 pc τ en S st) : JW p l e R s m args below meth c Q2 nL D cl cA A adW aT aS ck c0 d0 n0 ad0 pc τ en S st :=
  ⟨k.1, fun h1 h2 h3 h4 h5 h6 ad H locs ls g1 g2 g3 g4 => w_mono h (k.2 h1 h2 h3 h4 h5 h6 ad H locs ls g1 g2 g3 g4)⟩
/-- a contract of a method that may throw -/
def CTx (l : Launch) (Ts : List Cond) (D : va_G) (cl : List vw_C) (cA : Nat → ClassId) (A : Nat → Prop) (adW : Nat → Nat) (aT aS : Nat) (ck : Nat → List Nat) (Zs : String → String → String → Value → Prop) (cW : Nat → Nat → Int) (xs : Nat → Int) (L : Nat) (Y : Nat → MethodName) (CC : Nat → ByteArray) (ML : Nat → Nat) (RT : Nat → XRt) (PK RK : Nat → List Nat) (F : XP) (n f : Nat) : Prop :=
  ∀ av st k r st' ad, F f av st = some (k, r, st') → OkS ck st → (∀ q ∈ (PK f).zip av, OkV st.1.1 q.1 q.2) → av.length = (PK f).length →
    vx_Met l (Y f) [cwd (Y f) (CC f) (ML f) (RT f)] (rm_n n (st'.1.2.1 - st.1.2.1) (st'.1.2.2 - st.1.2.2)) (va_Pc (((PK f).zip av).map fun q => w_v ad adW aT aS q.1 q.2) (WB Ts D cl cA A adW aT aS Zs cW xs L st ad)) (fun a s0 o t => k = 1 ∧ QB D cl cA A adW aT aS ck (RK f) r st.1.1.length ad st' a s0 o t) (fun E s0 t => k = 4 ∧ QX D cl cA A ck st.1.1.length ad st' E s0 t) (st'.1.2.1 - st.1.2.1) (st'.1.2.2 - st.1.2.2) A
theorem methx_ok (hl : l.stackTraces = false) (hnice : ∀ w ∈ Ts, niceW w = true) (hCF : CF Ts cl ck) (hWi : ∀ i j : Nat, i < 24 → j < 24 → adW i = adW j → i = j) (hTa : ∀ ty, (ty = .int ∨ ty = .long ∨ ty = .byte ∨ ty = .boolean) → Cond.arrayClass ty ∈ Ts)
    (hMF : ∀ f, MF Ts Y CC (m_L M) RT (m_R M) f ∨ THR f = true) (hCK : ∀ f, CK M DE LK LP THR RZ HND f ∨ m_B M f = .var 0) {n f : Nat} (hz : (RT f).2 = []) (hFA : FA Ts cl ck adW aT Zs Y CC RT M THR RZ LK LP DE HND f) (hLT : LT Ts (Y f).cls (LK f)) (hh : ∀ pc, HND f pc = none)
    (hCT : ∀ g, THR g = false → CTm l Ts D cl cA A adW aT aS ck Zs cW xs L Y CC (m_L M) RT (m_P M) (m_R M) (evF xs L ck K cW M n) n g) : CTx l Ts D cl cA A adW aT aS ck Zs cW xs L Y CC (m_L M) RT (m_P M) (m_R M) (evF xs L ck K cW M (n + 1)) (n + 1) f := by
  intro av st k r st' ad hF hok hav hlen
  obtain ⟨en', h1, h2, h3, h4, h5⟩ := evF_some hF
  obtain ⟨hMFf, hFO, hDE, hRT, hpl, hc⟩ := hFA
  obtain ⟨τ', pc', hc1⟩ := hc.run
  rw [cwd_nil hz]
  refine vx_ofW (cc := CC f) (maxL := m_L M f) (ret := (RT f).1) hpl rfl ?_
  intro p e s m args below meth c s₁ B hml hexc hv
  obtain ⟨rfl, w1, w2, w3, w4, w5, w6⟩ := hv
  have hx := B.exec
  have hb := B.bytes
  have hown : s.vm.findClass (Y f).cls = some m.cls := findClass_of_methodNamed B.named
  have hname : meth.name = (Y f).name := (name_of_methodNamed B.named B.method).1
  have hts : ∀ w ∈ Ts, w.before ((((m_P M f).zip av).map fun q => w_v ad adW aT aS q.1 q.2).toArray) s = true := fun w hw => nw_at (hnice w hw) (show s.WarmedH s.vm from State.WarmedH.refl s) (w3 w hw)
  have hR : n + 11 ≤ (headSpec [Cond.code (Y f) (CC f) (m_L M f) (RT f).1] (rm_n (n + 1) (st'.1.2.1 - st.1.2.1) (st'.1.2.2 - st.1.2.2))).room.frames ∧ 60 * n + 360 ≤ (headSpec [Cond.code (Y f) (CC f) (m_L M f) (RT f).1] (rm_n (n + 1) (st'.1.2.1 - st.1.2.1) (st'.1.2.2 - st.1.2.2))).room.locals := by
    show n + 11 ≤ (rm_n (n + 1) _ _).frames ∧ 60 * n + 360 ≤ (rm_n (n + 1) _ _).locals
    rw [rm_f, rm_l]
    exact ⟨by omega, by omega⟩
  have toX : k = 1 → ∀ t, MQ below (QB D cl cA A adW aT aS ck (m_R M f) r st.1.1.length ad st') ((((m_P M f).zip av).map fun q => w_v ad adW aT aS q.1 q.2).toArray) s (st'.1.2.1 - st.1.2.1) (st'.1.2.2 - st.1.2.2) A t → vx_MQ below (fun a s0 o t => k = 1 ∧ QB D cl cA A adW aT aS ck (m_R M f) r st.1.1.length ad st' a s0 o t) (fun E s0 t => k = 4 ∧ QX D cl cA A ck st.1.1.length ad st' E s0 t) ((((m_P M f).zip av).map fun q => w_v ad adW aT aS q.1 q.2).toArray) s (st'.1.2.1 - st.1.2.1) (st'.1.2.2 - st.1.2.2) A t := by
    rintro hk t ⟨o, b1, b2, b3, b4⟩
    exact ⟨o, b1, b2, Or.inl ⟨⟨hk, b3⟩, b4⟩⟩
  have HC := clo (p := p) (l := l) (e := e) (R := (headSpec [Cond.code (Y f) (CC f) (m_L M f) (RT f).1] (rm_n (n + 1) (st'.1.2.1 - st.1.2.1) (st'.1.2.2 - st.1.2.2))).room) (s := s) (m := m) (below := below) (meth := meth) (c := c) (nL := m_L M f) (D := D) (cl := cl) (cA := cA) (A := A) (adW := adW) (aT := aT) (aS := aS) (ck := ck) (c0 := st.1.2.1) (d0 := st.1.2.2) (n0 := st.1.1.length) (ad0 := ad) (dec := DE f) (lk := LK f) (lp := LP f) (Zs := Zs) (cW := cW) (xs := xs) (L := L) (Y := Y) (CC := CC) (ML := m_L M) (RT := RT) (PK := m_P M) (RK := m_R M) (F := evF xs L ck K cW M n) (n := n) (thr := THR) (rt := m_R M f) (rz := RZ f) (hnd := HND f)
    (Q := vx_MQ below (fun a s0 o t => k = 1 ∧ QB D cl cA A adW aT aS ck (m_R M f) r st.1.1.length ad st' a s0 o t) (fun E s0 t => k = 4 ∧ QX D cl cA A ck st.1.1.length ad st' E s0 t) ((((m_P M f).zip av).map fun q => w_v ad adW aT aS q.1 q.2).toArray) s (st'.1.2.1 - st.1.2.1) (st'.1.2.2 - st.1.2.2) A)
    (RR := fun v z => k = 1 ∧ v = r ∧ z = st') (XX := fun z => k = 4 ∧ z = st') (args := (((m_P M f).zip av).map fun q => w_v ad adW aT aS q.1 q.2).toArray) (own := (Y f).cls) (Ts := Ts) (cc := CC f)
    hx hb hDE hml hown w3 hts hnice hCF w4 w5 w6 hWi hTa (by rw [hname]; exact hFO) hMF hCT hR (evF_mono n) (evF_len hCK n)
    (fun pc kd v τ en z a1 a2 a3 a4 a5 => jw_Q (toX a5.1) (z_ret hx hb hDE B.returns hRT B.notSynchronized ⟨rfl, rfl⟩ pc kd v τ en z a1 a2 a3 a4 a5.2)) (fun pc τ en z a1 a2 a5 => jw_Q (toX a5.1) (z_retv hx hb hDE B.returns hRT B.notSynchronized ⟨rfl, rfl⟩ pc τ en z a1 a2 a5.2))
    (fun pc τ en z a1 a2 => z_throw (fun E s0 t q => ⟨a2.1, q⟩) hx hb hDE hml hl hown hts hLT w5 B.notSynchronized hexc ⟨rfl, rfl, by show 10 ≤ (rm_n (n + 1) _ _).frames; rw [rm_f]; omega, by show 120 ≤ (rm_n (n + 1) _ _).locals; rw [rm_l]; omega⟩ pc τ en z a1 a2.2)
    (fun pc _ _ _ _ _ _ _ _ _ _ _ _ _ h => by rw [hh pc] at h; cases h) (fun pc v τ en z a1 a2 a3 a4 a5 => jw_Q (toX a5.1) (z_retz hx hb hDE B.returns hRT B.notSynchronized ⟨rfl, rfl⟩ pc v τ en z a1 a2 a3 a4 a5.2))
  have key := (snd_S (K := K) HC (m_B M f)).1 _ _ _ _ _ _ _ _ _ _ _ _ _ _ _ hc1 hc.2.1 (by rw [pad_len (Nat.le_trans (lay_le _ _) hc.2.2), pad_len hc.2.2]) h1
  have J0 := key.2.2.2.2.2 (fun h => by rcases h2 with q | q <;> rw [q] at h <;> cases h) (fun h => ⟨h, rfl, rfl⟩) (fun h => by rcases h2 with q | q <;> rw [q] at h <;> cases h) (fun h => by rcases h2 with q | q <;> rw [q] at h <;> cases h) (fun h => ⟨h, rfl⟩)
  have J1 := jw_ult hx hb hDE J0
  have hτ : (j_pad 0 (m_L M f) (j_layT (m_P M f))).length = m_L M f := pad_len hc.2.2
  have hlo := lv_entry (((m_P M f).zip av).map fun q => w_v ad adW aT aS q.1 q.2) (n := m_L M f) (by rw [lg_len _ _ hlen]; exact hc.2.2)
  have W0 := J1.2 hok (fun q hq => by cases hq) (fun i hi => by rw [pad_getD] at hi ⊢; rw [pad_getD]; exact lay_ok _ _ _ hlen hav hi) ⟨Nat.le_refl _, Nat.le_refl _⟩ (Nat.le_refl _) hτ ad s.heap [] _ w1 ⟨w2, fun _ _ => rfl⟩ va_S.rf (lv_mono hlo (fun q hq => by
    obtain ⟨a1, a2, a3⟩ := w_l_mem.mp hq
    rw [pad_getD] at a2 a3
    rw [pad_getD] at a3
    have := lay_args (ad := ad) (adW := adW) (aT := aT) (aS := aS) (m_P M f) av 0 q.1 hlen a2
    rw [Nat.zero_add, ← a3] at this
    exact this))
  rw [Nat.sub_self, Nat.sub_self] at W0
  rw [lg_entry_eq]
  exact W0
end JWT
end
section
section JWH
variable {p : Program} {l : Launch} {e : Env} {R : Room} {s : State} {m : MethodId} {args : Array Value} {below : List Frame} {meth : Method} {c : Code} {Q : State → Prop}
  {cc : ByteArray} {nL : Nat} {own : String} {Ts : List Cond} {D : va_G} {cl : List vw_C} {cA : Nat → ClassId} {A : Nat → Prop} {adW : Nat → Nat} {aT aS : Nat} {ck : Nat → List Nat} {c0 d0 n0 : Nat} {ad0 : Nat → Nat} {dec : XD} {lk lp : XK} {Zs : String → String → String → Value → Prop} {cW : Nat → Nat → Int} {xs : Nat → Int} {L K : Nat}
  {Y : Nat → MethodName} {CC : Nat → ByteArray} {ML : Nat → Nat} {RT : Nat → XRt} {M : Nat → XM} {PK RK : Nat → List Nat} {F : XP} {n : Nat} {thr : Nat → Bool} {THR RZ : Nat → Bool} {LK LP : Nat → XK} {DE : Nat → XD} {HND : Nat → Nat → Option (Nat × Nat)} {HH : Nat → List (Nat × Nat × Nat × Nat)}
/-- what the tables say of a handler: one entry, of the one class that is thrown -/
def HX (Ts : List Cond) (own : String) (dec : XD) (hh : List (Nat × Nat × Nat × Nat)) (hnd : Nat → Option (Nat × Nat)) : Prop := ∀ pc q k, hnd pc = some (q, k) → ∃ x : ExceptionTableEntry, tableOf hh = [x] ∧ covers x pc = true ∧ x.catchType ≠ 0 ∧ Cond.classLink own x.catchType nsee ∈ Ts ∧ Cond.castable nsee nsee ∈ Ts ∧ c_ins dec x.handlerPc a_store = some ((3, k), q)
theorem z_callx (hx : p.tables.exec = Jvm.exec) (hb : c.code = cc) (hdec : DecOk dec cc) (hml : c.maxLocals = nL) (hown : s.vm.findClass own = some m.cls) (hw0 : ∀ w ∈ Ts, w.before #[] s = true) (hts : ∀ w ∈ Ts, w.before args s = true) (hnice : ∀ w ∈ Ts, niceW w = true) (hK : va_K D cl (w_tys cA) s) (hSF : SF Zs adW aT aS cW xs L A s s.heap) (hA : ∀ q, s.heap.size ≤ q → A q)
    (hMFx : ∀ f, thr f = true → MF Ts Y CC ML RT RK f ∨ ∀ av st, F f av st = none) (hLC : ∀ i f how z, lk i = some (6, f, how, z) → LC Ts cl own Y RT PK i f how) (hvirt : ∀ i f how z, lk i = some (6, f, how, z) → thr f = true → how = 0) (hCT : ∀ f, thr f = true → CTx l Ts D cl cA A adW aT aS ck Zs cW xs L Y CC ML RT PK RK F n f) (hR : n + 11 ≤ R.frames ∧ 60 * n + 360 ≤ R.locals)
    (hFm : ∀ f av (st : XT) c r (st' : XT), F f av st = some (c, r, st') → st.1.2.1 ≤ st'.1.2.1 ∧ st.1.2.2 ≤ st'.1.2.2 ∧ Kp st.1.1 st'.1.1) (hFl : ∀ f av st r st', F f av st = some (1, r, st') → r.length = (RK f).length)
    {hh : List (Nat × Nat × Nat × Nat)} {hnd : Nat → Option (Nat × Nat)} (htab : c.exceptionTable.toList = tableOf hh) (hHX : HX Ts own dec hh hnd) :
    ∀ pc f av r τ en S st k st' q kk, c_ins dec pc (a_call lk) = some (f, pc + 3) → thr f = true → hnd pc = some (q, kk) → τ.getD kk 0 = 0 → k_fit τ kk 3 = true → F f av st = some (k, r, st') → av.length = (PK f).length → k_cats (S.map (·.1)) ≤ 8 → (k = 1 → JW p l e R s m args below meth c Q nL D cl cA A adW aT aS ck c0 d0 n0 ad0 (j_ult dec (pc + 3)) τ en (((RK f).zip r).reverse ++ S) st') → (k = 4 → JW p l e R s m args below meth c Q nL D cl cA A adW aT aS ck c0 d0 n0 ad0 (j_ult dec q) τ en [] st') → (k = 1 ∨ k = 4) → JW p l e R s m args below meth c Q nL D cl cA A adW aT aS ck c0 d0 n0 ad0 (j_ult dec pc) τ en (((PK f).zip av).reverse ++ S) st := by
  intro pc f av r τ en S st k st' q kk h hthr hhnd hτk hfit hF hlen hcat kk1 kk4 hk14
  obtain ⟨ii, hd, hf⟩ := c_ins1 h
  obtain ⟨hdc, hln⟩ := hdec _ _ _ hd
  have hu := ult_ins hd (ng hf (fun _ => rfl))
  rw [hu]
  have k1 := fun h => jw_ult hx hb hdec (kk1 h)
  have k4 := fun h => jw_ult hx hb hdec (kk4 h)
  obtain ⟨m1, m2, m3⟩ := hFm _ _ _ _ _ _ hF
  have hlim : st'.1.2.1 ≤ c0 + R.cells ∧ st'.1.2.2 ≤ d0 + R.slots := by
    rcases hk14 with h | h
    · exact (k1 h).1
    · exact (k4 h).1
  refine ⟨⟨Nat.le_trans m1 hlim.1, Nat.le_trans m2 hlim.2⟩, fun hok hS hL h4 h5 h6 ad H locs ls g1 g2 g3 g4 => ?_⟩
  have hSa : ∀ q ∈ (PK f).zip av, OkV st.1.1 q.1 q.2 := fun q hq => hS q (List.mem_append_left _ (List.mem_reverse.mpr hq))
  have hSr : ∀ q ∈ S, OkV st.1.1 q.1 q.2 := fun q hq => hS q (List.mem_append_right _ hq)
  have hM := hCT f hthr av st k r st' ad hF hok hSa hlen
  obtain ⟨f1, f2, f3, f4, f5⟩ : MF Ts Y CC ML RT RK f := by
    rcases hMFx f hthr with h | h
    · exact h
    · rw [h] at hF
      cases hF
  have hG : GoodIn Ts [cwd (Y f) (CC f) (ML f) (RT f)] := fun w hw => by
    rw [List.mem_singleton.mp hw]
    refine ⟨f1, ?_⟩
    unfold cwd
    split <;> exact Or.inl rfl
  have hB : ∀ U : State, U.heap = H → s.WarmedH U.vm → WB Ts D cl cA A adW aT aS Zs cW xs L st ad U := fun U hU hW => by
    refine ⟨by rw [hU]; exact g1, g2.1, fun w hw => nw_at (hnice w hw) hW (hw0 w hw), va_K.moved hW.alike hK, ?_, fun q hq => hA q (Nat.le_trans g3.1 (by rw [← hU]; exact hq))⟩
    rw [hU]
    exact SF.moved hW.alike (hSF.kept g3.1 g3.2.1)
  have hbl : FrameBlind (va_Pc (((PK f).zip av).map fun q => w_v ad adW aT aS q.1 q.2) (WB Ts D cl cA A adW aT aS Zs cW xs L st ad)) := WB.blind hnice
  have hRr := rm_ok (a := st'.1.2.1 - st.1.2.1) (b := st'.1.2.2 - st.1.2.2) hR.1 hR.2 f4
  have hlim1 := hlim.1
  have hlim2 := hlim.2
  have hc0 := h4.1
  have hcs : st.1.2.1 - c0 + (st'.1.2.1 - st.1.2.1) ≤ R.cells ∧ st.1.2.2 - d0 + (st'.1.2.2 - st.1.2.2) ≤ R.slots := by omega
  have hroom : 2 * (F0 m pc ls ((((PK f).zip av).reverse ++ S).map fun q => w_v ad adW aT aS q.1 q.2)).monitorRoom + ((S.map fun q => w_v ad adW aT aS q.1 q.2).map fun v => v.category).sum ≤ 8 := by
    rw [cats_map]
    show 2 * 0 + _ ≤ 8
    omega
  have e1 : st'.1.2.1 - c0 = st.1.2.1 - c0 + (st'.1.2.1 - st.1.2.1) := by omega
  have e2 : st'.1.2.2 - d0 = st.1.2.2 - d0 + (st'.1.2.2 - st.1.2.2) := by omega
  have hfix : CallFix p m c cc nL s args Ts own := ⟨hx, hb, hml, hown, hts⟩
  have hini := hts _ f2
  -- what goes on behind the call, thrown or not
  have goOn : ∀ a, vx_Run p l e R s m args below meth c H locs (st.1.2.1 - c0) (st.1.2.2 - d0) (st'.1.2.1 - st.1.2.1) (st'.1.2.2 - st.1.2.2) (F0 m pc ls ((((PK f).zip av).reverse ++ S).map fun q => w_v ad adW aT aS q.1 q.2)) (S.map fun q => w_v ad adW aT aS q.1 q.2) (fun s0 o t => k = 1 ∧ QB D cl cA A adW aT aS ck (RK f) r st.1.1.length ad st' a s0 o t) (fun E s0 t => k = 4 ∧ QX D cl cA A ck st.1.1.length ad st' E s0 t) A →
      W p l e R s m args below meth c H locs (st.1.2.1 - c0) (st.1.2.2 - d0) Q (F0 m pc ls ((((PK f).zip av).reverse ++ S).map fun q => w_v ad adW aT aS q.1 q.2)) := by
    intro a hr T hT X
    rcases hr T hT X with ⟨v, st₀, t, T', LL, h0, X', hLL, q1, q2, ⟨hk, ad', b2, b3, b4, b5, b6, b7, hz, hkp⟩, stp⟩ | ⟨q9, st₀, t, T', LL, E, ce, h0, X', hLL, q1, q2, ⟨hk, rfl, ad', b2, b4, b6, b7, hz, hkp⟩, hce, hcv, hcc, stp⟩
    · rw [h0] at hz hkp
      have hv : v = w_ret ad' adW aT aS (RK f) r := by
        injection b3
      subst hv
      have hS' : ∀ q ∈ ((RK f).zip r).reverse ++ S, OkV st'.1.1 q.1 q.2 := fun q hq => by
        rcases List.mem_append.mp hq with hq | hq
        · exact b5 q (List.mem_reverse.mp hq)
        · exact m3.V (hSr q hq)
      have K := (k1 hk).2 b4 hS' (fun i hi => m3.V (hL i hi)) ⟨by omega, Nat.le_trans h4.2 m3.1⟩ (by omega) h6 ad' T'.heap (locs ++ LL) ls (by rw [q1]; exact b6) ⟨b7, fun k hk => (b2 k (Nat.lt_of_lt_of_le hk h4.2)).trans (g2.2 k hk)⟩ ⟨Nat.le_trans g3.1 (by rw [q1]; exact hz), fun q h1 h2 => by rw [q1, hkp q (Nat.lt_of_lt_of_le h1 g3.1) h2]; exact g3.2.1 q h1 h2, fun q hq => by
        rcases List.mem_append.mp hq with h | h
        · exact g3.2.2 q h
        · exact hLL q h⟩ (lv_mono g4 (w_l_ad hL b2))
      subst hk
      rw [zip_map_cons (hFl _ _ _ _ _ hF) f5, w_S_ad hSr b2, e1, e2] at K
      obtain ⟨t2, c1, c2⟩ := K T' rfl X'
      exact ⟨t2, stp t2 c1, c2⟩
    · rw [h0] at hz hkp
      obtain ⟨x, x1, x2, x3, x4, x5, x6⟩ := hHX _ _ _ hhnd
      obtain ⟨i9, n9, hd9, hf9, hq9⟩ := c_ins_spec x6
      obtain ⟨hdc9, hln9⟩ := hdec _ _ _ hd9
      obtain ⟨fi1, fi2, fi3, fi4, fi5⟩ := k_fit_spec hfit
      have hS4 : va_S A s.heap T'.heap (locs ++ LL) := ⟨Nat.le_trans g3.1 (by rw [q1]; exact hz), fun q h1 h2 => by rw [q1, hkp q (Nat.lt_of_lt_of_le h1 g3.1) h2]; exact g3.2.1 q h1 h2, fun q hq => by
        rcases List.mem_append.mp hq with h | h
        · exact g3.2.2 q h
        · exact hLL q h⟩
      have K := fun ls' h' => (k4 hk).2 b4 (fun q hq => by cases hq) (fun i hi => m3.V (hL i hi)) ⟨by omega, Nat.le_trans h4.2 m3.1⟩ (by omega) h6 ad' T'.heap (locs ++ LL) ls' (by rw [q1]; exact b6) ⟨b7, fun k hk => (b2 k (Nat.lt_of_lt_of_le hk h4.2)).trans (g2.2 k hk)⟩ hS4 h'
      rw [e1, e2] at K
      have hsub : ∀ y ∈ w_l ad' adW aT aS τ en, y ∈ (kk, Value.ref q9) :: (w_l ad adW aT aS τ en).filter (fun q => !(q.1 == kk) && !(q.1 + 1 == kk && q.2.category == 2)) := by
        intro y hy
        have hy2 := w_l_ad hL b2 y hy
        obtain ⟨y1, y2, y3⟩ := w_l_mem.mp hy2
        refine List.mem_cons_of_mem _ (List.mem_filter.mpr ⟨hy2, ?_⟩)
        simp only [Bool.and_eq_true, Bool.not_eq_true', beq_eq_false_iff_ne, ne_eq, Bool.and_eq_false_iff]
        refine ⟨fun e => y2 (by rw [e]; exact hτk), ?_⟩
        by_cases e2 : y.1 + 1 = kk
        · right
          rw [y3, w_cat]
          rcases fi4 with fi4 | fi4
          · omega
          · have : kk - 1 = y.1 := by omega
            rw [this] at fi4
            unfold k_cat
            rw [if_neg fi4]
            decide
        · exact Or.inl e2
      have W9 : W p l e R s m args below meth c T'.heap (locs ++ LL) (st.1.2.1 - c0 + (st'.1.2.1 - st.1.2.1)) (st.1.2.2 - d0 + (st'.1.2.2 - st.1.2.2)) Q (F0 m x.handlerPc ls [.ref q9]) := by
        have hkl : kk < nL := by omega
        unfold a_store at hf9
        split at hf9 <;> first | (cases hf9; done) | skip
        all_goals cases hf9
        · have : n9 = 2 := hln9 (by simp [a_len])
          subst this
          rw [hq9] at K
          exact lv_astore hx hb hdc9 g4 hkl rfl (fun ls' h' => K ls' (lv_mono h' hsub))
        · have : n9 = 1 := hln9 (by simp [a_len])
          subst this
          rw [hq9] at K
          exact lv_astore_n hx hb hdc9 rfl g4 hkl rfl (fun ls' h' => K ls' (lv_mono h' hsub))
      have W8 := vx_catch (p := p) (l := l) (e := e) (R := R) (s := s) (m := m) (args := args) (below := below) (meth := meth) (c := c) (Q := Q) (pc := pc) (rest := S.map fun q => w_v ad adW aT aS q.1 q.2) hown [] x [] (by rw [htab, x1]; rfl) (fun z hz => by cases hz) x2 x3 (hts _ x4) (hts _ x5) (by rw [q1]; exact hce) hcv hcc W9
      obtain ⟨t2, c1, c2⟩ := W8 T' rfl X'
      exact ⟨t2, stp.trans c1, c2⟩
  unfold a_call at hf
  split at hf
  · split at hf
    · rename_i i f' z hl
      cases hf
      obtain ⟨p0, p1, p2, p3, p4, ci, T, N, ks, p5, p6⟩ := hLC _ _ _ _ hl
      rw [cwd_nil p0] at hM hG
      obtain ⟨o, vs, rfl⟩ : ∃ o vs, av = o :: vs := by
        cases av with
        | nil => rw [p5] at hlen; cases hlen
        | cons o vs => exact ⟨o, vs, rfl⟩
      rw [p5] at hM hSa hlen p1 hroom goOn ⊢
      rw [p5] at hbl
      have ho := hSa (10 + ci, o) List.mem_cons_self
      obtain ⟨q, w1, w2, w3, w4⟩ := obj_at (cA := cA) (ad := ad) hok ho
      have href : w_v ad adW aT aS (10 + ci) o = .ref (ad o.toNat) := w_v_ref (by omega)
      have hlv : (((ks.zip vs).map fun q => w_v ad adW aT aS q.1 q.2)).length = ks.length := by
        simp at hlen
        simp [hlen]
      have e7 : (Value.ref (ad o.toNat) :: (ks.zip vs).map fun q => w_v ad adW aT aS q.1 q.2).toArray = (((10 + ci) :: ks).zip (o :: vs) |>.map fun q => w_v ad adW aT aS q.1 q.2).toArray := by
        show _ = (List.map _ ((10 + ci, o) :: ks.zip vs)).toArray
        rw [List.map_cons, href]
      have e8 : (F0 m pc ls (((((10 + ci) :: ks).zip (o :: vs)).reverse ++ S).map fun q => w_v ad adW aT aS q.1 q.2)).stack = ((ks.zip vs).map fun q => w_v ad adW aT aS q.1 q.2).reverse ++ .ref (ad o.toNat) :: (S.map fun q => w_v ad adW aT aS q.1 q.2) := by
        show List.map _ (((10 + ci, o) :: ks.zip vs).reverse ++ S) = _
        rw [List.map_append, List.reverse_cons, List.map_append, List.map_reverse, List.append_assoc]
        show _ ++ ([w_v ad adW aT aS (10 + ci) o] ++ _) = _
        rw [href]
        rfl
      have hpv : PreV s H (Y f).cls (ad o.toNat) (va_Pc ((((10 + ci) :: ks).zip (o :: vs)).map fun q => w_v ad adW aT aS q.1 q.2) (WB Ts D cl cA A adW aT aS Zs cW xs L st ad)) ((ks.zip vs).map fun q => w_v ad adW aT aS q.1 q.2) := ⟨hbl, va_recv hK g1 p6 w4, fun U hU hW => ⟨e7, hB U hU hW⟩⟩
      have hr := vx_runV (g := F0 m pc ls (((((10 + ci) :: ks).zip (o :: vs)).reverse ++ S).map fun q => w_v ad adW aT aS q.1 q.2)) (H := H) (As := (ks.zip vs).map fun q => w_v ad adW aT aS q.1 q.2) (b := ad o.toNat) (C := (Y f).cls) (rest := S.map fun q => w_v ad adW aT aS q.1 q.2) (p := p) (l := l) (e := e) (R := R) (s := s) (m := m) (args := args) (below := below) (meth := meth) (c := c) (locs := locs) (cells := st.1.2.1 - c0) (slots := st.1.2.2 - d0) hfix hM ⟨callB_of ks.length hts hG rfl rfl rfl hini (hts _ p2) ⟨f3.1, f3.2, p1⟩ hRr, hts _ p3, hts _ p4⟩ hpv rfl hlv g4.1 e8 hroom hdc hcs
      exact goOn _ hr
    · cases hf
  · split at hf
    · rename_i i f' z hl
      cases hf
      have := hvirt _ _ _ _ hl hthr
      cases this
    · cases hf
  · split at hf
    · rename_i i f' z hl
      cases hf
      have := hvirt _ _ _ _ hl hthr
      cases this
    · cases hf
  · cases hf
end JWH
end
section
section JWU
variable {l : Launch} 
  {cc : ByteArray} {nL : Nat} {own : String} {Ts : List Cond} {D : va_G} {cl : List vw_C} {cA : Nat → ClassId} {A : Nat → Prop} {adW : Nat → Nat} {aT aS : Nat} {ck : Nat → List Nat} {c0 d0 n0 : Nat} {ad0 : Nat → Nat} {dec : XD} {lk lp : XK} {Zs : String → String → String → Value → Prop} {cW : Nat → Nat → Int} {xs : Nat → Int} {L K : Nat}
  {Y : Nat → MethodName} {CC : Nat → ByteArray} {RT : Nat → XRt} {M : Nat → XM} {THR RZ : Nat → Bool} {LK LP : Nat → XK} {DE : Nat → XD} {HND : Nat → Nat → Option (Nat × Nat)}
theorem evF_non {f : Nat} (h : m_B M f = .var 0) : ∀ {n : Nat} {av : List Int} {st : XT}, evF xs L ck K cW M n f av st = none
  | 0, _, _ => rfl
  | n + 1, av, st => by
    cases hE : evF xs L ck K cW M (n + 1) f av st with
    | none => rfl
    | some q =>
      obtain ⟨k, r, st'⟩ := q
      obtain ⟨en', h1, -⟩ := evF_some hE
      rw [h] at h1
      cases h1
theorem Met_ofWH {y : MethodName} {ws ws' : List Cond} {rm : Room} {Pc : Array Value → State → Prop} {Qc : Array Value → State → Outcome → State → Prop} {mc ms : Nat} {free : Addr → Prop} {cc : ByteArray} {maxL : Nat} {ret : Option FieldType} {hh : List (Nat × Nat × Nat × Nat)}
    (hy : plainFor y = true) (hw : ws = Cond.codeWith y cc maxL ret hh :: ws')
    (body : ∀ p e s m args below meth c s₁, BodyLoose p l y (headSpec ws rm) cc maxL ret e s m args below meth c s₁ → c.maxLocals = maxL → Pc args s →
      W p l e (headSpec ws rm).room s m args below meth c s.heap [] 0 0 (MQ below Qc args s mc ms free) (entryFrame m args maxL)) : Met l y ws rm Pc Qc mc ms free := by
  refine MetFree.of_bodySF (code := cc) (maxLocals := maxL) (ret := ret) hy ?_ ?_
  · intro args s m h hn
    obtain ⟨m9, meth, c, hn9, h1, h2, h3, h4, -, h5, h6, -⟩ := Cond.codeWith_spec (atoms_spec (ws := ws) h _ (by rw [hw]; exact List.mem_cons_self))
    cases hn.symm.trans hn9
    exact ⟨meth, c, h1, h2, h3, h4, h5, h6⟩
  · intro p e s m args below meth c s₁ B hml hP _
    have hh0 : s₁.heap = s.heap := by rw [B.state]; rfl
    obtain ⟨t, a1, o, b1, b2, b3⟩ := body p e s m args below meth c s₁ B hml hP s₁ hh0 (Stand.of_body B)
    exact ⟨t, o, a1, b1, b2, ⟨b3.1, b3.2⟩⟩
theorem methh_ok (hnice : ∀ w ∈ Ts, niceW w = true) (hCF : CF Ts cl ck) (hWi : ∀ i j : Nat, i < 24 → j < 24 → adW i = adW j → i = j) (hTa : ∀ ty, (ty = .int ∨ ty = .long ∨ ty = .byte ∨ ty = .boolean) → Cond.arrayClass ty ∈ Ts)
    (hMF : ∀ f, MF Ts Y CC (m_L M) RT (m_R M) f ∨ THR f = true) (hCK : ∀ f, CK M DE LK LP THR RZ HND f ∨ m_B M f = .var 0) {n f : Nat} (hz : (RT f).2 ≠ []) (hFA : FA Ts cl ck adW aT Zs Y CC RT M THR RZ LK LP DE HND f) (hHX : HX Ts (Y f).cls (DE f) (RT f).2 (HND f)) (hMFx : ∀ g, THR g = true → MF Ts Y CC (m_L M) RT (m_R M) g ∨ m_B M g = .var 0) (hvirt : ∀ i g how z, LK f i = some (6, g, how, z) → THR g = true → how = 0) (hCX : ∀ g, THR g = true → CTx l Ts D cl cA A adW aT aS ck Zs cW xs L Y CC (m_L M) RT (m_P M) (m_R M) (evF xs L ck K cW M n) n g)
    (hCT : ∀ g, THR g = false → CTm l Ts D cl cA A adW aT aS ck Zs cW xs L Y CC (m_L M) RT (m_P M) (m_R M) (evF xs L ck K cW M n) n g) : CTm l Ts D cl cA A adW aT aS ck Zs cW xs L Y CC (m_L M) RT (m_P M) (m_R M) (evF xs L ck K cW M (n + 1)) (n + 1) f := by
  intro av st r st' ad hF hok hav hlen
  obtain ⟨en', h1, h2, h3, h4, h5⟩ := evF_some hF
  obtain ⟨hMFf, hFO, hDE, hRT, hpl, hc⟩ := hFA
  obtain ⟨τ', pc', hc1⟩ := hc.run
  rw [cwd_cons hz]
  refine Met_ofWH (cc := CC f) (maxL := m_L M f) (ret := (RT f).1) (hh := (RT f).2) hpl rfl ?_
  intro p e s m args below meth c s₁ B hml hv
  obtain ⟨rfl, w1, w2, w3, w4, w5, w6⟩ := hv
  have hx := B.exec
  have hb := B.bytes
  have hown : s.vm.findClass (Y f).cls = some m.cls := findClass_of_methodNamed B.named
  have hname : meth.name = (Y f).name := (name_of_methodNamed B.named B.method).1
  have hts : ∀ w ∈ Ts, w.before ((((m_P M f).zip av).map fun q => w_v ad adW aT aS q.1 q.2).toArray) s = true := fun w hw => nw_at (hnice w hw) (show s.WarmedH s.vm from State.WarmedH.refl s) (w3 w hw)
  have hR : n + 11 ≤ (headSpec [Cond.codeWith (Y f) (CC f) (m_L M f) (RT f).1 (RT f).2] (rm_n (n + 1) (st'.1.2.1 - st.1.2.1) (st'.1.2.2 - st.1.2.2))).room.frames ∧ 60 * n + 360 ≤ (headSpec [Cond.codeWith (Y f) (CC f) (m_L M f) (RT f).1 (RT f).2] (rm_n (n + 1) (st'.1.2.1 - st.1.2.1) (st'.1.2.2 - st.1.2.2))).room.locals := by
    show n + 11 ≤ (rm_n (n + 1) _ _).frames ∧ 60 * n + 360 ≤ (rm_n (n + 1) _ _).locals
    rw [rm_f, rm_l]
    exact ⟨by omega, by omega⟩
  have hMFz : ∀ g, THR g = true → MF Ts Y CC (m_L M) RT (m_R M) g ∨ ∀ av st, evF xs L ck K cW M n g av st = none := fun g hg => by
    rcases hMFx g hg with h | h
    · exact Or.inl h
    · exact Or.inr fun av st => evF_non h
  have htb : c.exceptionTable.toList = tableOf (RT f).2 := by
    have h := hts _ hMFf.1
    rw [cwd_cons hz] at h
    exact vx_table (x := Y f) B h
  have HC := clo (p := p) (l := l) (e := e) (R := (headSpec [Cond.codeWith (Y f) (CC f) (m_L M f) (RT f).1 (RT f).2] (rm_n (n + 1) (st'.1.2.1 - st.1.2.1) (st'.1.2.2 - st.1.2.2))).room) (s := s) (m := m) (below := below) (meth := meth) (c := c) (nL := m_L M f) (D := D) (cl := cl) (cA := cA) (A := A) (adW := adW) (aT := aT) (aS := aS) (ck := ck) (c0 := st.1.2.1) (d0 := st.1.2.2) (n0 := st.1.1.length) (ad0 := ad) (dec := DE f) (lk := LK f) (lp := LP f) (Zs := Zs) (cW := cW) (xs := xs) (L := L) (Y := Y) (CC := CC) (ML := m_L M) (RT := RT) (PK := m_P M) (RK := m_R M) (F := evF xs L ck K cW M n) (n := n) (thr := THR) (rt := m_R M f) (rz := RZ f) (hnd := HND f)
    (Q := MQ below (QB D cl cA A adW aT aS ck (m_R M f) r st.1.1.length ad st') ((((m_P M f).zip av).map fun q => w_v ad adW aT aS q.1 q.2).toArray) s (st'.1.2.1 - st.1.2.1) (st'.1.2.2 - st.1.2.2) A)
    (RR := fun v z => v = r ∧ z = st') (XX := fun _ => False) (args := (((m_P M f).zip av).map fun q => w_v ad adW aT aS q.1 q.2).toArray) (own := (Y f).cls) (Ts := Ts) (cc := CC f)
    hx hb hDE hml hown w3 hts hnice hCF w4 w5 w6 hWi hTa (by rw [hname]; exact hFO) hMF hCT hR (evF_mono n) (evF_len hCK n)
    (z_ret hx hb hDE B.returns hRT B.notSynchronized ⟨rfl, rfl⟩) (z_retv hx hb hDE B.returns hRT B.notSynchronized ⟨rfl, rfl⟩) (fun _ _ _ _ _ h => h.elim) (z_callx hx hb hDE hml hown w3 hts hnice w4 w5 w6 hMFz hFO.2.2.1 hvirt hCX hR (evF_mono n) (evF_len hCK n) htb hHX) (z_retz hx hb hDE B.returns hRT B.notSynchronized ⟨rfl, rfl⟩)
  have key := (snd_S (K := K) HC (m_B M f)).1 _ _ _ _ _ _ _ _ _ _ _ _ _ _ _ hc1 hc.2.1 (by rw [pad_len (Nat.le_trans (lay_le _ _) hc.2.2), pad_len hc.2.2]) h1
  have J0 := key.2.2.2.2.2 (fun h => by cases h) (fun _ => ⟨rfl, rfl⟩) (fun h => by cases h) (fun h => by cases h) (fun h => by cases h)
  have J1 := jw_ult hx hb hDE J0
  have hτ : (j_pad 0 (m_L M f) (j_layT (m_P M f))).length = m_L M f := pad_len hc.2.2
  have hlo := lv_entry (((m_P M f).zip av).map fun q => w_v ad adW aT aS q.1 q.2) (n := m_L M f) (by rw [lg_len _ _ hlen]; exact hc.2.2)
  have W0 := J1.2 hok (fun q hq => by cases hq) (fun i hi => by rw [pad_getD] at hi ⊢; rw [pad_getD]; exact lay_ok _ _ _ hlen hav hi) ⟨Nat.le_refl _, Nat.le_refl _⟩ (Nat.le_refl _) hτ ad s.heap [] _ w1 ⟨w2, fun _ _ => rfl⟩ va_S.rf (lv_mono hlo (fun q hq => by
    obtain ⟨a1, a2, a3⟩ := w_l_mem.mp hq
    rw [pad_getD] at a2 a3
    rw [pad_getD] at a3
    have := lay_args (ad := ad) (adW := adW) (aT := aT) (aS := aS) (m_P M f) av 0 q.1 hlen a2
    rw [Nat.zero_add, ← a3] at this
    exact this))
  rw [Nat.sub_self, Nat.sub_self] at W0
  rw [lg_entry_eq]
  exact W0
end JWU
end
section
section JWI
variable {l : Launch} 
  {cc : ByteArray} {nL : Nat} {own : String} {Ts : List Cond} {D : va_G} {cl : List vw_C} {cA : Nat → ClassId} {A : Nat → Prop} {adW : Nat → Nat} {aT aS : Nat} {ck : Nat → List Nat} {c0 d0 n0 : Nat} {ad0 : Nat → Nat} {dec : XD} {lk lp : XK} {Zs : String → String → String → Value → Prop} {cW : Nat → Nat → Int} {xs : Nat → Int} {L K : Nat}
  {Y : Nat → MethodName} {CC : Nat → ByteArray} {RT : Nat → XRt} {M : Nat → XM} {THR RZ : Nat → Bool} {LK LP : Nat → XK} {DE : Nat → XD} {HND : Nat → Nat → Option (Nat × Nat)}
/-- what is to be shown of each method by itself -/
def GD (Ts : List Cond) (cl : List vw_C) (ck : Nat → List Nat) (adW : Nat → Nat) (aT : Nat) (Zs : String → String → String → Value → Prop) (Y : Nat → MethodName) (CC : Nat → ByteArray) (RT : Nat → XRt) (M : Nat → XM) (THR RZ : Nat → Bool) (LK LP : Nat → XK) (DE : Nat → XD) (HND : Nat → Nat → Option (Nat × Nat)) (f : Nat) : Prop :=
  (FA Ts cl ck adW aT Zs Y CC RT M THR RZ LK LP DE HND f ∧ THR f = false ∧ (RT f).2 = [] ∧ ∀ pc, HND f pc = none) ∨
  (FA Ts cl ck adW aT Zs Y CC RT M THR RZ LK LP DE HND f ∧ THR f = false ∧ (RT f).2 ≠ [] ∧ HX Ts (Y f).cls (DE f) (RT f).2 (HND f) ∧ ∀ i g how z, LK f i = some (6, g, how, z) → THR g = true → how = 0) ∨
  (FA Ts cl ck adW aT Zs Y CC RT M THR RZ LK LP DE HND f ∧ THR f = true ∧ (RT f).2 = [] ∧ LT Ts (Y f).cls (LK f) ∧ ∀ pc, HND f pc = none) ∨
  (m_B M f = .var 0 ∧ THR f = true)
theorem GD.chk {f : Nat} (h : GD Ts cl ck adW aT Zs Y CC RT M THR RZ LK LP DE HND f) : CK M DE LK LP THR RZ HND f ∨ m_B M f = .var 0 := by
  rcases h with h | h | h | h
  · exact Or.inl h.1.2.2.2.2.2
  · exact Or.inl h.1.2.2.2.2.2
  · exact Or.inl h.1.2.2.2.2.2
  · exact Or.inr h.1
theorem GD.mf {f : Nat} (h : GD Ts cl ck adW aT Zs Y CC RT M THR RZ LK LP DE HND f) : MF Ts Y CC (m_L M) RT (m_R M) f ∨ THR f = true := by
  rcases h with h | h | h | h
  · exact Or.inl h.1.1
  · exact Or.inl h.1.1
  · exact Or.inl h.1.1
  · exact Or.inr h.2
theorem GD.mx {f : Nat} (h : GD Ts cl ck adW aT Zs Y CC RT M THR RZ LK LP DE HND f) (_ : THR f = true) : MF Ts Y CC (m_L M) RT (m_R M) f ∨ m_B M f = .var 0 := by
  rcases h with h | h | h | h
  · exact Or.inl h.1.1
  · exact Or.inl h.1.1
  · exact Or.inl h.1.1
  · exact Or.inr h.1
theorem all_ok (hl : l.stackTraces = false) (hnice : ∀ w ∈ Ts, niceW w = true) (hCF : CF Ts cl ck) (hWi : ∀ i j : Nat, i < 24 → j < 24 → adW i = adW j → i = j) (hTa : ∀ ty, (ty = .int ∨ ty = .long ∨ ty = .byte ∨ ty = .boolean) → Cond.arrayClass ty ∈ Ts) (hG : ∀ f, GD Ts cl ck adW aT Zs Y CC RT M THR RZ LK LP DE HND f) :
    ∀ n f, (THR f = false → CTm l Ts D cl cA A adW aT aS ck Zs cW xs L Y CC (m_L M) RT (m_P M) (m_R M) (evF xs L ck K cW M n) n f) ∧ (THR f = true → CTx l Ts D cl cA A adW aT aS ck Zs cW xs L Y CC (m_L M) RT (m_P M) (m_R M) (evF xs L ck K cW M n) n f)
  | 0, _ => ⟨fun _ _ _ _ _ _ h => (by cases h), fun _ _ _ _ _ _ _ h => (by cases h)⟩
  | n + 1, f => by
    have ih := all_ok hl hnice hCF hWi hTa hG n
    have hMF := fun f => GD.mf (hG f)
    have hCK := fun f => GD.chk (hG f)
    rcases hG f with ⟨h, h1, h2, h3⟩ | ⟨h, h1, h2, h3, h4⟩ | ⟨h, h1, h2, h3, h4⟩ | ⟨h, h1⟩
    · exact ⟨fun _ => meth_ok hnice hCF hWi hTa hMF hCK h2 h h3 (fun g hg => (ih g).1 hg), fun e => (by rw [h1] at e; cases e)⟩
    · exact ⟨fun _ => methh_ok hnice hCF hWi hTa hMF hCK h2 h h3 (fun g hg => GD.mx (hG g) hg) h4 (fun g hg => (ih g).2 hg) (fun g hg => (ih g).1 hg), fun e => (by rw [h1] at e; cases e)⟩
    · exact ⟨fun e => (by rw [h1] at e; cases e), fun _ => methx_ok hl hnice hCF hWi hTa hMF hCK h2 h h3 h4 (fun g hg => (ih g).1 hg)⟩
    · refine ⟨fun e => (by rw [h1] at e; cases e), fun _ av st k r st' ad hF => ?_⟩
      rw [evF_non h] at hF
      cases hF
end JWI
end
