theorem goodS {Ts ws : List Cond} {own : String} {i : Nat} {y : MethodName} (h : GoodIn Ts ws) (h1 : Cond.methodLink own i y ∈ Ts) (h2 : Cond.static y ∈ Ts) (h3 : Cond.initialized y.cls ∈ Ts) : GoodIn Ts (va_wsS own i y ws) := fun w hw => by
  unfold va_wsS at hw
  rcases List.mem_append.mp hw with hw | hw
  · rcases List.mem_cons.mp hw with rfl | hw
    · exact ⟨h1, Or.inl rfl⟩
    rcases List.mem_cons.mp hw with rfl | hw
    · exact ⟨h2, Or.inl rfl⟩
    rcases List.mem_cons.mp hw with rfl | hw
    · exact ⟨h3, Or.inl rfl⟩
    cases hw
  · exact h w hw
/-- a method's answer type and its table of handlers -/
abbrev XRt := Option FieldType × List (Nat × Nat × Nat × Nat)
/-- the word of a method's code -/
def cwd (y : MethodName) (b : ByteArray) (ml : Nat) (rt : XRt) : Cond := match rt.2 with
  | [] => .code y b ml rt.1
  | q :: h => .codeWith y b ml rt.1 (q :: h)
theorem cwd_nil {y : MethodName} {b : ByteArray} {ml : Nat} {rt : XRt} (h : rt.2 = []) : cwd y b ml rt = .code y b ml rt.1 := by
  unfold cwd
  rw [h]
theorem cwd_cons {y : MethodName} {b : ByteArray} {ml : Nat} {rt : XRt} (h : rt.2 ≠ []) : cwd y b ml rt = .codeWith y b ml rt.1 rt.2 := by
  unfold cwd
  split
  · rename_i h'
    exact absurd h' h
  · rename_i h'
    rw [h']
def niceW : Cond → Bool
  | .fieldLinkNest .. => true
  | .methodLinkNest .. => true
  | .declares _ => true
  | .privateMethod _ => true
  | .castable _ _ => true
  | w => goodWord w
theorem nw_at {w : Cond} (hn : niceW w = true) {args a' : Array Value} {s U : State} (hW : s.WarmedH U.vm) (h : w.before args s = true) : w.before a' U = true := by
  unfold niceW at hn
  split at hn
  · exact va_Nw.use rfl (va_Nw.warmF hW (va_Nw.of rfl h))
  · exact va_Nw.use rfl (va_Nw.warmM hW (va_Nw.of rfl h))
  · exact va_tabs rfl (rfl : (s.setVm U.vm).vm = U.vm) (Cond.faceAtom_setVm hW.alike _ rfl h)
  · exact va_tabs rfl (rfl : (s.setVm U.vm).vm = U.vm) (Cond.faceAtom_setVm hW.alike _ rfl h)
  · exact va_tabs rfl (rfl : (s.setVm U.vm).vm = U.vm) (Cond.faceAtom_setVm hW.alike _ rfl h)
  · exact word_at hW (good_of_word hn) h
theorem SF.moved {Zs : String → String → String → Value → Prop} {adW : Nat → Nat} {aT aS : Nat} {cW : Nat → Nat → Int} {xs : Nat → Int} {L : Nat} {A : Nat → Prop} {u U : State} {H : Heap} (hvm : u.vm.Alike U.vm) (h : SF Zs adW aT aS cW xs L A u H) : SF Zs adW aT aS cW xs L A U H :=
  ⟨fun C n d v hz => va_Z.moved hvm (h.1 C n d v hz), va_T.moved hvm h.2.1, va_Ef.moved hvm h.2.2.1, va_Ef.moved hvm h.2.2.2.1, h.2.2.2.2.1, va_X.moved hvm h.2.2.2.2.2.1, h.2.2.2.2.2.2.1, h.2.2.2.2.2.2.2.1, h.2.2.2.2.2.2.2.2.1, h.2.2.2.2.2.2.2.2.2.1, vx_Zq.moved hvm h.2.2.2.2.2.2.2.2.2.2.1, vx_Zq.moved hvm h.2.2.2.2.2.2.2.2.2.2.2⟩
theorem SF.kept {Zs : String → String → String → Value → Prop} {adW : Nat → Nat} {aT aS : Nat} {cW : Nat → Nat → Int} {xs : Nat → Int} {L : Nat} {A : Nat → Prop} {U : State} {H H1 : Heap} (h : SF Zs adW aT aS cW xs L A U H) (hz : H.size ≤ H1.size) (hq : ∀ a : Nat, a < H.size → ¬ A a → H1[a]? = H[a]?) : SF Zs adW aT aS cW xs L A U H1 := by
  obtain ⟨h1, h2, h3, h4, h5, h6, h7, h8, h9, h10, h11, h12⟩ := h
  exact ⟨fun C n d v z => (h1 C n d v z).kept hq, h2.kept hq, h3.kept hq, h4.kept hq, h5, h6.kept (hq _ h8 h7), h7, Nat.lt_of_lt_of_le h8 hz, h9, h10, h11.kept hq, h12.kept hq⟩
def rm_n (n mc ms : Nat) : Room := { frames := n + 10, cells := mc, slots := ms, locals := 60 * n + 300 }
theorem rm_f (n mc ms : Nat) : (rm_n n mc ms).frames = n + 10 := rfl
theorem rm_l (n mc ms : Nat) : (rm_n n mc ms).locals = 60 * n + 300 := rfl
set_option maxRecDepth 8000 in
theorem rm_ok {n a b ml : Nat} {R : Room} (h1 : n + 11 ≤ R.frames) (h2 : 60 * n + 360 ≤ R.locals) (h3 : ml ≤ 40) : (rm_n n a b).frames + 1 ≤ R.frames ∧ 8 + (ml + 11) + (rm_n n a b).locals ≤ R.locals := by
  rw [rm_f, rm_l]
  refine ⟨by omega, ?_⟩
  generalize R.locals = z at h2 ⊢
  generalize 60 * n = w at h2 ⊢
  clear h1
  omega
section JWC
variable {p : Program} {l : Launch} {e : Env} {R : Room} {s : State} {m : MethodId} {args : Array Value} {below : List Frame} {meth : Method} {c : Code} {Q : State → Prop}
  {cc : ByteArray} {nL : Nat} {own : String} {Ts : List Cond} {D : va_G} {cl : List vw_C} {cA : Nat → ClassId} {A : Nat → Prop} {adW : Nat → Nat} {aT aS : Nat} {ck : Nat → List Nat} {c0 d0 n0 : Nat} {ad0 : Nat → Nat} {dec : XD} {lk lp : XK} {Zs : String → String → String → Value → Prop} {cW : Nat → Nat → Int} {xs : Nat → Int} {L : Nat}
/-- the world at a method's start -/
def WB (Ts : List Cond) (D : va_G) (cl : List vw_C) (cA : Nat → ClassId) (A : Nat → Prop) (adW : Nat → Nat) (aT aS : Nat) (Zs : String → String → String → Value → Prop) (cW : Nat → Nat → Int) (xs : Nat → Int) (L : Nat) (st : XT) (ad : Nat → Nat) (U : State) : Prop :=
  va_P D cl (w_w cA ad st) U.heap ∧ va_D A (w_w cA ad st) ∧ (∀ w ∈ Ts, w.before #[] U = true) ∧ va_K D cl (w_tys cA) U ∧ SF Zs adW aT aS cW xs L A U U.heap ∧ ∀ q, U.heap.size ≤ q → A q
def w_ret (ad adW : Nat → Nat) (aT aS : Nat) (rk : List Nat) (r : List Int) : Option Value := ((rk.zip r).head?).map fun q => w_v ad adW aT aS q.1 q.2
/-- what a method leaves: its answer, its world -/
def QB (D : va_G) (cl : List vw_C) (cA : Nat → ClassId) (A : Nat → Prop) (adW : Nat → Nat) (aT aS : Nat) (ck : Nat → List Nat) (rk : List Nat) (r : List Int) (n0 : Nat) (ad0 : Nat → Nat) (st' : XT) : Array Value → State → Outcome → State → Prop := fun _ s0 o t =>
  ∃ ad : Nat → Nat, (∀ k, k < n0 → ad k = ad0 k) ∧ o = .returned (w_ret ad adW aT aS rk r) ∧ OkS ck st' ∧ (∀ q ∈ rk.zip r, OkV st'.1.1 q.1 q.2) ∧ va_P D cl (w_w cA ad st') t.heap ∧ va_D A (w_w cA ad st') ∧ va_F A s0 t
theorem WB.blind {st : XT} {ad : Nat → Nat} {av : List Value} (hn : ∀ w ∈ Ts, niceW w = true) : FrameBlind (va_Pc av (WB Ts D cl cA A adW aT aS Zs cW xs L st ad)) := by
  intro a U g mk h
  obtain ⟨h0, h1, h2, h3, h4, h5, h6⟩ := h
  exact ⟨h0, h1, h2, fun w hw => nw_at (U := U.calling g mk a) (hn w hw) (show U.WarmedH U.vm from State.WarmedH.refl U) (h3 w hw), va_K.moved (u := U) (U := U.calling g mk a) (Vm.Alike.refl U.vm) h4, SF.moved (u := U) (U := U.calling g mk a) (Vm.Alike.refl U.vm) h5, h6⟩
theorem zip_map_cons {rk : List Nat} {r : List Int} (h : r.length = rk.length) (h1 : rk.length ≤ 1) (ad : Nat → Nat) (S : List (Nat × Int)) : (((rk.zip r).reverse ++ S).map fun q => w_v ad adW aT aS q.1 q.2) = (w_ret ad adW aT aS rk r).toList ++ S.map fun q => w_v ad adW aT aS q.1 q.2 := by
  match rk, r, h, h1 with
  | [], [], _, _ => rfl
  | [k], [v], _, _ => rfl
  | _ :: _ :: _, _, _, h1 => exact absurd h1 (by simp)
/-- behind a call: the world that the callee leaves -/
theorem jw_run {ad : Nat → Nat} {H : Heap} {locs : List Loc} {ls : Array Slot} {cells slots mc ms : Nat} {pc : Nat} {st0 rest : List Value} {a : Array Value} {rk : List Nat} {r : List Int} {st st' : XT}
    (hr : va_Run p l e R s m args below meth c H locs cells slots mc ms (F0 m pc ls st0) rest (QB D cl cA A adW aT aS ck rk r st.1.1.length ad st' a) A) (hS : va_S A s.heap H locs)
    (kk : ∀ (ad' : Nat → Nat) (H1 : Heap) (locs1 : List Loc), (∀ k, k < st.1.1.length → ad' k = ad k) → OkS ck st' → (∀ q ∈ rk.zip r, OkV st'.1.1 q.1 q.2) → va_P D cl (w_w cA ad' st') H1 → va_D A (w_w cA ad' st') → va_S A s.heap H1 locs1 → W p l e R s m args below meth c H1 locs1 (cells + mc) (slots + ms) Q (F0 m (pc + 3) ls ((w_ret ad' adW aT aS rk r).toList ++ rest))) :
    W p l e R s m args below meth c H locs cells slots Q (F0 m pc ls st0) := by
  intro T hT X
  obtain ⟨v, st₀, t, T', LL, h0, X', hL, e1, e2, ⟨ad', q1, q2, q3, q4, q5, q6, hz, hk⟩, stp⟩ := hr T hT X
  rw [h0] at hz hk
  have hv : v = w_ret ad' adW aT aS rk r := by
    injection q2
  subst hv
  obtain ⟨t2, a1, b1⟩ := kk ad' T'.heap (locs ++ LL) q1 q3 q4 (by rw [e1]; exact q5) q6
    ⟨Nat.le_trans hS.1 (by rw [e1]; exact hz), fun q h1 h2 => by rw [e1, hk q (Nat.lt_of_lt_of_le h1 hS.1) h2]; exact hS.2.1 q h1 h2, fun q hq => by
      rcases List.mem_append.mp hq with h | h
      · exact hS.2.2 q h
      · exact hL q h⟩ T' rfl X'
  exact ⟨t2, stp t2 a1, b1⟩
/-- what the tables say of a method, of a call of it -/
def MF (Ts : List Cond) (Y : Nat → MethodName) (CC : Nat → ByteArray) (ML : Nat → Nat) (RT : Nat → XRt) (RK : Nat → List Nat) (f : Nat) : Prop :=
  cwd (Y f) (CC f) (ML f) (RT f) ∈ Ts ∧ Cond.initialized (Y f).cls ∈ Ts ∧ ((Y f).cls ≠ "java/lang/invoke/MethodHandle" ∧ (Y f).cls ≠ "java/lang/invoke/VarHandle") ∧ ML f ≤ 40 ∧ (RK f).length ≤ 1
def LC (Ts : List Cond) (cl : List vw_C) (own : String) (Y : Nat → MethodName) (RT : Nat → XRt) (PK : Nat → List Nat) (i f how : Nat) : Prop := match how with
  | 0 => (RT f).2 = [] ∧ (parseMethodDescriptor (Y f).desc).map (fun d => d.parameters.length) = some ((PK f).length - 1) ∧ Cond.methodLink own i (Y f) ∈ Ts ∧ Cond.instanceMethod (Y f) ∈ Ts ∧ Cond.selects (Y f).cls (Y f) (Y f) ∈ Ts ∧ ∃ ci T N ks, PK f = (10 + ci) :: ks ∧ cl[ci]? = some ((Y f).cls, T, N)
  | 1 => (parseMethodDescriptor (Y f).desc).map (fun d => d.parameters.length) = some (PK f).length ∧ Cond.static (Y f) ∈ Ts ∧ (Cond.methodLink own i (Y f) ∈ Ts ∨ (RT f).2 = [] ∧ ∃ h, Cond.methodLinkNest own i (Y f) h ∈ Ts)
  | 2 => (parseMethodDescriptor (Y f).desc).map (fun d => d.parameters.length) = some ((PK f).length - 1) ∧ Cond.instanceMethod (Y f) ∈ Ts ∧ (Y f).name = "<init>" ∧ RT f = (none, []) ∧ (Cond.methodLink own i (Y f) ∈ Ts ∨ ∃ h, Cond.methodLinkNest own i (Y f) h ∈ Ts) ∧ ∃ ci ks, PK f = (10 + ci) :: ks
  | _ => False
/-- a method's contract -/
def CTm (l : Launch) (Ts : List Cond) (D : va_G) (cl : List vw_C) (cA : Nat → ClassId) (A : Nat → Prop) (adW : Nat → Nat) (aT aS : Nat) (ck : Nat → List Nat) (Zs : String → String → String → Value → Prop) (cW : Nat → Nat → Int) (xs : Nat → Int) (L : Nat) (Y : Nat → MethodName) (CC : Nat → ByteArray) (ML : Nat → Nat) (RT : Nat → XRt) (PK RK : Nat → List Nat) (F : XP) (n f : Nat) : Prop :=
  ∀ av st r st' ad, F f av st = some (1, r, st') → OkS ck st → (∀ q ∈ (PK f).zip av, OkV st.1.1 q.1 q.2) → av.length = (PK f).length →
    Met l (Y f) [cwd (Y f) (CC f) (ML f) (RT f)] (rm_n n (st'.1.2.1 - st.1.2.1) (st'.1.2.2 - st.1.2.2)) (va_Pc (((PK f).zip av).map fun q => w_v ad adW aT aS q.1 q.2) (WB Ts D cl cA A adW aT aS Zs cW xs L st ad)) (QB D cl cA A adW aT aS ck (RK f) r st.1.1.length ad st') (st'.1.2.1 - st.1.2.1) (st'.1.2.2 - st.1.2.2) A
def Kp (g g' : XS) : Prop := g.length ≤ g'.length ∧ ∀ (o : Nat) (q : XC), g[o]? = some q → ∃ q', g'[o]? = some q' ∧ q'.1 = q.1
theorem Kp.of {g g' : XS} (h : (g.map (·.1)).isPrefixOf (g'.map (·.1)) = true) : Kp g g' := by
  have h1 := List.isPrefixOf_iff_prefix.mp h
  have hl := h1.length_le
  rw [List.length_map, List.length_map] at hl
  refine ⟨hl, fun o q hq => ?_⟩
  have ho := (List.getElem?_eq_some_iff.mp hq).1
  have e1 : (g'.map (·.1))[o]? = (g.map (·.1))[o]? := by
    obtain ⟨t, ht⟩ := h1
    rw [← ht, List.getElem?_append_left (by rw [List.length_map]; exact ho)]
  rw [List.getElem?_map, List.getElem?_map, hq] at e1
  cases hq' : g'[o]? with
  | none => rw [hq'] at e1; cases e1
  | some q' =>
    rw [hq'] at e1
    exact ⟨q', rfl, Option.some.inj e1⟩
theorem Kp.V {g g' : XS} (h : Kp g g') {kd : Nat} {v : Int} (hv : OkV g kd v) : OkV g' kd v :=
  ⟨hv.1, hv.2.1, hv.2.2.1, fun h6 => by
    obtain ⟨h0, c', h1, h2⟩ := hv.2.2.2.1 h6
    obtain ⟨q', h3, h4⟩ := h.2 _ _ h1
    exact ⟨h0, q', h3, h4.trans h2⟩, hv.2.2.2.2⟩
theorem cats_map {ad : Nat → Nat} (S : List (Nat × Int)) : ((S.map fun q => w_v ad adW aT aS q.1 q.2).map fun v => v.category).sum = k_cats (S.map (·.1)) := by
  unfold k_cats
  rw [List.map_map, List.map_map]
  congr 1
  apply List.map_congr_left
  intro q _
  exact w_cat
theorem z_call {Y : Nat → MethodName} {CC : Nat → ByteArray} {ML : Nat → Nat} {RT : Nat → XRt} {PK RK : Nat → List Nat} {F : XP} {n : Nat} {thr : Nat → Bool}
    (hx : p.tables.exec = Jvm.exec) (hb : c.code = cc) (hdec : DecOk dec cc) (hml : c.maxLocals = nL) (hown : s.vm.findClass own = some m.cls) (hw0 : ∀ w ∈ Ts, w.before #[] s = true) (hts : ∀ w ∈ Ts, w.before args s = true) (hnice : ∀ w ∈ Ts, niceW w = true) (hK : va_K D cl (w_tys cA) s) (hSF : SF Zs adW aT aS cW xs L A s s.heap) (hA : ∀ q, s.heap.size ≤ q → A q)
    (hMF : ∀ f, MF Ts Y CC ML RT RK f ∨ thr f = true) (hLC : ∀ i f how z, lk i = some (6, f, how, z) → LC Ts cl own Y RT PK i f how) (hCT : ∀ f, thr f = false → CTm l Ts D cl cA A adW aT aS ck Zs cW xs L Y CC ML RT PK RK F n f) (hR : n + 11 ≤ R.frames ∧ 60 * n + 360 ≤ R.locals)
    (hFm : ∀ f av (st : XT) c r (st' : XT), F f av st = some (c, r, st') → st.1.2.1 ≤ st'.1.2.1 ∧ st.1.2.2 ≤ st'.1.2.2 ∧ Kp st.1.1 st'.1.1) (hFl : ∀ f av st r st', F f av st = some (1, r, st') → r.length = (RK f).length) :
    ∀ pc f av r τ en S st st', c_ins dec pc (a_call lk) = some (f, pc + 3) → thr f = false → F f av st = some (1, r, st') → av.length = (PK f).length → k_cats (S.map (·.1)) ≤ 8 → JW p l e R s m args below meth c Q nL D cl cA A adW aT aS ck c0 d0 n0 ad0 (j_ult dec (pc + 3)) τ en (((RK f).zip r).reverse ++ S) st' → JW p l e R s m args below meth c Q nL D cl cA A adW aT aS ck c0 d0 n0 ad0 (j_ult dec pc) τ en (((PK f).zip av).reverse ++ S) st := by
  intro pc f av r τ en S st st' h hthr hF hlen hcat kk
  obtain ⟨ii, hd, hf⟩ := c_ins1 h
  obtain ⟨hdc, hln⟩ := hdec _ _ _ hd
  have hu := ult_ins hd (ng hf (fun _ => rfl))
  have k' := jw_ult hx hb hdec kk
  rw [hu]
  obtain ⟨m1, m2, m3⟩ := hFm _ _ _ _ _ _ hF
  have hlim := k'.1
  refine ⟨⟨Nat.le_trans m1 hlim.1, Nat.le_trans m2 hlim.2⟩, fun hok hS hL h4 h5 h6 ad H locs ls g1 g2 g3 g4 => ?_⟩
  have hSa : ∀ q ∈ (PK f).zip av, OkV st.1.1 q.1 q.2 := fun q hq => hS q (List.mem_append_left _ (List.mem_reverse.mpr hq))
  have hSr : ∀ q ∈ S, OkV st.1.1 q.1 q.2 := fun q hq => hS q (List.mem_append_right _ hq)
  have hM := hCT f hthr av st r st' ad hF hok hSa hlen
  obtain ⟨f1, f2, f3, f4, f5⟩ := (hMF f).resolve_right (by rw [hthr]; exact fun e => by cases e)
  have hG : GoodIn Ts [cwd (Y f) (CC f) (ML f) (RT f)] := fun w hw => by
    rw [List.mem_singleton.mp hw]
    refine ⟨f1, ?_⟩
    unfold cwd
    split <;> exact Or.inl rfl
  have hB : ∀ U : State, U.heap = H → s.WarmedH U.vm → WB Ts D cl cA A adW aT aS Zs cW xs L st ad U := fun U hU hW => by
    refine ⟨by rw [hU]; exact g1, g2.1, fun w hw => nw_at (hnice w hw) hW (hw0 w hw), va_K.moved hW.alike hK, ?_, fun q hq => hA q (Nat.le_trans g3.1 (by rw [← hU]; exact hq))⟩
    rw [hU]
    exact SF.moved hW.alike (hSF.kept g3.1 g3.2.1)
  have hbl : FrameBlind (va_Pc (((PK f).zip av).map fun q => w_v ad adW aT aS q.1 q.2) (WB Ts D cl cA A adW aT aS Zs cW xs L st ad)) := WB.blind hnice
  have hRr := rm_ok (a := st'.1.2.1 - st.1.2.1) (b := st'.1.2.2 - st.1.2.2) hR.1 hR.2 f4
  have hlim1 := hlim.1
  have hlim2 := hlim.2
  have hc0 := h4.1
  have hcs : st.1.2.1 - c0 + (st'.1.2.1 - st.1.2.1) ≤ R.cells ∧ st.1.2.2 - d0 + (st'.1.2.2 - st.1.2.2) ≤ R.slots := by omega
  have hroom : 2 * (F0 m pc ls ((((PK f).zip av).reverse ++ S).map fun q => w_v ad adW aT aS q.1 q.2)).monitorRoom + ((S.map fun q => w_v ad adW aT aS q.1 q.2).map fun v => v.category).sum ≤ 8 := by
    rw [cats_map]
    show 2 * 0 + _ ≤ 8
    omega
  have K : ∀ (ad' : Nat → Nat) (H1 : Heap) (locs1 : List Loc), (∀ k, k < st.1.1.length → ad' k = ad k) → OkS ck st' → (∀ q ∈ (RK f).zip r, OkV st'.1.1 q.1 q.2) → va_P D cl (w_w cA ad' st') H1 → va_D A (w_w cA ad' st') → va_S A s.heap H1 locs1 → W p l e R s m args below meth c H1 locs1 (st.1.2.1 - c0 + (st'.1.2.1 - st.1.2.1)) (st.1.2.2 - d0 + (st'.1.2.2 - st.1.2.2)) Q (F0 m (pc + 3) ls ((w_ret ad' adW aT aS (RK f) r).toList ++ S.map fun q => w_v ad adW aT aS q.1 q.2)) := by
    intro ad' H1 locs1 q1 q2 q3 q4 q5 q6
    have hS' : ∀ q ∈ ((RK f).zip r).reverse ++ S, OkV st'.1.1 q.1 q.2 := fun q hq => by
      rcases List.mem_append.mp hq with hq | hq
      · exact q3 q (List.mem_reverse.mp hq)
      · exact m3.V (hSr q hq)
    have K := k'.2 q2 hS' (fun i hi => m3.V (hL i hi)) ⟨by omega, Nat.le_trans h4.2 m3.1⟩ (by omega) h6 ad' H1 locs1 ls q4 ⟨q5, fun k hk => (q1 k (Nat.lt_of_lt_of_le hk h4.2)).trans (g2.2 k hk)⟩ q6 (lv_mono g4 (w_l_ad hL q1))
    rw [zip_map_cons (hFl _ _ _ _ _ hF) f5, w_S_ad hSr q1] at K
    have e1 : st'.1.2.1 - c0 = st.1.2.1 - c0 + (st'.1.2.1 - st.1.2.1) := by omega
    have e2 : st'.1.2.2 - d0 = st.1.2.2 - d0 + (st'.1.2.2 - st.1.2.2) := by omega
    rw [e1, e2] at K
    exact K
  have hfix : CallFix p m c cc nL s args Ts own := ⟨hx, hb, hml, hown, hts⟩
  have hini := hts _ f2
  unfold a_call at hf
  split at hf
  · split at hf
    · rename_i i f' z hl
      cases hf
      obtain ⟨p0, p1, p2, p3, p4, ci, T, N, ks, p5, p6⟩ := hLC _ _ _ _ hl
      rw [cwd_nil p0] at hM hG
      obtain ⟨o, vs, rfl⟩ : ∃ o vs, av = o :: vs := by
        cases av with
        | nil => rw [p5] at hlen; cases hlen
        | cons o vs => exact ⟨o, vs, rfl⟩
      rw [p5] at hM hSa hlen p1 hroom ⊢
      rw [p5] at hbl
      have ho := hSa (10 + ci, o) List.mem_cons_self
      obtain ⟨q, w1, w2, w3, w4⟩ := obj_at (cA := cA) (ad := ad) hok ho
      have href : w_v ad adW aT aS (10 + ci) o = .ref (ad o.toNat) := w_v_ref (by omega)
      have hlv : (((ks.zip vs).map fun q => w_v ad adW aT aS q.1 q.2)).length = ks.length := by
        simp at hlen
        simp [hlen]
      refine jw_run (st := st) (st' := st') (ad := ad) (r := r) (rk := RK f) (va_runV (As := (ks.zip vs).map fun q => w_v ad adW aT aS q.1 q.2) (b := ad o.toNat) (C := (Y f).cls) (rest := S.map fun q => w_v ad adW aT aS q.1 q.2) hfix hM ⟨callB_of ks.length hts hG rfl rfl rfl hini (hts _ p2) ⟨f3.1, f3.2, p1⟩ hRr, hts _ p3, hts _ p4⟩ ⟨hbl, va_recv hK g1 p6 w4, fun U hU hW => ⟨?_, hB U hU hW⟩⟩ rfl hlv g4.1 ?_ hroom hdc hcs) g3 K
      · show _ = (List.map _ ((10 + ci, o) :: ks.zip vs)).toArray
        rw [List.map_cons, href]
      · show List.map _ (((10 + ci, o) :: ks.zip vs).reverse ++ S) = _
        rw [List.map_append, List.reverse_cons, List.map_append, List.map_reverse, List.append_assoc]
        show _ ++ ([w_v ad adW aT aS (10 + ci) o] ++ _) = _
        rw [href]
        rfl
    · cases hf
  · split at hf
    · rename_i i f' z hl
      cases hf
      obtain ⟨p1, p2, p3⟩ := hLC _ _ _ _ hl
      have hlv : (((PK f).zip av).map fun q => w_v ad adW aT aS q.1 q.2).length = (PK f).length := by
        simp [hlen]
      have hstk : List.map (fun q => w_v ad adW aT aS q.1 q.2) (((PK f).zip av).reverse ++ S) = (((PK f).zip av).map fun q => w_v ad adW aT aS q.1 q.2).reverse ++ S.map fun q => w_v ad adW aT aS q.1 q.2 := by
        rw [List.map_append, List.map_reverse]
      rcases p3 with p3 | ⟨p0, hh, p3⟩
      · by_cases p0 : (RT f).2 = []
        · rw [cwd_nil p0] at hM hG
          exact jw_run (st := st) (st' := st') (ad := ad) (r := r) (rk := RK f) (va_runS (As := ((PK f).zip av).map fun q => w_v ad adW aT aS q.1 q.2) (rest := S.map fun q => w_v ad adW aT aS q.1 q.2) hfix hM ⟨callB_of (PK f).length hts hG rfl rfl rfl hini (hts _ p3) ⟨f3.1, f3.2, p1⟩ hRr, hts _ p2⟩ ⟨hbl, fun U hU hW => ⟨rfl, hB U hU hW⟩⟩ rfl hlv g4.1 hstk hroom hdc hcs) g3 K
        · rw [cwd_cons p0] at hM hG
          exact jw_run (st := st) (st' := st') (ad := ad) (r := r) (rk := RK f) (vx_runSW (As := ((PK f).zip av).map fun q => w_v ad adW aT aS q.1 q.2) (rest := S.map fun q => w_v ad adW aT aS q.1 q.2) hfix hM (vx_cwSW (PK f).length hts (goodS hG p3 p2 f2) rfl rfl rfl ⟨f3.1, f3.2, p1⟩ hRr) ⟨hbl, fun U hU hW => ⟨rfl, hB U hU hW⟩⟩ rfl hlv g4.1 hstk hroom hdc hcs) g3 K
      · rw [cwd_nil p0] at hM hG
        exact jw_run (st := st) (st' := st') (ad := ad) (r := r) (rk := RK f) (va_runSN (As := ((PK f).zip av).map fun q => w_v ad adW aT aS q.1 q.2) (rest := S.map fun q => w_v ad adW aT aS q.1 q.2) hfix hM ⟨va_cnB (PK f).length hts hG rfl rfl rfl (va_Nw.of rfl (hts _ p3)) hini ⟨f3.1, f3.2, p1⟩ hRr, hts _ p2, trivial⟩ ⟨hbl, fun U hU hW => ⟨rfl, hB U hU hW⟩⟩ rfl hlv g4.1 hstk hroom hdc hcs) g3 K
    · cases hf
  · split at hf
    · rename_i i f' z hl
      cases hf
      obtain ⟨p1, p2, p3, p4, p5, ci, ks, p6⟩ := hLC _ _ _ _ hl
      obtain ⟨o, vs, rfl⟩ : ∃ o vs, av = o :: vs := by
        cases av with
        | nil => rw [p6] at hlen; cases hlen
        | cons o vs => exact ⟨o, vs, rfl⟩
      rw [p6] at hM hSa hlen p1 hroom ⊢
      rw [p6] at hbl
      rw [cwd_nil (by rw [p4]), p4] at hM hG
      have href : w_v ad adW aT aS (10 + ci) o = .ref (ad o.toNat) := w_v_ref (by omega)
      have hlv : (((ks.zip vs).map fun q => w_v ad adW aT aS q.1 q.2)).length = ks.length := by
        simp at hlen
        simp [hlen]
      have hstk : List.map (fun q => w_v ad adW aT aS q.1 q.2) ((((10 + ci) :: ks).zip (o :: vs)).reverse ++ S) = ((ks.zip vs).map fun q => w_v ad adW aT aS q.1 q.2).reverse ++ .ref (ad o.toNat) :: S.map fun q => w_v ad adW aT aS q.1 q.2 := by
        show List.map _ (((10 + ci, o) :: ks.zip vs).reverse ++ S) = _
        rw [List.map_append, List.reverse_cons, List.map_append, List.map_reverse, List.append_assoc]
        show _ ++ ([w_v ad adW aT aS (10 + ci) o] ++ _) = _
        rw [href]
        rfl
      have hav : Value.ref (ad o.toNat) :: (ks.zip vs).map (fun q => w_v ad adW aT aS q.1 q.2) = List.map (fun q => w_v ad adW aT aS q.1 q.2) (((10 + ci) :: ks).zip (o :: vs)) := by
        show _ = List.map _ ((10 + ci, o) :: ks.zip vs)
        rw [List.map_cons, href]
      rcases p5 with p5 | ⟨hh, p5⟩
      · exact jw_run (st := st) (st' := st') (ad := ad) (r := r) (rk := RK f) (va_runI (As := (ks.zip vs).map fun q => w_v ad adW aT aS q.1 q.2) (b := ad o.toNat) (rest := S.map fun q => w_v ad adW aT aS q.1 q.2) hfix hM ⟨callB_of ks.length hts hG rfl rfl rfl hini (hts _ p5) ⟨f3.1, f3.2, p1⟩ hRr, p3, hts _ p2⟩ ⟨hbl, fun U hU hW => ⟨by rw [hav], hB U hU hW⟩⟩ rfl hlv g4.1 hstk hroom hdc hcs) g3 K
      · exact jw_run (st := st) (st' := st') (ad := ad) (r := r) (rk := RK f) (va_runIN (As := (ks.zip vs).map fun q => w_v ad adW aT aS q.1 q.2) (b := ad o.toNat) (rest := S.map fun q => w_v ad adW aT aS q.1 q.2) hfix hM ⟨va_cnB ks.length hts hG rfl rfl rfl (va_Nw.of rfl (hts _ p5)) hini ⟨f3.1, f3.2, p1⟩ hRr, p3, hts _ p2⟩ ⟨hbl, fun U hU hW => ⟨by rw [hav], hB U hU hW⟩⟩ rfl hlv g4.1 hstk hroom hdc hcs) g3 K
    · cases hf
  · cases hf
end JWC
