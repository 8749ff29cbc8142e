/-! ===== the machine takes the steps that the tree's proof asks for ===== -/
def a_len : Instr → Nat
  | .iconst _ => 1
  | .bipush _ => 2
  | .sipush _ => 3
  | .lconst _ => 1
  | .ldc _ => 2
  | .ldc_w _ => 3
  | .ldc2_w _ => 3
  | .getstatic _ => 3
  | .iload _ => 2
  | .iload_n _ => 1
  | .lload _ => 2
  | .lload_n _ => 1
  | .aload _ => 2
  | .aload_n _ => 1
  | .istore _ => 2
  | .istore_n _ => 1
  | .lstore _ => 2
  | .lstore_n _ => 1
  | .astore _ => 2
  | .astore_n _ => 1
  | _ => 0
def j_dec (cc : ByteArray) : XD := fun pc => match decode cc pc with
  | .ok (i, n) => if a_len i = 0 ∨ n = a_len i then some (i, n) else none
  | .error _ => none
def DecOk (dec : XD) (cc : ByteArray) : Prop := ∀ pc i n, dec pc = some (i, n) → decode cc pc = .ok (i, n) ∧ (a_len i ≠ 0 → n = a_len i)
theorem j_dec_ok (cc : ByteArray) : DecOk (j_dec cc) cc := by
  intro pc i n h
  unfold j_dec at h
  split at h
  · rename_i i' n' he
    obtain ⟨h1, h⟩ := j_if h
    cases h
    exact ⟨he, fun h0 => h1.resolve_left h0⟩
  · cases h
theorem c_ins_spec {α : Type} {dec : XD} {pc p : Nat} {f : Instr → Option α} {a : α} (h : c_ins dec pc f = some (a, p)) : ∃ i n, dec pc = some (i, n) ∧ f i = some a ∧ p = pc + n := by
  obtain ⟨⟨i, n⟩, h1, h⟩ := j_bd h
  obtain ⟨a', h2, h⟩ := j_bd h
  cases h
  exact ⟨i, n, h1, h2, rfl⟩
theorem c_op0_spec {dec : XD} {pc k : Nat} (h : c_op0 dec pc k = true) : ∃ i, dec pc = some (i, 1) ∧ a_op0 i = k := by
  unfold c_op0 at h
  split at h
  · rename_i i n he
    rw [Bool.and_eq_true, beq_iff_eq, beq_iff_eq] at h
    rw [h.2] at he
    exact ⟨i, he, h.1⟩
  · cases h
theorem ult_ins {dec : XD} {pc n : Nat} {i : Instr} (h : dec pc = some (i, n)) (hg : a_goto i = none) : j_ult dec pc = pc := by
  unfold j_ult j_ultN
  rw [h]
  simp [hg]
theorem a_goto_s {i : Instr} {off : Int} (h : a_goto i = some off) : i = .goto off := by
  unfold a_goto at h
  split at h
  · cases h
    rfl
  · cases h
def w_tys (cA : Nat → ClassId) : List (ClassId × FieldType) := [(cA 6, .int), (cA 7, .long), (cA 8, .byte), (cA 9, .boolean)]
theorem OkV.four {g : XS} {v : Int} : OkV g 4 v := ⟨fun e => (by cases e), fun e => (by cases e), fun e => (by cases e), fun e => absurd e (by decide), by decide⟩
theorem k_fit_spec {τ : List Nat} {i kd : Nat} (h : k_fit τ i kd = true) : i < τ.length ∧ kd ≠ 0 ∧ (τ.getD i 0 = 0 ∨ τ.getD i 0 = kd) ∧ (i = 0 ∨ τ.getD (i - 1) 0 ≠ 2) ∧ (kd ≠ 2 ∨ (i + 1 < τ.length ∧ τ.getD (i + 1) 0 = 0)) := by
  simpa [k_fit, and_assoc] using h
theorem getD_set_eq {α : Type} {l : List α} {i : Nat} {a d : α} (h : i < l.length) : (l.set i a).getD i d = a := by simp [List.getD, h]
theorem getD_set_ne {α : Type} {l : List α} {i j : Nat} {a d : α} (h : j ≠ i) : (l.set i a).getD j d = l.getD j d := by
  simp only [List.getD]
  rw [List.getElem?_set_ne (fun e => h e.symm)]
/-- the locals behind a store -/
theorem wl_store {ad adW : Nat → Nat} {aT aS : Nat} {τ : List Nat} {en : List Int} {i kd : Nat} {v : Int} (hf : k_fit τ i kd = true) (hl : en.length = τ.length) (h2 : kd ≠ 2) :
    ∀ q ∈ w_l ad adW aT aS (τ.set i kd) (en.set i v), q ∈ (i, w_v ad adW aT aS kd v) :: (w_l ad adW aT aS τ en).filter (fun q => !(q.1 == i) && !(q.1 + 1 == i && q.2.category == 2)) := by
  intro q hq
  obtain ⟨f1, f2, f3, f4, f5⟩ := k_fit_spec hf
  obtain ⟨h1, h3, h4⟩ := w_l_mem.mp hq
  by_cases e : q.1 = i
  · rw [e, getD_set_eq f1, getD_set_eq (by omega)] at h4
    exact List.mem_cons.mpr (Or.inl (Prod.ext e h4))
  · rw [getD_set_ne e] at h3
    rw [getD_set_ne e, getD_set_ne e] at h4
    refine List.mem_cons.mpr (Or.inr (List.mem_filter.mpr ⟨w_l_mem.mpr ⟨by simpa using h1, h3, h4⟩, ?_⟩))
    have hc : q.2.category = k_cat (τ.getD q.1 0) := by rw [h4]; exact w_cat
    simp only [Bool.and_eq_true, Bool.not_eq_true', beq_eq_false_iff_ne, ne_eq, Bool.and_eq_false_iff]
    refine ⟨e, ?_⟩
    by_cases e2 : q.1 + 1 = i
    · right
      rw [hc]
      rcases f4 with f4 | f4
      · omega
      · have : i - 1 = q.1 := by omega
        rw [this] at f4
        unfold k_cat
        rw [if_neg f4]
        decide
    · exact Or.inl e2
theorem wl_storeL {ad adW : Nat → Nat} {aT aS : Nat} {τ : List Nat} {en : List Int} {i : Nat} {v : Int} (hf : k_fit τ i 2 = true) (hl : en.length = τ.length) :
    ∀ q ∈ w_l ad adW aT aS (τ.set i 2) (en.set i v), q ∈ (i, w_v ad adW aT aS 2 v) :: (w_l ad adW aT aS τ en).filter (fun q => !(q.1 == i) && (!(q.1 == i + 1) && !(q.1 + 1 == i && q.2.category == 2))) := by
  intro q hq
  obtain ⟨f1, f2, f3, f4, f5⟩ := k_fit_spec hf
  obtain ⟨h1, h3, h4⟩ := w_l_mem.mp hq
  by_cases e : q.1 = i
  · rw [e, getD_set_eq f1, getD_set_eq (by omega)] at h4
    exact List.mem_cons.mpr (Or.inl (Prod.ext e h4))
  · rw [getD_set_ne e] at h3
    rw [getD_set_ne e, getD_set_ne e] at h4
    refine List.mem_cons.mpr (Or.inr (List.mem_filter.mpr ⟨w_l_mem.mpr ⟨by simpa using h1, h3, h4⟩, ?_⟩))
    have hc : q.2.category = k_cat (τ.getD q.1 0) := by rw [h4]; exact w_cat
    simp only [Bool.and_eq_true, Bool.not_eq_true', beq_eq_false_iff_ne, ne_eq, Bool.and_eq_false_iff]
    refine ⟨e, ?_, ?_⟩
    · intro e3
      rcases f5 with f5 | f5
      · exact f5 rfl
      · rw [e3] at h3
        exact h3 f5.2
    by_cases e2 : q.1 + 1 = i
    · right
      rw [hc]
      rcases f4 with f4 | f4
      · omega
      · have : i - 1 = q.1 := by omega
        rw [this] at f4
        unfold k_cat
        rw [if_neg f4]
        decide
    · exact Or.inl e2
section JW1
variable {p : Program} {l : Launch} {e : Env} {R : Room} {s : State} {m : MethodId} {args : Array Value} {below : List Frame} {meth : Method} {c : Code} {Q : State → Prop}
  {cc : ByteArray} {nL : Nat} {own : String} {Ts : List Cond} {D : va_G} {cl : List vw_C} {cA : Nat → ClassId} {A : Nat → Prop} {adW : Nat → Nat} {aT aS : Nat} {ck : Nat → List Nat} {c0 d0 n0 : Nat} {ad0 : Nat → Nat} {dec : XD} {lk : XK}
def JW (p : Program) (l : Launch) (e : Env) (R : Room) (s : State) (m : MethodId) (args : Array Value) (below : List Frame) (meth : Method) (c : Code) (Q : State → Prop) (nL : Nat) (D : va_G) (cl : List vw_C) (cA : Nat → ClassId) (A : Nat → Prop) (adW : Nat → Nat) (aT aS : Nat) (ck : Nat → List Nat) (c0 d0 n0 : Nat) (ad0 : Nat → Nat)
    (pc : Nat) (τ : List Nat) (en : List Int) (S : List (Nat × Int)) (st : XT) : Prop :=
  (st.1.2.1 ≤ c0 + R.cells ∧ st.1.2.2 ≤ d0 + R.slots) ∧
  (OkS ck st → (∀ q ∈ S, OkV st.1.1 q.1 q.2) → (∀ i, τ.getD i 0 ≠ 0 → OkV st.1.1 (τ.getD i 0) (en.getD i 0)) → c0 ≤ st.1.2.1 ∧ n0 ≤ st.1.1.length → d0 ≤ st.1.2.2 → τ.length = nL →
    ∀ (ad : Nat → Nat) (H : Heap) (locs : List Loc) (ls : Array Slot), va_P D cl (w_w cA ad st) H → va_D A (w_w cA ad st) ∧ (∀ r, r < n0 → ad r = ad0 r) → va_S A s.heap H locs → lv_has ls nL (w_l ad adW aT aS τ en) →
      W p l e R s m args below meth c H locs (st.1.2.1 - c0) (st.1.2.2 - d0) Q (F0 m pc ls (S.map fun q => w_v ad adW aT aS q.1 q.2)))
variable (hx : p.tables.exec = Jvm.exec) (hb : c.code = cc) (hdec : DecOk dec cc)
theorem jw_ultN (hx : p.tables.exec = Jvm.exec) (hb : c.code = cc) (hdec : DecOk dec cc) {τ : List Nat} {en : List Int} {S : List (Nat × Int)} {st : XT} : ∀ (n pc : Nat), JW p l e R s m args below meth c Q nL D cl cA A adW aT aS ck c0 d0 n0 ad0 (j_ultN dec n pc) τ en S st → JW p l e R s m args below meth c Q nL D cl cA A adW aT aS ck c0 d0 n0 ad0 pc τ en S st := by
  intro n
  induction n with
  | zero => exact fun pc k => k
  | succ n ih =>
    intro pc k
    unfold j_ultN at k
    split at k
    · rename_i off hoff
      obtain ⟨⟨i, len⟩, hd, hoff⟩ := j_bd hoff
      obtain ⟨h3, hoff⟩ := j_ifx hoff
      dsimp only at h3
      subst h3
      split at k
      · rename_i t ht
        have k' := ih t k
        refine ⟨k'.1, fun h1 h2 h3 h4 h5 h6 ad H locs ls g1 g2 g3 g4 => ?_⟩
        have hi : i = .goto off := a_goto_s hoff
        subst hi
        unfold j_tgt at ht
        obtain ⟨ht0, ht⟩ := j_if ht
        exact lv_goto (tgt := t) hx hb (hdec _ _ _ hd).1 (by omega) (k'.2 h1 h2 h3 h4 h5 h6 ad H locs ls g1 g2 g3 g4)
      · exact k
    · exact k
theorem jw_ult (hx : p.tables.exec = Jvm.exec) (hb : c.code = cc) (hdec : DecOk dec cc) {τ : List Nat} {en : List Int} {S : List (Nat × Int)} {st : XT} {pc : Nat} (k : JW p l e R s m args below meth c Q nL D cl cA A adW aT aS ck c0 d0 n0 ad0 (j_ult dec pc) τ en S st) : JW p l e R s m args below meth c Q nL D cl cA A adW aT aS ck c0 d0 n0 ad0 pc τ en S st := jw_ultN hx hb hdec 5 pc k
/-- a step of the stack alone -/
theorem jw_st (hx : p.tables.exec = Jvm.exec) (hb : c.code = cc) (hdec : DecOk dec cc) {τ : List Nat} {en : List Int} {S S' : List (Nat × Int)} {st : XT} {pc pc' : Nat}
    (k : JW p l e R s m args below meth c Q nL D cl cA A adW aT aS ck c0 d0 n0 ad0 (j_ult dec pc') τ en S' st)
    (hu : j_ult dec pc = pc) (hS : OkS ck st → (∀ q ∈ S, OkV st.1.1 q.1 q.2) → (∀ i, τ.getD i 0 ≠ 0 → OkV st.1.1 (τ.getD i 0) (en.getD i 0)) → τ.length = nL → ∀ q ∈ S', OkV st.1.1 q.1 q.2)
    (hW : OkS ck st → (∀ q ∈ S, OkV st.1.1 q.1 q.2) → (∀ i, τ.getD i 0 ≠ 0 → OkV st.1.1 (τ.getD i 0) (en.getD i 0)) → τ.length = nL → ∀ (ad : Nat → Nat) (H : Heap) (locs : List Loc) (ls : Array Slot), va_P D cl (w_w cA ad st) H → va_D A (w_w cA ad st) → va_S A s.heap H locs → lv_has ls nL (w_l ad adW aT aS τ en) → ∀ cells slots,
      W p l e R s m args below meth c H locs cells slots Q (F0 m pc' ls (S'.map fun q => w_v ad adW aT aS q.1 q.2)) → W p l e R s m args below meth c H locs cells slots Q (F0 m pc ls (S.map fun q => w_v ad adW aT aS q.1 q.2))) :
    JW p l e R s m args below meth c Q nL D cl cA A adW aT aS ck c0 d0 n0 ad0 (j_ult dec pc) τ en S st := by
  have k' := jw_ult hx hb hdec k
  rw [hu]
  exact ⟨k'.1, fun h1 h2 h3 h4 h5 h6 ad H locs ls g1 g2 g3 g4 => hW h1 h2 h3 h6 ad H locs ls g1 g2.1 g3 g4 _ _ (k'.2 h1 (hS h1 h2 h3 h6) h3 h4 h5 h6 ad H locs ls g1 g2 g3 g4)⟩
/-- the word that a row of the own class's table stands for -/
def FK (d : String) (v : Int) : Prop := ∃ ty, parseFieldDescriptor d = some ty ∧ (v = 1 → ty = .int) ∧ (v = 2 → ty = .long) ∧ (v = -1 → ty = .boolean) ∧ (6 ≤ v → (∃ n, ty = .object n) ∨ ∃ t, ty = .array t)
def LF (Ts : List Cond) (cl : List vw_C) (own : String) (ck : Nat → List Nat) (adW : Nat → Nat) (aT : Nat) (Zs : String → String → String → Value → Prop) (i : Nat) : Nat × Nat × Nat × Int → Prop
  | (0, ci, k, v) => ∃ C T N, cl[ci]? = some (C, T, N) ∧ k < N ∧ (ck ci)[k]? = some (j_kd v) ∧ FK (T k).2.2.1 v ∧ (Cond.fieldLink own i (T k).1 (T k).2.1 (T k).2.2.1 ∈ Ts ∨ ∃ h, Cond.fieldLinkNest own i (T k).1 (T k).2.1 (T k).2.2.1 h ∈ Ts)
  | (1, _, k, v) => ∃ n d h, Cond.fieldLinkNest own i "FeederShares$Word" n d h ∈ Ts ∧ ((k = 0 ∧ v = 2 ∧ n = "code" ∧ d = "J") ∨ (k = 1 ∧ v = 1 ∧ n = "kept" ∧ d = "Z"))
  | (2, kd, _, v) => ∃ C n d, Zs C n d (w_v (fun _ => 0) adW aT 0 kd v) ∧ ((kd = 3 ∧ 0 ≤ v ∧ v < 24) ∨ kd = 4) ∧ (Cond.fieldLink own i C n d ∈ Ts ∨ ∃ h, Cond.fieldLinkNest own i C n d h ∈ Ts)
  | (3, _, _, v) => Cond.constant own i (Int32.ofInt v) ∈ Ts ∧ InI v
  | (4, _, _, v) => Cond.constantLong own i (Int64.ofInt v) ∈ Ts ∧ InL v
  | (5, ci, _, _) => ∃ C T N, cl[ci]? = some (C, T, N) ∧ (ck ci).length = N ∧ Cond.classLink own i C ∈ Ts ∧ Cond.instantiable C N ∈ Ts ∧ Cond.initialized C ∈ Ts
  | _ => True
theorem z_const (hx : p.tables.exec = Jvm.exec) (hb : c.code = cc) (hdec : DecOk dec cc) {Zs : String → String → String → Value → Prop} (hLK : ∀ i q, lk i = some q → LF Ts cl own ck adW aT Zs i q) (hown : s.vm.findClass own = some m.cls) (hts : ∀ w ∈ Ts, w.before args s = true)
    (hZs : ∀ C n d v, Zs C n d v → va_Z C n d v A s s.heap) :
    ∀ pc p' kv τ en S st, c_ins dec pc (a_const lk) = some (kv, p') → kv.1 ≠ 0 → JW p l e R s m args below meth c Q nL D cl cA A adW aT aS ck c0 d0 n0 ad0 (j_ult dec p') τ en (kv :: S) st → JW p l e R s m args below meth c Q nL D cl cA A adW aT aS ck c0 d0 n0 ad0 (j_ult dec pc) τ en S st := by
  intro pc p' kv τ en S st h hkv k
  obtain ⟨i, n, hd, hf, rfl⟩ := c_ins_spec h
  obtain ⟨hdc, hlen⟩ := hdec _ _ _ hd
  have hg : a_goto i = none := by
    cases hgo : a_goto i with
    | none => rfl
    | some off =>
      rw [a_goto_s hgo] at hf
      cases hf
  have hu := ult_ins hd hg
  unfold a_const at hf
  split at hf
  · obtain ⟨h1, hf⟩ := j_if hf
    cases hf
    have : n = 1 := hlen (by simp [a_len])
    subst this
    refine jw_st hx hb hdec k hu (fun _ hS _ _ q hq => ?_) (fun _ _ _ _ ad H locs ls _ _ _ _ cells slots K => lv_iconst hx hb hdc rfl K)
    rcases List.mem_cons.mp hq with rfl | hq
    · exact OkV.int ⟨by dsimp only; omega, by dsimp only; omega⟩
    · exact hS q hq
  · obtain ⟨h1, hf⟩ := j_if hf
    cases hf
    have : n = 2 := hlen (by simp [a_len])
    subst this
    refine jw_st hx hb hdec k hu (fun _ hS _ _ q hq => ?_) (fun _ _ _ _ ad H locs ls _ _ _ _ cells slots K => lv_bipush hx hb hdc ?_ K)
    · rcases List.mem_cons.mp hq with rfl | hq
      · exact OkV.int ⟨by dsimp only; omega, by dsimp only; omega⟩
      · exact hS q hq
    · apply Int32.toInt_inj.mp
      rw [Int8.toInt_toInt32, Int8.toInt_ofInt_of_le (by omega) (by omega)]
      exact (i32_of ⟨by omega, by omega⟩).symm
  · obtain ⟨h1, hf⟩ := j_if hf
    cases hf
    have : n = 3 := hlen (by simp [a_len])
    subst this
    refine jw_st hx hb hdec k hu (fun _ hS _ _ q hq => ?_) (fun _ _ _ _ ad H locs ls _ _ _ _ cells slots K => lv_sipush hx hb hdc ?_ K)
    · rcases List.mem_cons.mp hq with rfl | hq
      · exact OkV.int ⟨by dsimp only; omega, by dsimp only; omega⟩
      · exact hS q hq
    · apply Int32.toInt_inj.mp
      rw [Int16.toInt_toInt32, Int16.toInt_ofInt_of_le (by omega) (by omega)]
      exact (i32_of ⟨by omega, by omega⟩).symm
  · cases hf
    have : n = 1 := hlen (by simp [a_len])
    subst this
    refine jw_st hx hb hdec k hu (fun _ hS _ _ q hq => ?_) (fun _ _ _ _ ad H locs ls _ _ _ _ cells slots K => lv_lconst hx hb hdc ?_ K)
    · rcases List.mem_cons.mp hq with rfl | hq
      · exact OkV.long ⟨by dsimp only; omega, by dsimp only; omega⟩
      · exact hS q hq
    · rfl
  · split at hf
    · rename_i z1 z2 v hl
      cases hf
      have : n = 2 := hlen (by simp [a_len])
      subst this
      obtain ⟨hw, hi⟩ := hLK _ _ hl
      refine jw_st hx hb hdec k hu (fun _ hS _ _ q hq => ?_) (fun _ _ _ _ ad H locs ls _ _ _ _ cells slots K => lv_ldc hx hb hown (hts _ hw) hdc K)
      rcases List.mem_cons.mp hq with rfl | hq
      · exact OkV.int hi
      · exact hS q hq
    · cases hf
  · split at hf
    · rename_i z1 z2 v hl
      cases hf
      have : n = 3 := hlen (by simp [a_len])
      subst this
      obtain ⟨hw, hi⟩ := hLK _ _ hl
      refine jw_st hx hb hdec k hu (fun _ hS _ _ q hq => ?_) (fun _ _ _ _ ad H locs ls _ _ _ _ cells slots K => lv_ldcw hx hb hown (hts _ hw) hdc K)
      rcases List.mem_cons.mp hq with rfl | hq
      · exact OkV.int hi
      · exact hS q hq
    · cases hf
  · split at hf
    · rename_i z1 z2 v hl
      cases hf
      have : n = 3 := hlen (by simp [a_len])
      subst this
      obtain ⟨hw, hi⟩ := hLK _ _ hl
      refine jw_st hx hb hdec k hu (fun _ hS _ _ q hq => ?_) (fun _ _ _ _ ad H locs ls _ _ _ _ cells slots K => lv_ldc2 hx hb hown (hts _ hw) hdc K)
      rcases List.mem_cons.mp hq with rfl | hq
      · exact OkV.long hi
      · exact hS q hq
    · cases hf
  · split at hf
    · rename_i kd z2 v hl
      cases hf
      have : n = 3 := hlen (by simp [a_len])
      subst this
      obtain ⟨C, nm, d, hz, hk, hw⟩ := hLK _ _ hl
      have hz := hZs _ _ _ _ hz
      refine jw_st hx hb hdec k hu (fun _ hS _ _ q hq => ?_) (fun _ _ _ _ ad H locs ls _ _ g3 _ cells slots K => ?_)
      · rcases List.mem_cons.mp hq with rfl | hq
        · rcases hk with ⟨rfl, hv⟩ | rfl
          · exact OkV.word hv
          · exact OkV.four
        · exact hS q hq
      · have ev : w_v (fun _ => 0) adW aT 0 kd v = w_v ad adW aT aS kd v := by
          rcases hk with ⟨rfl, h⟩ | rfl <;> rfl
        rw [ev] at hz
        rcases hw with hw | ⟨h, hw⟩
        · exact va_gets hx hb hz g3 hown (hts _ hw) (fun _ q => q) hdc K
        · exact va_getsN hx hb hz g3 hown (hts _ hw) (fun _ q => q) hdc K
    · cases hf
  · cases hf
theorem k_cl1 {kd : Nat} (h : k_cl kd = 1) : kd = 1 := by
  unfold k_cl at h
  split at h
  · assumption
  · split at h <;> omega
theorem k_cl2 {kd : Nat} (h : k_cl kd = 2) : kd = 2 := by
  unfold k_cl at h
  split at h
  · omega
  · split at h <;> omega
theorem k_cl3 {kd : Nat} (h : k_cl kd = 3) (h0 : kd ≠ 0) : 3 ≤ kd := by
  unfold k_cl at h
  split at h
  · omega
  · split at h <;> omega
theorem z_load (hx : p.tables.exec = Jvm.exec) (hb : c.code = cc) (hdec : DecOk dec cc) :
    ∀ pc p' cl0 i kd τ en S st, c_ins dec pc a_load = some ((cl0, i), p') → τ[i]? = some kd → kd ≠ 0 → k_cl kd = cl0 → en.length = τ.length → JW p l e R s m args below meth c Q nL D cl cA A adW aT aS ck c0 d0 n0 ad0 (j_ult dec p') τ en ((kd, en.getD i 0) :: S) st → JW p l e R s m args below meth c Q nL D cl cA A adW aT aS ck c0 d0 n0 ad0 (j_ult dec pc) τ en S st := by
  intro pc p' cl0 i kd τ en S st h hτ hk hcl hlen k
  obtain ⟨ii, n, hd, hf, rfl⟩ := c_ins_spec h
  obtain ⟨hdc, hln⟩ := hdec _ _ _ hd
  have hg : a_goto ii = none := by
    cases hgo : a_goto ii with
    | none => rfl
    | some off =>
      rw [a_goto_s hgo] at hf
      cases hf
  have hu := ult_ins hd hg
  have hi : i < τ.length := (List.getElem?_eq_some_iff.mp hτ).1
  have hgD : τ.getD i 0 = kd := by simp [List.getD, hτ]
  have hS' : OkS ck st → (∀ q ∈ S, OkV st.1.1 q.1 q.2) → (∀ i, τ.getD i 0 ≠ 0 → OkV st.1.1 (τ.getD i 0) (en.getD i 0)) → τ.length = nL → ∀ q ∈ ((kd, en.getD i 0) :: S), OkV st.1.1 q.1 q.2 := by
    intro _ hS hL _ q hq
    rcases List.mem_cons.mp hq with rfl | hq
    · have := hL i (by rw [hgD]; exact hk)
      rw [hgD] at this
      exact this
    · exact hS q hq
  have hls : ∀ (ad : Nat → Nat) (ls : Array Slot), lv_has ls nL (w_l ad adW aT aS τ en) → ls[i]? = some (.val (w_v ad adW aT aS kd (en.getD i 0))) := by
    intro ad ls h
    have hm : (i, w_v ad adW aT aS kd (en.getD i 0)) ∈ w_l ad adW aT aS τ en := w_l_mem.mpr ⟨hi, by rw [hgD]; exact hk, by rw [hgD]⟩
    exact h.2.2 _ hm
  have hr : 3 ≤ kd → ∀ ad : Nat → Nat, ∃ x, w_v ad adW aT aS kd (en.getD i 0) = .ref x := fun h ad => w_v_r h
  unfold a_load at hf
  split at hf <;> cases hf
  · have := k_cl1 hcl
    subst this
    have : n = 2 := hln (by simp [a_len])
    subst this
    exact jw_st hx hb hdec k hu hS' (fun _ _ _ _ ad H locs ls _ _ _ g4 cells slots K => lv_iload hx hb hdc (hls ad ls g4) K)
  · have := k_cl1 hcl
    subst this
    have : n = 1 := hln (by simp [a_len])
    subst this
    exact jw_st hx hb hdec k hu hS' (fun _ _ _ _ ad H locs ls _ _ _ g4 cells slots K => lv_iload_n hx hb hdc rfl (hls ad ls g4) K)
  · have := k_cl2 hcl
    subst this
    have : n = 2 := hln (by simp [a_len])
    subst this
    exact jw_st hx hb hdec k hu hS' (fun _ _ _ _ ad H locs ls _ _ _ g4 cells slots K => lv_lload hx hb hdc (hls ad ls g4) K)
  · have := k_cl2 hcl
    subst this
    have : n = 1 := hln (by simp [a_len])
    subst this
    exact jw_st hx hb hdec k hu hS' (fun _ _ _ _ ad H locs ls _ _ _ g4 cells slots K => lv_lload_n hx hb hdc rfl (hls ad ls g4) K)
  · have h3 := k_cl3 hcl hk
    have : n = 2 := hln (by simp [a_len])
    subst this
    refine jw_st hx hb hdec k hu hS' (fun _ _ _ _ ad H locs ls _ _ _ g4 cells slots K => ?_)
    obtain ⟨x, ex⟩ := hr h3 ad
    have g := hls ad ls g4
    rw [ex] at g
    refine lv_aload hx hb hdc g ?_
    rw [List.map_cons, ex] at K
    exact K
  · have h3 := k_cl3 hcl hk
    have : n = 1 := hln (by simp [a_len])
    subst this
    refine jw_st hx hb hdec k hu hS' (fun _ _ _ _ ad H locs ls _ _ _ g4 cells slots K => ?_)
    obtain ⟨x, ex⟩ := hr h3 ad
    have g := hls ad ls g4
    rw [ex] at g
    refine lv_aload_n hx hb hdc rfl g ?_
    rw [List.map_cons, ex] at K
    exact K
theorem z_store (hx : p.tables.exec = Jvm.exec) (hb : c.code = cc) (hdec : DecOk dec cc) :
    ∀ pc p' i kd v τ en S st, c_ins dec pc a_store = some ((k_cl kd, i), p') → k_fit τ i kd = true → en.length = τ.length → JW p l e R s m args below meth c Q nL D cl cA A adW aT aS ck c0 d0 n0 ad0 (j_ult dec p') (τ.set i kd) (en.set i v) S st → JW p l e R s m args below meth c Q nL D cl cA A adW aT aS ck c0 d0 n0 ad0 (j_ult dec pc) τ en ((kd, v) :: S) st := by
  intro pc p' i kd v τ en S st h hfit hlen k
  obtain ⟨ii, n, hd, hf, rfl⟩ := c_ins_spec h
  obtain ⟨hdc, hln⟩ := hdec _ _ _ hd
  have hg : a_goto ii = none := by
    cases hgo : a_goto ii with
    | none => rfl
    | some off =>
      rw [a_goto_s hgo] at hf
      cases hf
  have hu := ult_ins hd hg
  obtain ⟨f1, f2, f3, f4, f5⟩ := k_fit_spec hfit
  have k' := jw_ult hx hb hdec k
  rw [hu]
  refine ⟨k'.1, fun hok hS hL hc hd0 hτ ad H locs ls g1 g2 g3 g4 => ?_⟩
  have hv : OkV st.1.1 kd v := hS (kd, v) List.mem_cons_self
  have hL' : ∀ j, (τ.set i kd).getD j 0 ≠ 0 → OkV st.1.1 ((τ.set i kd).getD j 0) ((en.set i v).getD j 0) := by
    intro j hj
    by_cases e : j = i
    · subst e
      rw [getD_set_eq f1, getD_set_eq (by omega)]
      exact hv
    · rw [getD_set_ne e] at hj ⊢
      rw [getD_set_ne e]
      exact hL j hj
  have K := fun ls' h' => k'.2 hok (fun q hq => hS q (List.mem_cons_of_mem _ hq)) hL' hc hd0 (by rw [List.length_set]; exact hτ) ad H locs ls' g1 g2 g3 h'
  have hi : i < nL := by omega
  unfold a_store at hf
  split at hf
  · obtain ⟨e1, e2⟩ := Prod.mk.inj (Option.some.inj hf)
    subst e2
    have := k_cl1 e1.symm
    subst this
    have : n = 2 := hln (by simp [a_len])
    subst this
    exact lv_istore hx hb hdc g4 hi rfl (fun ls' h' => K ls' (lv_mono h' (wl_store hfit hlen (by decide))))
  · obtain ⟨e1, e2⟩ := Prod.mk.inj (Option.some.inj hf)
    subst e2
    have := k_cl1 e1.symm
    subst this
    have : n = 1 := hln (by simp [a_len])
    subst this
    exact lv_istore_n hx hb hdc rfl g4 hi rfl (fun ls' h' => K ls' (lv_mono h' (wl_store hfit hlen (by decide))))
  · obtain ⟨e1, e2⟩ := Prod.mk.inj (Option.some.inj hf)
    subst e2
    have := k_cl2 e1.symm
    subst this
    have : n = 2 := hln (by simp [a_len])
    subst this
    have hi2 := f5.resolve_left (fun h => h rfl)
    exact lv_lstore hx hb hdc g4 (by omega) rfl (fun ls' h' => K ls' (lv_mono h' (wl_storeL hfit hlen)))
  · obtain ⟨e1, e2⟩ := Prod.mk.inj (Option.some.inj hf)
    subst e2
    have := k_cl2 e1.symm
    subst this
    have : n = 1 := hln (by simp [a_len])
    subst this
    have hi2 := f5.resolve_left (fun h => h rfl)
    exact lv_lstore_n hx hb hdc rfl g4 (by omega) rfl (fun ls' h' => K ls' (lv_mono h' (wl_storeL hfit hlen)))
  · obtain ⟨e1, e2⟩ := Prod.mk.inj (Option.some.inj hf)
    subst e2
    have h3 := k_cl3 e1.symm f2
    have : n = 2 := hln (by simp [a_len])
    subst this
    obtain ⟨x, ex⟩ := w_v_r (ad := ad) (adW := adW) (aT := aT) (aS := aS) (v := v) h3
    rw [List.map_cons, ex]
    exact lv_astore hx hb hdc g4 hi rfl (fun ls' h' => K ls' (lv_mono h' (by rw [← ex]; exact wl_store hfit hlen (by omega))))
  · obtain ⟨e1, e2⟩ := Prod.mk.inj (Option.some.inj hf)
    subst e2
    have h3 := k_cl3 e1.symm f2
    have : n = 1 := hln (by simp [a_len])
    subst this
    obtain ⟨x, ex⟩ := w_v_r (ad := ad) (adW := adW) (aT := aT) (aS := aS) (v := v) h3
    rw [List.map_cons, ex]
    exact lv_astore_n hx hb hdc rfl g4 hi rfl (fun ls' h' => K ls' (lv_mono h' (by rw [← ex]; exact wl_store hfit hlen (by omega))))
  · cases hf
end JW1
