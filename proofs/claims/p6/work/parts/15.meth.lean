def RTok (rk : List Nat) (rz : Bool) (RT : Option FieldType) : Prop := match rk with
  | [] => RT = none
  | [1] => RT = some (if rz then .boolean else .int)
  | [2] => RT = some .long ∧ rz = false
  | [3] => (∃ n, RT = some (.object n)) ∧ rz = false
  | _ => False
section JWR
variable {p : Program} {l : Launch} {e : Env} {R : Room} {s : State} {m : MethodId} {args : Array Value} {below : List Frame} {meth : Method} {c : Code}
  {cc : ByteArray} {nL : Nat} {own : String} {Ts : List Cond} {D : va_G} {cl : List vw_C} {cA : Nat → ClassId} {A : Nat → Prop} {adW : Nat → Nat} {aT aS : Nat} {ck : Nat → List Nat} {c0 d0 n0 : Nat} {ad0 : Nat → Nat} {dec : XD} {lk lp : XK} {Zs : String → String → String → Value → Prop} {cW : Nat → Nat → Int} {xs : Nat → Int} {L : Nat}
  {rk : List Nat} {rz : Bool} {RT : Option FieldType} {rE : List Int} {stE : XT}
theorem j_lim {a b : Nat} : a ≤ b + (a - b) := by omega
theorem QB.of {s : State} {H : Heap} {locs : List Loc} {ad : Nat → Nat} {o : Outcome} {t : State} {Qa : Array Value} (hlen : rE.length = rk.length) (h1 : ∀ k, k < n0 → ad k = ad0 k) (h2 : o = .returned (w_ret ad adW aT aS rk rE)) (h3 : OkS ck stE) (h4 : ∀ q ∈ rk.zip rE, OkV stE.1.1 q.1 q.2) (h5 : va_P D cl (w_w cA ad stE) H) (h6 : va_D A (w_w cA ad stE)) (h7 : va_S A s.heap H locs) (ht : t.heap = H) : QB D cl cA A adW aT aS ck rk rE n0 ad0 stE Qa s o t :=
  ⟨ad, h1, h2, h3, h4, by rw [ht]; exact h5, h6, h7.F ht⟩
theorem z_ret (hx : p.tables.exec = Jvm.exec) (hb : c.code = cc) (hdec : DecOk dec cc) (hrt : meth.sig.returnType = RT) (hRT : RTok rk rz RT) (hlocks : meth.locks = false) (hR : R.cells = stE.1.2.1 - c0 ∧ R.slots = stE.1.2.2 - d0) :
    ∀ pc kd v τ en st, rk = [kd] → rz = false → kd ≠ 0 → c_op0 dec pc (10 + k_cl kd) = true → ([v] = rE ∧ st = stE) → JW p l e R s m args below meth c (MQ below (QB D cl cA A adW aT aS ck rk rE n0 ad0 stE) args s (stE.1.2.1 - c0) (stE.1.2.2 - d0) A) nL D cl cA A adW aT aS ck c0 d0 n0 ad0 (j_ult dec pc) τ en [(kd, v)] st := by
  intro pc kd v τ en st hk hz hkd h hE
  obtain ⟨rfl, rfl⟩ := hE
  subst hk
  obtain ⟨ii, hd, hf⟩ := c_op0_spec h
  obtain ⟨hdc, hln⟩ := hdec _ _ _ hd
  rw [ult_ins hd (ng0 hf (by omega))]
  refine ⟨⟨by rw [hR.1]; exact j_lim, by rw [hR.2]; exact j_lim⟩, fun hok hS hL h4 h5 h6 ad H locs ls g1 g2 g3 g4 => ?_⟩
  have hq : ∀ o, o = Outcome.returned (w_ret ad adW aT aS [kd] [v]) → ∀ t : State, t.heap = H → s.WarmedH t.vm → QB D cl cA A adW aT aS ck [kd] [v] n0 ad0 st args s o t := fun o ho t ht _ => QB.of rfl g2.2 ho hok hS g1 g2.1 g3 ht
  have hfr : ∀ q ∈ locs, A q.base := g3.2.2
  unfold RTok at hRT
  split at hRT
  · rename_i e
    cases e
  · rename_i e
    cases e
    rw [hz] at hRT
    have hi : ii = .ireturn := by
      unfold a_op0 at hf
      split at hf <;> first | rfl | cases hf
    subst hi
    exact W.iret hx hb (hrt.trans hRT) (hq _ rfl) hfr hdc hlocks
  · rename_i e
    cases e
    have hi : ii = .lreturn := by
      unfold a_op0 at hf
      split at hf <;> first | rfl | cases hf
    subst hi
    exact W.lret hx hb (hrt.trans hRT.1) (hq _ rfl) hfr hdc hlocks
  · rename_i e
    cases e
    have hi : ii = .areturn := by
      unfold a_op0 at hf
      split at hf <;> first | rfl | cases hf
    subst hi
    obtain ⟨n, hn⟩ := hRT.1
    exact W.aret hx hb (hrt.trans hn) (Or.inl ⟨n, rfl⟩) (Or.inr ⟨_, rfl⟩) (hq _ rfl) hfr hdc hlocks
  · cases hRT
theorem z_retz (hx : p.tables.exec = Jvm.exec) (hb : c.code = cc) (hdec : DecOk dec cc) (hrt : meth.sig.returnType = RT) (hRT : RTok rk rz RT) (hlocks : meth.locks = false) (hR : R.cells = stE.1.2.1 - c0 ∧ R.slots = stE.1.2.2 - d0) :
    ∀ pc v τ en st, rk = [1] → rz = true → c_op0 dec pc 11 = true → (v = 0 ∨ v = 1) → ([v] = rE ∧ st = stE) → JW p l e R s m args below meth c (MQ below (QB D cl cA A adW aT aS ck rk rE n0 ad0 stE) args s (stE.1.2.1 - c0) (stE.1.2.2 - d0) A) nL D cl cA A adW aT aS ck c0 d0 n0 ad0 (j_ult dec pc) τ en [(1, v)] st := by
  intro pc v τ en st hk hz h hv hE
  obtain ⟨rfl, rfl⟩ := hE
  subst hk
  subst hz
  obtain ⟨ii, hd, hf⟩ := c_op0_spec h
  obtain ⟨hdc, hln⟩ := hdec _ _ _ hd
  rw [ult_ins hd (ng0 hf (by omega))]
  refine ⟨⟨by rw [hR.1]; exact j_lim, by rw [hR.2]; exact j_lim⟩, fun hok hS hL h4 h5 h6 ad H locs ls g1 g2 g3 g4 => ?_⟩
  have hq : ∀ o, o = Outcome.returned (w_ret ad adW aT aS [1] [v]) → ∀ t : State, t.heap = H → s.WarmedH t.vm → QB D cl cA A adW aT aS ck [1] [v] n0 ad0 st args s o t := fun o ho t ht _ => QB.of rfl g2.2 ho hok hS g1 g2.1 g3 ht
  have hi : ii = .ireturn := by
    unfold a_op0 at hf
    split at hf <;> first | rfl | cases hf
  subst hi
  refine W.zret (ty := .boolean) hx hb (hrt.trans hRT) ?_ (hq _ rfl) g3.2.2 hdc hlocks
  rcases hv with rfl | rfl <;> rfl
theorem z_retv (hx : p.tables.exec = Jvm.exec) (hb : c.code = cc) (hdec : DecOk dec cc) (hrt : meth.sig.returnType = RT) (hRT : RTok rk rz RT) (hlocks : meth.locks = false) (hR : R.cells = stE.1.2.1 - c0 ∧ R.slots = stE.1.2.2 - d0) :
    ∀ pc τ en st, rk = [] → c_op0 dec pc 14 = true → ([] = rE ∧ st = stE) → JW p l e R s m args below meth c (MQ below (QB D cl cA A adW aT aS ck rk rE n0 ad0 stE) args s (stE.1.2.1 - c0) (stE.1.2.2 - d0) A) nL D cl cA A adW aT aS ck c0 d0 n0 ad0 (j_ult dec pc) τ en [] st := by
  intro pc τ en st hk h hE
  obtain ⟨rfl, rfl⟩ := hE
  subst hk
  obtain ⟨ii, hd, hf⟩ := c_op0_spec h
  obtain ⟨hdc, hln⟩ := hdec _ _ _ hd
  rw [ult_ins hd (ng0 hf (by omega))]
  refine ⟨⟨by rw [hR.1]; exact j_lim, by rw [hR.2]; exact j_lim⟩, fun hok hS hL h4 h5 h6 ad H locs ls g1 g2 g3 g4 => ?_⟩
  have hi : ii = .return_ := by
    unfold a_op0 at hf
    split at hf <;> first | rfl | cases hf
  subst hi
  exact W.vret hx hb (hrt.trans hRT) (fun t ht _ => QB.of rfl g2.2 rfl hok (fun q hq => by cases hq) g1 g2.1 g3 ht) g3.2.2 hdc hlocks
def nsee : String := "java/util/NoSuchElementException"
def nseeN : List String := ["java/lang/RuntimeException", "java/lang/Exception"]
/-- what the table says of the throw -/
def LT (Ts : List Cond) (own : String) (lk : XK) : Prop := ∀ ik z ic z', lk ik = some (8, z) → lk ic = some (9, z') → Cond.classLink own ik nsee ∈ Ts ∧ Cond.initialized nsee ∈ Ts ∧ (∀ w ∈ vx_at0 own ic nsee nseeN, w ∈ Ts) ∧ ∀ w ∈ Cond.classLink own ik nsee :: Cond.initialized nsee :: vx_at0 own ic nsee nseeN, vx_ot w = true
/-- what a throw leaves -/
def QX (D : va_G) (cl : List vw_C) (cA : Nat → ClassId) (A : Nat → Prop) (ck : Nat → List Nat) (n0 : Nat) (ad0 : Nat → Nat) (st' : XT) : String → State → State → Prop := fun E s0 t =>
  E = nsee ∧ ∃ ad : Nat → Nat, (∀ k, k < n0 → ad k = ad0 k) ∧ OkS ck st' ∧ va_P D cl (w_w cA ad st') t.heap ∧ va_D A (w_w cA ad st') ∧ va_F A s0 t
theorem c_throw_s {pc : Nat} (h : c_throw dec lk pc = true) : ∃ ik z ic z', dec pc = some (.new ik, 3) ∧ lk ik = some (8, z) ∧ dec (pc + 3) = some (.dup, 1) ∧ dec (pc + 4) = some (.invokespecial ic, 3) ∧ lk ic = some (9, z') ∧ dec (pc + 7) = some (.athrow, 1) := by
  unfold c_throw at h
  split at h
  · rename_i z p' he
    obtain ⟨ii, n, hd, hf, hp⟩ := c_ins_spec he
    simp only [Bool.and_eq_true, beq_iff_eq] at h
    obtain ⟨⟨⟨h1, h2⟩, h3⟩, h4⟩ := h
    have hn : n = 3 := by omega
    subst hn
    unfold a_new at hf
    split at hf
    · rename_i ik
      obtain ⟨i1, hd1, hf1⟩ := c_op0_spec h2
      obtain ⟨i2, hd2, hf2⟩ := c_op0_spec h3
      have e1 : i1 = .dup := by
        unfold a_op0 at hf1
        split at hf1 <;> first | rfl | cases hf1
      have e2 : i2 = .athrow := by
        unfold a_op0 at hf2
        split at hf2 <;> first | rfl | cases hf2
      subst e1; subst e2
      split at h4
      · rename_i ic n4 hd4
        simp only [Bool.and_eq_true, beq_iff_eq] at h4
        obtain ⟨h5, h6⟩ := h4
        subst h5
        split at h6
        · rename_i z' hl'
          exact ⟨ik, z, ic, z', hd, hf, hd1, hd4, hl', hd2⟩
        · cases h6
      · cases h4
    · cases hf
  · cases h
theorem z_throw {Qc : Array Value → State → Outcome → State → Prop} {XC : String → State → State → Prop} (hXC : ∀ E s0 t, QX D cl cA A ck n0 ad0 stE E s0 t → XC E s0 t) (hx : p.tables.exec = Jvm.exec) (hb : c.code = cc) (hdec : DecOk dec cc) (hml : c.maxLocals = nL) (hl : l.stackTraces = false) (hown : s.vm.findClass own = some m.cls) (hts : ∀ w ∈ Ts, w.before args s = true) (hLT : LT Ts own lk) (hSF : SF Zs adW aT aS cW xs L A s s.heap) (hlocks : meth.locks = false) (hexc : ∀ x ∈ c.exceptionTable.toList, False) (hR : R.cells = stE.1.2.1 - c0 ∧ R.slots = stE.1.2.2 - d0 ∧ 10 ≤ R.frames ∧ 120 ≤ R.locals) :
    ∀ pc τ en (st : XT), c_throw dec lk pc = true → ((st.1.1, st.1.2.1 + 1, st.1.2.2 + 6), st.2) = stE → JW p l e R s m args below meth c (vx_MQ below Qc XC args s (stE.1.2.1 - c0) (stE.1.2.2 - d0) A) nL D cl cA A adW aT aS ck c0 d0 n0 ad0 (j_ult dec pc) τ en [] st := by
  intro pc τ en st h hE
  obtain ⟨ik, z, ic, z', q1, q2, q3, q4, q5, q6⟩ := c_throw_s h
  obtain ⟨t1, t2, t3, t4⟩ := hLT _ _ _ _ q2 q5
  rw [ult_ins q1 rfl]
  have e1 : stE.1.2.1 = st.1.2.1 + 1 := by rw [← hE]
  have e2 : stE.1.2.2 = st.1.2.2 + 6 := by rw [← hE]
  refine ⟨⟨by rw [hR.1]; omega, by rw [hR.2.1]; omega⟩, fun hok hS hL h4 h5 h6 ad H locs ls g1 g2 g3 g4 => ?_⟩
  have h41 := h4.1
  have ew : w_w cA ad stE = w_w cA ad st := by rw [← hE]; rfl
  have hok' : OkS ck stE := by rw [← hE]; exact hok
  obtain ⟨-, -, -, -, -, -, -, -, -, -, hU, hN⟩ := hSF
  refine vx_throw0 (cls := nsee) (names := nseeN) hx hb hl hown (by decide +kernel) (by decide +kernel) (hts _ t1) (hts _ t2) (fun w hw => hts _ (t3 w hw)) t4 hU hN g3 (g4.1.trans hml.symm) (hdec _ _ _ q1).1 (hdec _ _ _ q3).1 (hdec _ _ _ q4).1 (hdec _ _ _ q6).1 (fun x hx => (hexc x hx).elim) (Nat.lt_of_lt_of_le (show nseeN.length + 3 < 10 by decide) hR.2.2.1) ?_ (by rw [hR.1]; omega) (by rw [hR.2.1]; omega) hlocks (fun t hal hz hq => ?_) g3.2.2 (by omega) (by omega)
  · exact Nat.le_trans (Nat.le_of_ble_eq_true rfl) hR.2.2.2
  · refine hXC _ _ _ ⟨rfl, ad, g2.2, hok', ?_, by rw [ew]; exact g2.1, Nat.le_trans g3.1 hz, fun q h1 h2 => ?_⟩
    · rw [ew]
      exact fun k y hk => (g1 k y hk).kept (hq _ (g1 k y hk).lt)
    · rw [hq q (Nat.lt_of_lt_of_le h1 g3.1)]
      exact g3.2.1 q h1 h2
theorem layT2 (pk : List Nat) : j_layT (2 :: pk) = 2 :: 0 :: j_layT pk := rfl
theorem layT1 {k : Nat} (h : k ≠ 2) (pk : List Nat) : j_layT (k :: pk) = k :: j_layT pk := if_neg h
theorem lay2 (pk : List Nat) (v : Int) (av : List Int) : j_lay (2 :: pk) (v :: av) = v :: 0 :: j_lay pk av := rfl
theorem lay1 {k : Nat} (h : k ≠ 2) (pk : List Nat) (v : Int) (av : List Int) : j_lay (k :: pk) (v :: av) = v :: j_lay pk av := if_neg h
/-- the start of a method: its locals -/
theorem lay_args {ad : Nat → Nat} : ∀ (pk : List Nat) (av : List Int) (base i : Nat), av.length = pk.length → (j_layT pk).getD i 0 ≠ 0 → (base + i, w_v ad adW aT aS ((j_layT pk).getD i 0) ((j_lay pk av).getD i 0)) ∈ lv_args base ((pk.zip av).map fun q => w_v ad adW aT aS q.1 q.2)
  | [], _, _, i, _, h => absurd (by simp [j_layT]) h
  | k :: pk, [], _, _, h0, _ => by cases h0
  | k :: pk, v :: av, base, i, h0, h => by
    have h0' : av.length = pk.length := by simpa using h0
    by_cases hk : k = 2
    · subst hk
      rw [layT2] at h ⊢
      rw [lay2]
      match i, h with
      | 0, h => exact List.mem_cons_self
      | 1, h => exact absurd rfl h
      | i + 2, h =>
        have := lay_args (ad := ad) pk av (base + 2) i h0' h
        have e : base + 2 + i = base + (i + 2) := by omega
        rw [e] at this
        exact List.mem_cons_of_mem _ this
    · rw [layT1 hk] at h ⊢
      rw [lay1 hk]
      have ec : (if (w_v ad adW aT aS k v).category = 2 then base + 2 else base + 1) = base + 1 := by
        rw [w_cat]
        unfold k_cat
        rw [if_neg hk]
        rfl
      match i, h with
      | 0, h => exact List.mem_cons_self
      | i + 1, h =>
        have := lay_args (ad := ad) pk av (base + 1) i h0' h
        have e : base + 1 + i = base + (i + 1) := by omega
        rw [e, ← ec] at this
        exact List.mem_cons_of_mem _ this
theorem pad_getD {α : Type} {z : α} {n : Nat} {l : List α} {i : Nat} : (j_pad z n l).getD i z = l.getD i z := by
  unfold j_pad
  simp only [List.getD]
  by_cases h : i < l.length
  · rw [List.getElem?_append_left h]
  · rw [List.getElem?_append_right (by omega), List.getElem?_eq_none (l := l) (by omega)]
    cases hq : (List.replicate (n - l.length) z)[i - l.length]? with
    | none => rfl
    | some y =>
      have := List.mem_of_getElem? hq
      rw [List.eq_of_mem_replicate this]
      rfl
theorem lay_len : ∀ (pk : List Nat) (av : List Int), av.length = pk.length → (j_lay pk av).length = (j_layT pk).length
  | [], [], _ => rfl
  | [], _ :: _, h => by cases h
  | k :: pk, [], h => by cases h
  | k :: pk, v :: av, h => by
    have h' := lay_len pk av (by simpa using h)
    by_cases hk : k = 2
    · subst hk
      rw [layT2, lay2]
      simp [h']
    · rw [layT1 hk, lay1 hk]
      simp [h']
/-- kinds of the locals at the start are those of the arguments -/
theorem lay_ok {g : XS} : ∀ (pk : List Nat) (av : List Int) (i : Nat), av.length = pk.length → (∀ q ∈ pk.zip av, OkV g q.1 q.2) → (j_layT pk).getD i 0 ≠ 0 → OkV g ((j_layT pk).getD i 0) ((j_lay pk av).getD i 0)
  | [], _, i, _, _, h => absurd (by simp [j_layT]) h
  | k :: pk, [], _, h0, _, _ => by cases h0
  | k :: pk, v :: av, i, h0, hq, h => by
    have h0' : av.length = pk.length := by simpa using h0
    have hq0 : OkV g k v := hq (k, v) List.mem_cons_self
    have hq1 : ∀ q ∈ pk.zip av, OkV g q.1 q.2 := fun q hz => hq q (List.mem_cons_of_mem _ hz)
    by_cases hk : k = 2
    · subst hk
      rw [layT2] at h ⊢
      rw [lay2]
      match i, h with
      | 0, h => exact hq0
      | 1, h => exact absurd rfl h
      | i + 2, h => exact lay_ok pk av i h0' hq1 h
    · rw [layT1 hk] at h ⊢
      rw [lay1 hk]
      match i, h with
      | 0, h => exact hq0
      | i + 1, h => exact lay_ok pk av i h0' hq1 h
end JWR
