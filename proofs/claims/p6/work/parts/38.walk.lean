/-! ===== the law's walk: what its tree answers is what it answers (written by wip/tools/lawpart.py) ===== -/
def R_law : String := "FeederSharesLaw"
def lw_P (b : Addr) (xs : List Int32) (args : Array Value) (s : State) : Prop := args = #[.ref b] ∧ s.IntsAt b xs ∧ xs.length ≤ 3584 ∧ (Jvm.Cond.and given_1 narrow_1).before args s = true
def lw_Q (_ : Array Value) (s : State) (o : Outcome) (t : State) : Prop := o = .returned (some (.int 1)) ∧ Framed s o t [] 601024 7293034
def lw_Z (below : List Frame) (a : Array Value) (s : State) : State → Prop := fun t => ∃ o, t.status = .running ∧ Ended t below o ∧ lw_Q a s o t
/-- the law's own end, with 1 on the stack, nothing written that was there before, its room as the claim has it -/
theorem lw_ret {p : Program} {l : Launch} {e : Env} {s : State} {m : MethodId} {below : List Frame} {meth : Method} {c : Code} {b : Nat} (hx : p.tables.exec = Jvm.exec) (hb : c.code = code) (hr : meth.sig.returnType = ret) (hlocks : meth.locks = false) {pc : Nat} {H : Heap} {ls : Array Slot} (hdg : decode code pc = .ok (.ireturn, 1)) : W p l e room_1 s m #[Value.ref b] below meth c H [] 601024 7293034 (lw_Z below #[Value.ref b] s) (F0 m pc ls [.int 1]) := by
  intro T hT X
  obtain ⟨fs, hret, hrun, hended, hW, hframe⟩ := X.leave (v := some (.int 1)) (hlocks := hlocks) (fun h => by rw [hr] at h; cases h)
  have hmeth' : T.vm.method? m = some meth := X.method'
  refine ⟨T.setFrames fs, ?_, .returned (some (.int 1)), hrun, hended, rfl, ⟨_, rfl⟩, hW, hframe⟩
  jvm_step X.here [X.here.top, hx, hb, hdg, hmeth', hr, ret, narrow_b1]
  (try refine ⟨rfl, ?_⟩); (try refine ⟨rfl, ?_⟩)
  first | (intro acts; rw [hret _ acts rfl rfl rfl]) | rw [hret _ _ rfl rfl rfl]
  exact Steps.refl _
/-- what holds at the law's entry: the machine, the code, the tables' words (any of lw_tbl by 'hts w (by decide +kernel)'), the script of L ints xs at the cell b, what the Statement gives of the start (any of its parts by flat_of_before) -/
def lw_At (p : Program) (s : State) (m : MethodId) (meth : Method) (c : Code) (b L : Nat) (xs : Nat → Int32) : Prop :=
  p.tables.exec = Jvm.exec ∧ c.code = code ∧ meth.sig.returnType = ret ∧ c.maxLocals = 7 ∧ s.vm.findClass R_law = some m.cls ∧ (∀ w ∈ lw_tbl, w.before #[Value.ref b] s = true) ∧ va_X b L xs s s.heap ∧ b < s.heap.size ∧ meth.locks = false ∧ (Jvm.Cond.and given_1 narrow_1).before #[Value.ref b] s = true
section LAWW
variable {p : Program} {e : Env} {s : State} {m : MethodId} {below : List Frame} {meth : Method} {c : Code} {l : Launch} {b L : Nat} {xs : Nat → Int32}
/-- the law's tree, from nothing -/
def ev_law (xs : Nat → Int) (L K n : Nat) : Option (Nat × List Int × List Int × XT) := evS xs L g_ck (evF xs L g_ck K g_cW g_M n) K g_cW bb_332 [0, 0, 0, 0, 0, 0, 0] (([], 0, 0), fun _ _ => 0)
theorem law_walk (hl : l.stackTraces = false) (hL : L < 2147483648) (C0 : lw_At p s m meth c b L xs) {K n : Nat} (hn : n ≤ 1000) {en' : List Int} {st' : XT} (hE : ev_law (fun j => (xs j).toInt) L K n = some (1, [1], en', st')) (hc : st'.1.2.1 ≤ 601024) (hs : st'.1.2.2 ≤ 7293034) :
    W p l e room_1 s m #[Value.ref b] below meth c s.heap [] 0 0 (lw_Z below #[Value.ref b] s) (entryFrame m ([Value.ref b] : List Value).toArray 7) := by
  obtain ⟨hx, hb, hr, hml, hown, hts, hX, hbl, hlocks, hgv⟩ := id C0
  obtain ⟨D, cA, adW, aT, hK, hSF, hWi⟩ := g_world hts hX hbl hL hgv
  have hdec : DecOk (d_tab g_ld) code := d_ok g_ld_ok
  have htn : ∀ w ∈ lw_nic, w.before #[Value.ref b] s = true := fun w hw => hts w (nic_sub hw)
  have hw0 : ∀ w ∈ lw_nic, w.before #[] s = true := fun w hw => nw_at (nic_nice w hw) (show s.WarmedH s.vm from State.WarmedH.refl s) (htn w hw)
  have hG := fun f => g_GD (adW := adW) (aT := aT) f
  have hTa : ∀ ty : FieldType, (ty = .int ∨ ty = .long ∨ ty = .byte ∨ ty = .boolean) → Cond.arrayClass ty ∈ lw_nic := fun ty h => by
    rcases h with rfl | rfl | rfl | rfl
    · exact na_7
    · exact na_8
    · exact na_9
    · exact na_10
  have hAll := all_ok (l := l) (D := D) (cA := cA) (A := fun q => s.heap.size ≤ q) (aS := b) (cW := g_cW) (xs := fun j => (xs j).toInt) (L := L) (K := K) hl nic_nice g_CF hWi hTa hG
  have HC := clo (p := p) (l := l) (e := e) (R := room_1) (s := s) (m := m) (below := below) (meth := meth) (c := c) (nL := 7) (D := D) (cl := g_cl) (cA := cA) (A := fun q => s.heap.size ≤ q) (adW := adW) (aT := aT) (aS := b) (ck := g_ck) (c0 := 0) (d0 := 0) (n0 := 0) (ad0 := fun _ => 0) (dec := d_tab g_ld) (lk := q_lk lk_11) (lp := q_lk pn_11) (Zs := g_Zs g_wn adW aT) (cW := g_cW) (xs := fun j => (xs j).toInt) (L := L) (Y := g_Y) (CC := g_CC) (ML := m_L g_M) (RT := g_RT) (PK := m_P g_M) (RK := m_R g_M) (F := evF (fun j => (xs j).toInt) L g_ck K g_cW g_M n) (n := n) (thr := g_THR) (rt := [1]) (rz := true) (hnd := fun _ => none)
    (Q := lw_Z below #[Value.ref b] s) (RR := fun v z => v = [1] ∧ z = st') (XX := fun _ => False) (args := #[Value.ref b]) (own := R_law) (Ts := lw_nic) (cc := code)
    hx hb hdec hml hown hw0 htn nic_nice g_CF hK hSF (fun _ h => h) hWi hTa (FO_of g_cl g_ck g_wn g_Y g_RT (m_P g_M) (own := R_law) (ini := false) (gcL_all 11) (gcP_all 11 false) (fun h => by cases h)) (fun f => GD.mf (hG f)) (fun f => (hAll n f).1) (by
      show n + 11 ≤ 2048 ∧ 60 * n + 360 ≤ 84000
      constructor <;> omega) (evF_mono n) (evF_len (fun f => GD.chk (hG f)) n)
    (fun _ _ _ _ _ _ _ h => by cases h) (fun _ _ _ _ h => by cases h) (fun _ _ _ _ _ h => h.elim) (fun _ _ _ _ _ _ _ _ _ _ _ _ _ _ h => by cases h) (by
      intro pc v τ en st _ _ h hv hE
      obtain ⟨hv1, rfl⟩ := hE
      cases hv1
      obtain ⟨ii, hd, hf⟩ := c_op0_spec h
      obtain ⟨hdc, hln⟩ := hdec _ _ _ hd
      rw [ult_ins hd (ng0 hf (by omega))]
      have hi : ii = .ireturn := by
        unfold a_op0 at hf
        split at hf <;> first | rfl | cases hf
      subst hi
      refine ⟨⟨by rw [Nat.zero_add]; exact hc, by rw [Nat.zero_add]; exact hs⟩, fun hok hS hLo h4 h5 h6 ad H locs ls g1 g2 g3 g4 => ?_⟩
      exact va_forget (fun q hq => g3.2.2 q hq) (W.widen (by omega) (by omega) (lw_ret hx hb hr hlocks hdc)))
  have hlawK := g_lawK
  rw [Option.map_eq_some_iff] at hlawK
  obtain ⟨⟨τ', pc', z⟩, hc1, hz⟩ := hlawK
  dsimp only at hz
  subst hz
  have key := (snd_S (K := K) HC bb_332).1 _ _ _ _ _ _ _ _ _ _ _ _ _ _ _ hc1 (by decide) (by decide) hE
  have J0 := key.2.2.2.2.2 (fun h => by cases h) (fun _ => ⟨rfl, rfl⟩) (fun h => by cases h) (fun h => by cases h) (fun h => by cases h)
  have J1 := jw_ult hx hb hdec J0
  have hlo := lv_entry ([.ref b]) (n := 7) (Nat.le_of_ble_eq_true rfl)
  have W0 := J1.2 (fun o c h => by cases h) (fun q hq => by cases hq) (fun i hi => ?_) ⟨Nat.le_refl _, Nat.le_refl _⟩ (Nat.le_refl _) rfl (fun _ => 0) s.heap [] _ (fun k q h => (by cases h)) ⟨⟨fun i j p q h => (by cases h), fun k q h => (by cases h)⟩, fun _ _ => rfl⟩ va_S.rf (lv_mono hlo (fun q hq => ?_))
  · rw [lg_entry_eq]
    exact W0
  · match i, hi with
    | 0, _ => exact ⟨fun e => (by cases e), fun e => (by cases e), fun e => (by cases e), fun e => absurd e (by decide), by decide⟩
    | 1, hi => exact absurd rfl hi
    | 2, hi => exact absurd rfl hi
    | 3, hi => exact absurd rfl hi
    | 4, hi => exact absurd rfl hi
    | 5, hi => exact absurd rfl hi
    | 6, hi => exact absurd rfl hi
    | i + 7, hi => exact absurd rfl hi
  · obtain ⟨a1, a2, a3⟩ := w_l_mem.mp hq
    obtain ⟨k, v⟩ := q
    dsimp only at a1 a2 a3
    match k, a2 with
    | 0, _ => rw [a3]; exact List.mem_cons_self
    | 1, hi => exact absurd rfl hi
    | 2, hi => exact absurd rfl hi
    | 3, hi => exact absurd rfl hi
    | 4, hi => exact absurd rfl hi
    | 5, hi => exact absurd rfl hi
    | 6, hi => exact absurd rfl hi
    | i + 7, hi => exact absurd rfl hi
end LAWW
