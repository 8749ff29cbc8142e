section
/-! ===== the law's walk: what its tree answers is what it answers (written by wip/tools/lawpart.py) ===== -/
def R_law : String := "FeederSharesLaw"
def lw_P (b : Addr) (xs : List Int32) (args : Array Value) (s : State) : Prop := args = #[.ref b] ∧ s.IntsAt b xs ∧ xs.length ≤ 3584 ∧ (Jvm.Cond.and given_1 narrow_1).before args s = true
def lw_Q (_ : Array Value) (s : State) (o : Outcome) (t : State) : Prop := o = .returned (some (.int 1)) ∧ Framed s o t [] 601024 7293034
def lw_Z (below : List Frame) (a : Array Value) (s : State) : State → Prop := fun t => ∃ o, t.status = .running ∧ Ended t below o ∧ lw_Q a s o t
/-- the law's own end, with 1 on the stack, nothing written that was there before, its room as the claim has it -/
theorem lw_ret {p : Program} {l : Launch} {e : Env} {s : State} {m : MethodId} {below : List Frame} {meth : Method} {c : Code} {b : Nat} (hx : p.tables.exec = Jvm.exec) (hb : c.code = code) (hr : meth.sig.returnType = ret) (hlocks : meth.locks = false) {pc : Nat} {H : Heap} {ls : Array Slot} (hdg : decode code pc = .ok (.ireturn, 1)) : W p l e room_1 s m #[Value.ref b] below meth c H [] 601024 7293034 (lw_Z below #[Value.ref b] s) (F0 m pc ls [.int 1]) := by
  intro T hT X
  obtain ⟨fs, hret, hrun, hended, hW, hframe⟩ := X.leave (v := some (.int 1)) (hlocks := hlocks) (fun h => by rw [hr] at h; cases h)
  have hmeth' : T.vm.method? m = some meth := X.method'
  refine ⟨T.setFrames fs, ?_, .returned (some (.int 1)), hrun, hended, rfl, ⟨_, rfl⟩, hW, hframe⟩
  jvm_step X.here [X.here.top, hx, hb, hdg, hmeth', hr, ret, narrow_b1]
  (try refine ⟨rfl, ?_⟩); (try refine ⟨rfl, ?_⟩)
  first | (intro acts; rw [hret _ acts rfl rfl rfl]) | rw [hret _ _ rfl rfl rfl]
  exact Steps.refl _
/-- what holds at the law's entry: the machine, the code, the tables' words (any of lw_tbl by 'hts w (by decide +kernel)'), the script of L ints xs at the cell b, what the Statement gives of the start (any of its parts by flat_of_before) -/
def lw_At (p : Program) (s : State) (m : MethodId) (meth : Method) (c : Code) (b L : Nat) (xs : Nat → Int32) : Prop :=
  p.tables.exec = Jvm.exec ∧ c.code = code ∧ meth.sig.returnType = ret ∧ c.maxLocals = 7 ∧ s.vm.findClass R_law = some m.cls ∧ (∀ w ∈ lw_tbl, w.before #[Value.ref b] s = true) ∧ va_X b L xs s s.heap ∧ b < s.heap.size ∧ meth.locks = false ∧ (Jvm.Cond.and given_1 narrow_1).before #[Value.ref b] s = true
section LAWW
variable {p : Program} {e : Env} {s : State} {m : MethodId} {below : List Frame} {meth : Method} {c : Code} {l : Launch} {b L : Nat} {xs : Nat → Int32}
/-- the law's tree, from nothing -/
def ev_law (xs : Nat → Int) (L K n : Nat) : Option (Nat × List Int × List Int × XT) := evS xs L g_ck (evF xs L g_ck K g_cW g_M n) K g_cW bb_332 [0, 0, 0, 0, 0, 0, 0] (([], 0, 0), fun _ _ => 0)
theorem law_walk (hl : l.stackTraces = false) (hL : L < 2147483648) (C0 : lw_At p s m meth c b L xs) {K n : Nat} (hn : n ≤ 1000) {en' : List Int} {st' : XT} (hE : ev_law (fun j => (xs j).toInt) L K n = some (1, [1], en', st')) (hc : st'.1.2.1 ≤ 601024) (hs : st'.1.2.2 ≤ 7293034) :
    W p l e room_1 s m #[Value.ref b] below meth c s.heap [] 0 0 (lw_Z below #[Value.ref b] s) (entryFrame m ([Value.ref b] : List Value).toArray 7) := by
  obtain ⟨hx, hb, hr, hml, hown, hts, hX, hbl, hlocks, hgv⟩ := id C0
  obtain ⟨D, cA, adW, aT, hK, hSF, hWi⟩ := g_world hts hX hbl hL hgv
  have hdec : DecOk (f_tab g_ld) code := f_tab_ok
  have htn : ∀ w ∈ lw_nic, w.before #[Value.ref b] s = true := fun w hw => hts w (nic_sub hw)
  have hw0 : ∀ w ∈ lw_nic, w.before #[] s = true := fun w hw => nw_at (nic_nice w hw) (show s.WarmedH s.vm from State.WarmedH.refl s) (htn w hw)
  have hG := fun f => g_GD (adW := adW) (aT := aT) f
  have hTa : ∀ ty : FieldType, (ty = .int ∨ ty = .long ∨ ty = .byte ∨ ty = .boolean) → Cond.arrayClass ty ∈ lw_nic := fun ty h => by
    rcases h with rfl | rfl | rfl | rfl
    · exact na_7
    · exact na_8
    · exact na_9
    · exact na_10
  have hAll := all_ok (l := l) (D := D) (cA := cA) (A := fun q => s.heap.size ≤ q) (aS := b) (cW := g_cW) (xs := fun j => (xs j).toInt) (L := L) (K := K) hl nic_nice g_CF hWi hTa hG
  have HC := clo (p := p) (l := l) (e := e) (R := room_1) (s := s) (m := m) (below := below) (meth := meth) (c := c) (nL := 7) (D := D) (cl := g_cl) (cA := cA) (A := fun q => s.heap.size ≤ q) (adW := adW) (aT := aT) (aS := b) (ck := g_ck) (c0 := 0) (d0 := 0) (n0 := 0) (ad0 := fun _ => 0) (dec := f_tab g_ld) (lk := q_lk lk_11) (lp := q_lk pn_11) (Zs := g_Zs g_wn adW aT) (cW := g_cW) (xs := fun j => (xs j).toInt) (L := L) (Y := g_Y) (CC := g_CC) (ML := m_L g_M) (RT := g_RT) (PK := m_P g_M) (RK := m_R g_M) (F := evF (fun j => (xs j).toInt) L g_ck K g_cW g_M n) (n := n) (thr := g_THR) (rt := [1]) (rz := true) (hnd := fun _ => none)
    (Q := lw_Z below #[Value.ref b] s) (RR := fun v z => v = [1] ∧ z = st') (XX := fun _ => False) (args := #[Value.ref b]) (own := R_law) (Ts := lw_nic) (cc := code)
    hx hb hdec hml hown hw0 htn nic_nice g_CF hK hSF (fun _ h => h) hWi hTa (FO_of g_cl g_ck g_wn g_Y g_RT (m_P g_M) (own := R_law) (ini := false) (gcL_all 11) (gcP_all 11 false) (fun h => by cases h)) (fun f => GD.mf (hG f)) (fun f => (hAll n f).1) (by
      show n + 11 ≤ 2048 ∧ 60 * n + 360 ≤ 84000
      constructor <;> omega) (evF_mono n) (evF_len (fun f => GD.chk (hG f)) n)
    (fun _ _ _ _ _ _ _ h => by cases h) (fun _ _ _ _ h => by cases h) (fun _ _ _ _ _ h => h.elim) (fun _ _ _ _ _ _ _ _ _ _ _ _ _ _ h => by cases h) (by
      intro pc v τ en st _ _ h hv hE
      obtain ⟨hv1, rfl⟩ := hE
      cases hv1
      obtain ⟨ii, hd, hf⟩ := c_op0_spec h
      obtain ⟨hdc, hln⟩ := hdec _ _ _ hd
      rw [ult_ins hd (ng0 hf (by omega))]
      have hi : ii = .ireturn := by
        unfold a_op0 at hf
        split at hf <;> first | rfl | cases hf
      subst hi
      refine ⟨⟨by rw [Nat.zero_add]; exact hc, by rw [Nat.zero_add]; exact hs⟩, fun hok hS hLo h4 h5 h6 ad H locs ls g1 g2 g3 g4 => ?_⟩
      exact va_forget (fun q hq => g3.2.2 q hq) (W.widen (by omega) (by omega) (lw_ret hx hb hr hlocks hdc)))
  have hlawK := g_lawK
  rw [Option.map_eq_some_iff] at hlawK
  obtain ⟨⟨τ', pc', z⟩, hc1, hz⟩ := hlawK
  dsimp only at hz
  subst hz
  have key := (snd_S (K := K) HC bb_332).1 _ _ _ _ _ _ _ _ _ _ _ _ _ _ _ hc1 (by decide) (by decide) hE
  have J0 := key.2.2.2.2.2 (fun h => by cases h) (fun _ => ⟨rfl, rfl⟩) (fun h => by cases h) (fun h => by cases h) (fun h => by cases h)
  have J1 := jw_ult hx hb hdec J0
  have hlo := lv_entry ([.ref b]) (n := 7) (Nat.le_of_ble_eq_true rfl)
  have W0 := J1.2 (fun o c h => by cases h) (fun q hq => by cases hq) (fun i hi => ?_) ⟨Nat.le_refl _, Nat.le_refl _⟩ (Nat.le_refl _) rfl (fun _ => 0) s.heap [] _ (fun k q h => (by cases h)) ⟨⟨fun i j p q h => (by cases h), fun k q h => (by cases h)⟩, fun _ _ => rfl⟩ va_S.rf (lv_mono hlo (fun q hq => ?_))
  · rw [lg_entry_eq]
    exact W0
  · match i, hi with
    | 0, _ => exact ⟨fun e => (by cases e), fun e => (by cases e), fun e => (by cases e), fun e => absurd e (by decide), by decide⟩
    | 1, hi => exact absurd rfl hi
    | 2, hi => exact absurd rfl hi
    | 3, hi => exact absurd rfl hi
    | 4, hi => exact absurd rfl hi
    | 5, hi => exact absurd rfl hi
    | 6, hi => exact absurd rfl hi
    | i + 7, hi => exact absurd rfl hi
  · obtain ⟨a1, a2, a3⟩ := w_l_mem.mp hq
    obtain ⟨k, v⟩ := q
    dsimp only at a1 a2 a3
    match k, a2 with
    | 0, _ => rw [a3]; exact List.mem_cons_self
    | 1, hi => exact absurd rfl hi
    | 2, hi => exact absurd rfl hi
    | 3, hi => exact absurd rfl hi
    | 4, hi => exact absurd rfl hi
    | 5, hi => exact absurd rfl hi
    | 6, hi => exact absurd rfl hi
    | i + 7, hi => exact absurd rfl hi
end LAWW
end
section
/-! ===== a second reading of the trees: a value is a number or a place of the script; where a branch hangs on bounds that aren't known it asks for a cut ===== -/
abbrev AV : Type := Sum Int Nat
abbrev AH : Type := List (List (Nat × AV))
abbrev AS : Type := (XS × Nat × Nat) × AH
abbrev AX (α : Type) : Type := Except (Option (Nat × Int)) α
abbrev AE : Type := List AV → AS → AX (List AV × AS)
abbrev AR : Type := List AV → AS → AX (Nat × List AV × List AV × AS)
abbrev AP : Type := Nat → List AV → AS → AX (Nat × List AV × AS)
def a_v (xs : Nat → Int) : AV → Int
  | .inl v => v
  | .inr i => xs i
def lookR : List (Nat × AV) → Nat → AV
  | [], _ => .inl 0
  | e :: r, k => bif Nat.beq e.1 k then e.2 else lookR r k
def lookH : AH → Nat → Nat → AV
  | [], _, _ => .inl 0
  | l :: _, 0, k => lookR l k
  | _ :: r, a + 1, k => lookH r a k
def updH : AH → Nat → Nat → AV → AH
  | [], 0, k, v => [[(k, v)]]
  | [], o + 1, k, v => [] :: updH [] o k v
  | l :: r, 0, k, v => ((k, v) :: l) :: r
  | l :: r, o + 1, k, v => l :: updH r o k v
def clrH : AH → Nat → AH
  | [], _ => []
  | _ :: r, 0 => [] :: r
  | l :: r, o + 1 => l :: clrH r o
def a_c (xs : Nat → Int) (s : AS) : XT := (s.1, fun a b => a_v xs (lookH s.2 a b))
theorem lookR_cons {l : List (Nat × AV)} {k b : Nat} {v : AV} : lookR ((k, v) :: l) b = if b = k then v else lookR l b := by
  show (bif Nat.beq k b then v else lookR l b) = _
  by_cases h : b = k
  · subst h
    rw [if_pos rfl, Nat.beq_refl]
    rfl
  · rw [if_neg h]
    have : Nat.beq k b = false := by
      cases hb : Nat.beq k b with
      | true => exact absurd (Nat.eq_of_beq_eq_true hb).symm h
      | false => rfl
    rw [this]
    rfl
theorem look_upd : ∀ (h : AH) (o k : Nat) (v : AV) (a b : Nat), lookH (updH h o k v) a b = if a = o ∧ b = k then v else lookH h a b
  | [], 0, k, v, 0, b => by
    show lookR [(k, v)] b = _
    rw [lookR_cons]
    by_cases h : b = k
    · rw [if_pos h, if_pos ⟨rfl, h⟩]
    · rw [if_neg h, if_neg (fun z => h z.2)]
      rfl
  | [], 0, k, v, a + 1, b => by rw [if_neg (fun z => absurd z.1 (Nat.succ_ne_zero a))]; rfl
  | [], o + 1, k, v, 0, b => by rw [if_neg (fun z => absurd z.1.symm (Nat.succ_ne_zero o))]; rfl
  | [], o + 1, k, v, a + 1, b => by
    show lookH (updH [] o k v) a b = _
    rw [look_upd [] o k v a b]
    simp only [Nat.succ_inj, Nat.add_right_cancel_iff]
    rfl
  | l :: r, 0, k, v, 0, b => by
    show lookR ((k, v) :: l) b = _
    rw [lookR_cons]
    by_cases h : b = k
    · rw [if_pos h, if_pos ⟨rfl, h⟩]
    · rw [if_neg h, if_neg (fun z => h z.2)]
      rfl
  | l :: r, 0, k, v, a + 1, b => by rw [if_neg (fun z => absurd z.1 (Nat.succ_ne_zero a))]; rfl
  | l :: r, o + 1, k, v, 0, b => by rw [if_neg (fun z => absurd z.1.symm (Nat.succ_ne_zero o))]; rfl
  | l :: r, o + 1, k, v, a + 1, b => by
    show lookH (updH r o k v) a b = _
    rw [look_upd r o k v a b]
    simp only [Nat.add_right_cancel_iff]
    rfl
theorem look_clr : ∀ (h : AH) (o a b : Nat), lookH (clrH h o) a b = if a = o then .inl 0 else lookH h a b
  | [], o, a, b => by
    by_cases h : a = o
    · rw [if_pos h]; rfl
    · rw [if_neg h]; rfl
  | l :: r, 0, 0, b => rfl
  | l :: r, 0, a + 1, b => by rw [if_neg (Nat.succ_ne_zero a)]; rfl
  | l :: r, o + 1, 0, b => by rw [if_neg (fun z => absurd z.symm (Nat.succ_ne_zero o))]; rfl
  | l :: r, o + 1, a + 1, b => by
    show lookH (clrH r o) a b = _
    rw [look_clr r o a b]
    simp only [Nat.add_right_cancel_iff]
    rfl
theorem c_upd {xs : Nat → Int} {g : XS × Nat × Nat} {h : AH} {o k : Nat} {v : AV} : a_c xs (g, updH h o k v) = (g, j_up (a_c xs (g, h)).2 o k (a_v xs v)) := by
  unfold a_c j_up
  congr 1
  funext a b
  dsimp only
  rw [look_upd]
  split <;> rfl
theorem c_clr {xs : Nat → Int} {g : XS × Nat × Nat} {h : AH} {o : Nat} : a_c xs (g, clrH h o) = (g, fun a b => if a = o then 0 else (a_c xs (g, h)).2 a b) := by
  unfold a_c
  congr 1
  funext a b
  dsimp only
  rw [look_clr]
  split <;> rfl
theorem ex_bd {α β : Type} {x : AX α} {f : α → AX β} {b : β} (h : x.bind f = .ok b) : ∃ a, x = .ok a ∧ f a = .ok b := by
  cases x with
  | error e => cases h
  | ok a => exact ⟨a, rfl, h⟩
theorem ex_if {α : Type} {c : Prop} [Decidable c] {x : AX α} {b : α} (h : (if c then x else .error none) = .ok b) : c ∧ x = .ok b := by
  by_cases hc : c
  · rw [if_pos hc] at h; exact ⟨hc, h⟩
  · rw [if_neg hc] at h; cases h
def a_hd (x : List AV) : AV := x.headD (.inl 0)
def a_num : AV → AX Int
  | .inl v => .ok v
  | .inr _ => .error none
theorem a_num_ok {xs : Nat → Int} {v : AV} {n : Int} (h : a_num v = .ok n) : a_v xs v = n := by
  cases v with
  | inl x => cases h; rfl
  | inr i => cases h
theorem a_hd_v {xs : Nat → Int} {l : List AV} : j_hd (l.map (a_v xs)) = a_v xs (a_hd l) := by
  cases l <;> rfl
def f_j32 (x : Int) : Int := if -2147483648 ≤ x ∧ x < 2147483648 then x else j32 x
def f_j64 (x : Int) : Int := if -9223372036854775808 ≤ x ∧ x < 9223372036854775808 then x else j64 x
theorem f_j32_ok (x : Int) : f_j32 x = j32 x := by
  unfold f_j32
  split
  · rename_i h; exact (j32_in h).symm
  · rfl
theorem f_j64_ok (x : Int) : f_j64 x = j64 x := by
  unfold f_j64
  split
  · rename_i h; exact (j64_in h).symm
  · rfl
def f_iop (k : Nat) (x y : Int) : Int := match k with
  | 0 => f_j32 (x + y)
  | 1 => f_j32 (x - y)
  | 2 => f_j32 (x * y)
  | k => j_iop k x y
theorem f_iop_ok : ∀ (k : Nat) (x y : Int), f_iop k x y = j_iop k x y
  | 0, _, _ => f_j32_ok _
  | 1, _, _ => f_j32_ok _
  | 2, _, _ => f_j32_ok _
  | _ + 3, _, _ => rfl
def f_lop (k : Nat) (x y : Int) : Int := match k with
  | 0 => f_j64 (x + y)
  | 1 => f_j64 (x - y)
  | 2 => f_j64 (x * y)
  | k => j_lop k x y
theorem f_lop_ok : ∀ (k : Nat) (x y : Int), f_lop k x y = j_lop k x y
  | 0, _, _ => f_j64_ok _
  | 1, _, _ => f_j64_ok _
  | 2, _, _ => f_j64_ok _
  | _ + 3, _, _ => rfl
def f_div (k : Nat) (x y : Int) : Int := match k with
  | 0 => f_j32 (x.tdiv y)
  | 2 => f_j64 (x.tdiv y)
  | k => j_div k x y
theorem f_div_ok : ∀ (k : Nat) (x y : Int), f_div k x y = j_div k x y
  | 0, _, _ => f_j32_ok _
  | 1, _, _ => rfl
  | 2, _, _ => f_j64_ok _
  | _ + 3, _, _ => rfl
def f_un (k : Nat) (x : Int) : Int := match k with
  | 0 => f_j32 (-x)
  | 1 => f_j64 (-x)
  | 3 => f_j32 x
  | k => j_un k x
theorem f_un_ok : ∀ (k : Nat) (x : Int), f_un k x = j_un k x
  | 0, _ => f_j32_ok _
  | 1, _ => f_j64_ok _
  | 2, _ => rfl
  | 3, _ => f_j32_ok _
  | _ + 4, _ => rfl
/-- bounds of the script's numbers; the six low bits of the first one -/
abbrev AC : Type := List (Int × Int) × Option Int
def SatA (xs : Nat → Int) (cx : AC) : Prop := (∀ (i : Nat) (lo hi : Int), cx.1[i]? = some (lo, hi) → lo ≤ xs i ∧ xs i ≤ hi) ∧ ∀ v, cx.2 = some v → j_iop 3 (xs 0) 63 = v
def a_cut (cx : AC) (i k : Nat) (q : Int) : AX Bool := match cx.1[i]? with
  | none => .error none
  | some (lo, hi) => match k with
    | 0 => if hi < q ∨ q < lo then .ok false else if lo = q ∧ hi = q then .ok true else .error (some (i, if lo < q then q else q + 1))
    | 1 => if hi < q ∨ q < lo then .ok true else if lo = q ∧ hi = q then .ok false else .error (some (i, if lo < q then q else q + 1))
    | 2 => if hi < q then .ok true else if q ≤ lo then .ok false else .error (some (i, q))
    | 3 => if hi < q then .ok false else if q ≤ lo then .ok true else .error (some (i, q))
    | 4 => if q < lo then .ok true else if hi ≤ q then .ok false else .error (some (i, q + 1))
    | _ => if q < lo then .ok false else if hi ≤ q then .ok true else .error (some (i, q + 1))
theorem two_if {c d : Prop} [Decidable c] [Decidable d] {p q b : Bool} {z : Option (Nat × Int)} (h : (if c then Except.ok p else if d then Except.ok q else (Except.error z : AX Bool)) = .ok b) : (c ∧ p = b) ∨ (¬ c ∧ d ∧ q = b) := by
  by_cases hc : c
  · rw [if_pos hc] at h; cases h; exact Or.inl ⟨hc, rfl⟩
  · rw [if_neg hc] at h
    by_cases hd : d
    · rw [if_pos hd] at h; cases h; exact Or.inr ⟨hc, hd, rfl⟩
    · rw [if_neg hd] at h; cases h
theorem a_cut_ok {xs : Nat → Int} {cx : AC} (hs : SatA xs cx) {i k : Nat} {q : Int} {b : Bool} (h : a_cut cx i k q = .ok b) : j_cmp k (xs i) q = b := by
  unfold a_cut at h
  cases hg : cx.1[i]? with
  | none => rw [hg] at h; cases h
  | some z =>
    obtain ⟨lo, hi⟩ := z
    rw [hg] at h
    obtain ⟨h1, h2⟩ := hs.1 i lo hi hg
    match k with
    | 0 => rcases two_if h with ⟨a, rfl⟩ | ⟨-, a, rfl⟩ <;> simp only [j_cmp, decide_eq_true_eq, decide_eq_false_iff_not] <;> omega
    | 1 => rcases two_if h with ⟨a, rfl⟩ | ⟨-, a, rfl⟩ <;> simp only [j_cmp, decide_eq_true_eq, decide_eq_false_iff_not] <;> omega
    | 2 => rcases two_if h with ⟨a, rfl⟩ | ⟨-, a, rfl⟩ <;> simp only [j_cmp, decide_eq_true_eq, decide_eq_false_iff_not] <;> omega
    | 3 => rcases two_if h with ⟨a, rfl⟩ | ⟨-, a, rfl⟩ <;> simp only [j_cmp, decide_eq_true_eq, decide_eq_false_iff_not] <;> omega
    | 4 => rcases two_if h with ⟨a, rfl⟩ | ⟨-, a, rfl⟩ <;> simp only [j_cmp, decide_eq_true_eq, decide_eq_false_iff_not] <;> omega
    | _ + 5 => rcases two_if h with ⟨a, rfl⟩ | ⟨-, a, rfl⟩ <;> simp only [j_cmp, decide_eq_true_eq, decide_eq_false_iff_not] <;> omega
def a_fl (k : Nat) : Nat := match k with
  | 0 => 0
  | 1 => 1
  | 2 => 4
  | 3 => 5
  | 4 => 2
  | _ => 3
theorem a_fl_ok {x y : Int} : ∀ {k : Nat}, j_cmp (a_fl k) y x = j_cmp k x y
  | 0 => decide_eq_decide.mpr ⟨fun h => h.symm, fun h => h.symm⟩
  | 1 => decide_eq_decide.mpr ⟨fun h => h.symm, fun h => h.symm⟩
  | 2 => rfl
  | 3 => rfl
  | 4 => rfl
  | _ + 5 => rfl
def a_cmp (cx : AC) (k : Nat) (x y : AV) : AX Bool := match x, y with
  | .inl p, .inl q => .ok (j_cmp k p q)
  | .inr i, .inl q => a_cut cx i k q
  | .inl p, .inr i => a_cut cx i (a_fl k) p
  | .inr _, .inr _ => .error none
theorem a_cmp_ok {xs : Nat → Int} {cx : AC} (hs : SatA xs cx) {k : Nat} {x y : AV} {b : Bool} (h : a_cmp cx k x y = .ok b) : j_cmp k (a_v xs x) (a_v xs y) = b := by
  cases x with
  | inl p => cases y with
    | inl q => cases h; rfl
    | inr i => rw [← a_fl_ok]; exact a_cut_ok hs h
  | inr i => cases y with
    | inl q => exact a_cut_ok hs h
    | inr j => cases h
def a_any (cx : AC) (v : AV) : List Nat → AX Bool
  | [] => .ok false
  | n :: r => (a_cmp cx 0 v (.inl (sx_z n))).bind fun b => if b then .ok true else a_any cx v r
theorem a_any_ok {xs : Nat → Int} {cx : AC} (hs : SatA xs cx) {v : AV} : ∀ {l : List Nat} {b : Bool}, a_any cx v l = .ok b → l.any (fun n => decide (a_v xs v = sx_z n)) = b
  | [], b, h => by cases h; rfl
  | n :: r, b, h => by
    obtain ⟨c, h1, h2⟩ := ex_bd h
    have h3 := a_cmp_ok hs h1
    rw [List.any_cons]
    have h4 : decide (a_v xs v = sx_z n) = c := h3
    rw [h4]
    cases c with
    | true => cases h2; rfl
    | false => rw [Bool.false_or]; exact a_any_ok hs h2
section AEV
variable (L : Nat) (ck : Nat → List Nat) (G : AP) (cx : AC)
/-- a number of the script whose bounds meet is known -/
def a_pt (cx : AC) (j : Nat) : AV := match cx.1[j]? with
  | some (lo, hi) => if lo = hi then .inl lo else .inr j
  | none => .inr j
def an_aload (k : Nat) (A B : AE) : AE := fun en st => (A en st).bind fun x => (B en x.2).bind fun y => (a_num (a_hd y.1)).bind fun j => match k with
  | 0 => (a_num (a_hd x.1)).bind fun o => if 0 ≤ j ∧ j < j_len y.2.1.1 o.toNat then .ok ([lookH y.2.2 o.toNat j.toNat], y.2) else .error none
  | 1 => if 0 ≤ j ∧ j < (L : Int) then .ok ([a_pt cx j.toNat], y.2) else .error none
  | _ => if 0 ≤ j ∧ j < 24 then .ok ([.inl j], y.2) else .error none
def an_alen (k : Nat) (A : AE) : AE := fun en st => (A en st).bind fun x => match k with
  | 0 => (a_num (a_hd x.1)).bind fun o => .ok ([.inl (j_len x.2.1.1 o.toNat)], x.2)
  | 1 => .ok ([.inl (L : Int)], x.2)
  | _ => .ok ([.inl 24], x.2)
def an_bin (op : Int → Int → Int) (A B : AE) : AE := fun en st => (A en st).bind fun x => (B en x.2).bind fun y => (a_num (a_hd x.1)).bind fun p => (a_num (a_hd y.1)).bind fun q => .ok ([.inl (op p q)], y.2)
def av_iop (cx : AC) (k : Nat) (x y : AV) : AX AV := match x, y with
  | .inl p, .inl q => .ok (.inl (f_iop k p q))
  | .inr i, .inl q => if i = 0 ∧ k = 3 ∧ q = 63 then (match cx.2 with
    | some v => .ok (.inl v)
    | none => .error none) else .error none
  | _, _ => .error none
def an_iop (k : Nat) (A B : AE) : AE := fun en st => (A en st).bind fun x => (B en x.2).bind fun y => (av_iop cx k (a_hd x.1) (a_hd y.1)).bind fun v => .ok ([v], y.2)
def an_div (k : Nat) (A B : AE) : AE := fun en st => (A en st).bind fun x => (B en x.2).bind fun y => (a_num (a_hd x.1)).bind fun p => (a_num (a_hd y.1)).bind fun q => if q = 0 then .error none else .ok ([.inl (f_div k p q)], y.2)
def av_un (k : Nat) (x : AV) : AX AV := match k, x with
  | 2, v => .ok v
  | k, .inl p => .ok (.inl (f_un k p))
  | _, _ => .error none
def an_un (k : Nat) (A : AE) : AE := fun en st => (A en st).bind fun x => (av_un k (a_hd x.1)).bind fun v => .ok ([v], x.2)
def an_cmp (k : Nat) (A B : AE) : AE := fun en st => (A en st).bind fun x => (B en x.2).bind fun y => (a_cmp cx k (a_hd x.1) (a_hd y.1)).bind fun b => .ok ([.inl (j_b b)], y.2)
def an_cmp0 (k : Nat) (A : AE) : AE := fun en st => (A en st).bind fun x => (a_cmp cx k (a_hd x.1) (.inl 0)).bind fun b => .ok ([.inl (j_b b)], x.2)
def an_nz (B : AE) : AE := fun en st => (B en st).bind fun x => (a_cmp cx 1 (a_hd x.1) (.inl 0)).bind fun b => .ok ([.inl (j_b b)], x.2)
def an_not (B : AE) : AE := fun en st => (B en st).bind fun x => (a_cmp cx 0 (a_hd x.1) (.inl 0)).bind fun b => .ok ([.inl (j_b b)], x.2)
def an_ife (A B C : AE) : AE := fun en st => (A en st).bind fun x => (a_cmp cx 0 (a_hd x.1) (.inl 0)).bind fun b => if b then C en x.2 else B en x.2
def an_k (v : Int) : AE := fun _ st => .ok ([.inl v], st)
def an_call (f : Nat) (A : AE) : AE := fun en st => (A en st).bind fun x => (G f x.1 x.2).bind fun r => if r.1 = 1 then .ok r.2 else .error none
def an_wf (cW : Nat → Nat → Int) (k : Nat) (A : AE) : AE := fun en st => (A en st).bind fun x => (a_num (a_hd x.1)).bind fun o => .ok ([.inl (cW k o.toNat)], x.2)
def an_getf (k : Nat) (A : AE) : AE := fun en st => (A en st).bind fun x => (a_num (a_hd x.1)).bind fun o => .ok ([lookH x.2.2 o.toNat k], x.2)
def an_getr (k : Nat) (A : AE) : AE := fun en st => (A en st).bind fun x => (a_num (a_hd x.1)).bind fun o => match j_rf x.2.1.1 o.toNat k with
  | some r => .ok ([.inl r], x.2)
  | none => .error none
def an_new (ci f : Nat) (A : AE) : AE := fun en st =>
  (A en ((st.1.1 ++ [(10 + ci, 0, (ck ci).map fun k => (k, 0))], st.1.2.1 + 1, st.1.2.2 + (ck ci).length), clrH st.2 st.1.1.length)).bind fun x =>
    (G f (.inl (st.1.1.length : Int) :: x.1) x.2).bind fun r => if r.1 = 1 then .ok ([.inl (st.1.1.length : Int)], r.2.2) else .error none
def an_newa (ty : Nat) (A : AE) : AE := fun en st => (A en st).bind fun x => (a_num (a_hd x.1)).bind fun n =>
  if 0 ≤ n ∧ n ≤ 67108864 then .ok ([.inl (x.2.1.1.length : Int)], ((x.2.1.1 ++ [(ty, n.toNat, [])], x.2.1.2.1 + 1, x.2.1.2.2 + n.toNat), clrH x.2.2 x.2.1.1.length)) else .error none
def an_ainit (i : Nat) (A B : AE) : AE := fun en st => (A en st).bind fun x => (B en x.2).bind fun y => (a_num (a_hd x.1)).bind fun o =>
  if (i : Int) < j_len y.2.1.1 o.toNat then .ok (x.1, (y.2.1, updH y.2.2 o.toNat i (a_hd y.1))) else .error none
def an_cons (A B : AE) : AE := fun en st => (A en st).bind fun x => (B en x.2).bind fun y => .ok (x.1 ++ y.1, y.2)
def anodeE (cW : Nat → Nat → Int) (t : Nat) (a b c : SX) (A B C : AE) : AE := match t with
  | 1 => an_k (if sx_n c = 0 then (sx_n a : Int) else -(sx_n a : Int))
  | 3 => fun en st => .ok ([en.getD (sx_n a) (.inl 0)], st)
  | 4 => an_getf (sx_n b) A
  | 5 => an_getr (sx_n b) A
  | 7 => an_aload L cx (sx_n c) A B
  | 10 => an_alen L (sx_n c) A
  | 13 => an_wf cW (sx_n c) A
  | 14 => an_iop cx (sx_n c) A B
  | 15 => an_bin (f_lop (sx_n c)) A B
  | 16 => an_bin (j_lsh (sx_n c)) A B
  | 17 => an_div (sx_n c) A B
  | 18 => an_un (sx_n c) A
  | 20 => an_cmp cx (sx_n c) A B
  | 21 => an_cmp0 cx (sx_n c) A
  | 22 => an_cmp cx (sx_n c) A B
  | 23 => an_cmp cx (sx_n c) A B
  | 24 => A
  | 25 => an_ife cx A (an_nz cx B) (an_k 0)
  | 26 => an_ife cx A (an_k 1) (an_nz cx B)
  | 27 => an_not cx A
  | 28 => an_ife cx A B C
  | 30 => an_cons A B
  | 31 => fun _ st => .ok ([], st)
  | 32 => an_call G (sx_n b) A
  | 34 => an_new ck G (sx_n b) (sx_n c) A
  | 35 => an_newa (sx_n b) A
  | 36 => an_ainit (sx_n c) A B
  | _ => fun _ _ => .error none
def abE (cW : Nat → Nat → Int) : SX → AE
  | .op (.var t) (.op a (.op b c)) => anodeE L ck G cx cW t a b c (abE cW a) (abE cW b) (abE cW c)
  | _ => fun _ _ => .error none
end AEV
/-- what a reading of the second kind is worth -/
def SndE (xs : Nat → Int) (A : AE) (B : XE) : Prop := ∀ (en : List AV) (st : AS) (r : List AV × AS), A en st = .ok r → B (en.map (a_v xs)) (a_c xs st) = some (r.1.map (a_v xs), a_c xs r.2)
def SndP (xs : Nat → Int) (G : AP) (F : XP) : Prop := ∀ (f : Nat) (av : List AV) (st : AS) (r : Nat × List AV × AS), G f av st = .ok r → F f (av.map (a_v xs)) (a_c xs st) = some (r.1, r.2.1.map (a_v xs), a_c xs r.2.2)
section AES
variable {xs : Nat → Int} {L : Nat} {ck : Nat → List Nat} {G : AP} {F : XP} {cx : AC} {A B C : AE} {A' B' C' : XE} {cW : Nat → Nat → Int}
theorem se_k {v : Int} : SndE xs (an_k v) (fun _ st => some ([v], st)) := fun en st r h => by cases h; rfl
theorem a_pt_ok (hs : SatA xs cx) {j : Nat} : a_v xs (a_pt cx j) = xs j := by
  unfold a_pt
  split
  · rename_i lo hi hg
    split
    · have := hs.1 j lo hi hg
      show lo = xs j
      omega
    · rfl
  · rfl
theorem se_aload (hs : SatA xs cx) {k : Nat} (hA : SndE xs A A') (hB : SndE xs B B') : SndE xs (an_aload L cx k A B) (n_aload xs L k A' B') := by
  intro en st r h
  obtain ⟨x, h1, h⟩ := ex_bd h
  obtain ⟨y, h2, h⟩ := ex_bd h
  obtain ⟨j, h3, h⟩ := ex_bd h
  have e1 := hA _ _ _ h1
  have e2 := hB _ _ _ h2
  have e3 := a_num_ok (xs := xs) h3
  unfold n_aload
  rw [e1, Option.bind_some, e2, Option.bind_some]
  dsimp only
  rw [a_hd_v, e3]
  match k with
  | 0 =>
    obtain ⟨o, h4, h⟩ := ex_bd h
    obtain ⟨h5, h⟩ := ex_if h
    cases h
    rw [a_hd_v, a_num_ok (xs := xs) h4]
    exact if_pos h5
  | 1 =>
    obtain ⟨h5, h⟩ := ex_if h
    cases h
    refine (if_pos h5).trans ?_
    show some ([xs j.toNat], a_c xs y.2) = some ([a_v xs (a_pt cx j.toNat)], a_c xs y.2)
    rw [a_pt_ok hs]
  | _ + 2 =>
    obtain ⟨h5, h⟩ := ex_if h
    cases h
    exact if_pos h5
theorem se_alen {k : Nat} (hA : SndE xs A A') : SndE xs (an_alen L k A) (n_alen L k A') := by
  intro en st r h
  obtain ⟨x, h1, h⟩ := ex_bd h
  have e1 := hA _ _ _ h1
  unfold n_alen
  rw [e1, Option.bind_some]
  dsimp only
  match k with
  | 0 =>
    obtain ⟨o, h4, h⟩ := ex_bd h
    cases h
    rw [a_hd_v, a_num_ok (xs := xs) h4]
    rfl
  | 1 => cases h; rfl
  | _ + 2 => cases h; rfl
theorem se_bin {op op' : Int → Int → Int} (ho : ∀ x y, op x y = op' x y) (hA : SndE xs A A') (hB : SndE xs B B') : SndE xs (an_bin op A B) (n_bin op' A' B') := by
  intro en st r h
  obtain ⟨x, h1, h⟩ := ex_bd h
  obtain ⟨y, h2, h⟩ := ex_bd h
  obtain ⟨p, h3, h⟩ := ex_bd h
  obtain ⟨q, h4, h⟩ := ex_bd h
  cases h
  unfold n_bin
  rw [hA _ _ _ h1, Option.bind_some, hB _ _ _ h2, Option.bind_some]
  dsimp only
  rw [a_hd_v, a_hd_v, a_num_ok (xs := xs) h3, a_num_ok (xs := xs) h4, ← ho]
  rfl
theorem av_iop_ok (hs : SatA xs cx) {k : Nat} {x y v : AV} (h : av_iop cx k x y = .ok v) : j_iop k (a_v xs x) (a_v xs y) = a_v xs v := by
  cases x with
  | inl p => cases y with
    | inl q => cases h; exact (f_iop_ok k p q).symm
    | inr j => cases h
  | inr i => cases y with
    | inl q =>
      obtain ⟨⟨e1, e2, e3⟩, h2⟩ := ex_if h
      subst e1
      subst e2
      subst e3
      cases hv : cx.2 with
      | none => rw [hv] at h2; cases h2
      | some v => rw [hv] at h2; cases h2; exact hs.2 _ hv
    | inr j => cases h
theorem se_iop (hs : SatA xs cx) {k : Nat} (hA : SndE xs A A') (hB : SndE xs B B') : SndE xs (an_iop cx k A B) (n_bin (j_iop k) A' B') := by
  intro en st r h
  obtain ⟨x, h1, h⟩ := ex_bd h
  obtain ⟨y, h2, h⟩ := ex_bd h
  obtain ⟨v, h3, h⟩ := ex_bd h
  cases h
  unfold n_bin
  rw [hA _ _ _ h1, Option.bind_some, hB _ _ _ h2, Option.bind_some]
  dsimp only
  rw [a_hd_v, a_hd_v, av_iop_ok hs h3]
  rfl
theorem se_div {k : Nat} (hA : SndE xs A A') (hB : SndE xs B B') : SndE xs (an_div k A B) (fun en st => (A' en st).bind fun x => (B' en x.2).bind fun y => if j_hd y.1 = 0 then none else some ([j_div k (j_hd x.1) (j_hd y.1)], y.2)) := by
  intro en st r h
  obtain ⟨x, h1, h⟩ := ex_bd h
  obtain ⟨y, h2, h⟩ := ex_bd h
  obtain ⟨p, h3, h⟩ := ex_bd h
  obtain ⟨q, h4, h⟩ := ex_bd h
  dsimp only
  rw [hA _ _ _ h1, Option.bind_some, hB _ _ _ h2, Option.bind_some]
  dsimp only
  rw [a_hd_v, a_hd_v, a_num_ok (xs := xs) h3, a_num_ok (xs := xs) h4]
  by_cases hq : q = 0
  · rw [if_pos hq] at h; cases h
  · rw [if_neg hq] at h ⊢
    cases h
    rw [← f_div_ok]
    rfl
theorem av_un_ok {k : Nat} {x v : AV} (h : av_un k x = .ok v) : j_un k (a_v xs x) = a_v xs v := by
  unfold av_un at h
  split at h
  · cases h; rfl
  · cases h; exact (f_un_ok _ _).symm
  · cases h
theorem se_un {k : Nat} (hA : SndE xs A A') : SndE xs (an_un k A) (fun en st => (A' en st).bind fun x => some ([j_un k (j_hd x.1)], x.2)) := by
  intro en st r h
  obtain ⟨x, h1, h⟩ := ex_bd h
  obtain ⟨v, h3, h⟩ := ex_bd h
  cases h
  dsimp only
  rw [hA _ _ _ h1, Option.bind_some]
  dsimp only
  rw [a_hd_v, av_un_ok h3]
  rfl
theorem se_cmp (hs : SatA xs cx) {k : Nat} (hA : SndE xs A A') (hB : SndE xs B B') : SndE xs (an_cmp cx k A B) (n_cmp (j_cmp k) A' B') := by
  intro en st r h
  obtain ⟨x, h1, h⟩ := ex_bd h
  obtain ⟨y, h2, h⟩ := ex_bd h
  obtain ⟨v, h3, h⟩ := ex_bd h
  cases h
  unfold n_cmp
  rw [hA _ _ _ h1, Option.bind_some, hB _ _ _ h2, Option.bind_some]
  dsimp only
  rw [a_hd_v, a_hd_v, a_cmp_ok hs h3]
  rfl
theorem se_cmp0 (hs : SatA xs cx) {k : Nat} (hA : SndE xs A A') : SndE xs (an_cmp0 cx k A) (fun en st => (A' en st).bind fun x => some ([j_b (j_cmp k (j_hd x.1) 0)], x.2)) := by
  intro en st r h
  obtain ⟨x, h1, h⟩ := ex_bd h
  obtain ⟨v, h3, h⟩ := ex_bd h
  cases h
  dsimp only
  rw [hA _ _ _ h1, Option.bind_some]
  dsimp only
  rw [a_hd_v]
  have e := a_cmp_ok hs h3
  rw [show a_v xs (.inl 0) = 0 from rfl] at e
  rw [e]
  rfl
theorem se_nz (hs : SatA xs cx) (hA : SndE xs A A') : SndE xs (an_nz cx A) (n_nz A') := by
  intro en st r h
  obtain ⟨x, h1, h⟩ := ex_bd h
  obtain ⟨v, h3, h⟩ := ex_bd h
  cases h
  unfold n_nz
  rw [hA _ _ _ h1, Option.bind_some]
  dsimp only
  rw [a_hd_v]
  have e : decide (a_v xs (a_hd x.1) ≠ 0) = v := a_cmp_ok hs h3
  rw [e]
  rfl
theorem se_not (hs : SatA xs cx) (hA : SndE xs A A') : SndE xs (an_not cx A) (fun en st => (A' en st).bind fun x => some ([j_b (decide (j_hd x.1 = 0))], x.2)) := by
  intro en st r h
  obtain ⟨x, h1, h⟩ := ex_bd h
  obtain ⟨v, h3, h⟩ := ex_bd h
  cases h
  dsimp only
  rw [hA _ _ _ h1, Option.bind_some]
  dsimp only
  rw [a_hd_v]
  have e : decide (a_v xs (a_hd x.1) = 0) = v := a_cmp_ok hs h3
  rw [e]
  rfl
theorem a_zero (hs : SatA xs cx) {x : AV} {b : Bool} (h : a_cmp cx 0 x (.inl 0) = .ok b) : (b = true ∧ a_v xs x = 0) ∨ (b = false ∧ a_v xs x ≠ 0) := by
  have e : decide (a_v xs x = 0) = b := a_cmp_ok hs h
  cases b with
  | true => exact Or.inl ⟨rfl, of_decide_eq_true e⟩
  | false => exact Or.inr ⟨rfl, of_decide_eq_false e⟩
theorem se_ife (hs : SatA xs cx) (hA : SndE xs A A') (hB : SndE xs B B') (hC : SndE xs C C') : SndE xs (an_ife cx A B C) (n_ife A' B' C') := by
  intro en st r h
  obtain ⟨x, h1, h⟩ := ex_bd h
  obtain ⟨v, h3, h⟩ := ex_bd h
  unfold n_ife
  rw [hA _ _ _ h1, Option.bind_some]
  dsimp only
  rw [a_hd_v]
  rcases a_zero hs h3 with ⟨rfl, e⟩ | ⟨rfl, e⟩
  · rw [if_pos e]
    exact hC _ _ _ h
  · rw [if_neg e]
    exact hB _ _ _ h
theorem se_call (hG : SndP xs G F) {f : Nat} (hA : SndE xs A A') : SndE xs (an_call G f A) (n_call F f A') := by
  intro en st r h
  obtain ⟨x, h1, h⟩ := ex_bd h
  obtain ⟨v, h3, h⟩ := ex_bd h
  obtain ⟨h4, h⟩ := ex_if h
  cases h
  unfold n_call
  rw [hA _ _ _ h1, Option.bind_some]
  dsimp only
  rw [hG _ _ _ _ h3, Option.bind_some]
  exact if_pos h4
theorem se_wf {k : Nat} (hA : SndE xs A A') : SndE xs (an_wf cW k A) (n_wf cW k A') := by
  intro en st r h
  obtain ⟨x, h1, h⟩ := ex_bd h
  obtain ⟨v, h3, h⟩ := ex_bd h
  cases h
  unfold n_wf
  rw [hA _ _ _ h1, Option.bind_some]
  dsimp only
  rw [a_hd_v, a_num_ok (xs := xs) h3]
  rfl
theorem se_getf {k : Nat} (hA : SndE xs A A') : SndE xs (an_getf k A) (fun en st => (A' en st).bind fun x => some ([x.2.2 (j_hd x.1).toNat k], x.2)) := by
  intro en st r h
  obtain ⟨x, h1, h⟩ := ex_bd h
  obtain ⟨v, h3, h⟩ := ex_bd h
  cases h
  dsimp only
  rw [hA _ _ _ h1, Option.bind_some]
  dsimp only
  rw [a_hd_v, a_num_ok (xs := xs) h3]
  rfl
theorem se_getr {k : Nat} (hA : SndE xs A A') : SndE xs (an_getr k A) (fun en st => (A' en st).bind fun x => (j_rf x.2.1.1 (j_hd x.1).toNat k).bind fun r => some ([r], x.2)) := by
  intro en st r h
  obtain ⟨x, h1, h⟩ := ex_bd h
  obtain ⟨v, h3, h⟩ := ex_bd h
  dsimp only
  rw [hA _ _ _ h1, Option.bind_some]
  dsimp only
  rw [a_hd_v, a_num_ok (xs := xs) h3]
  show (j_rf x.2.1.1 v.toNat k).bind _ = _
  cases hr : j_rf x.2.1.1 v.toNat k with
  | none => rw [hr] at h; cases h
  | some q => rw [hr] at h; cases h; rfl
theorem se_new (hG : SndP xs G F) {ci f : Nat} (hA : SndE xs A A') : SndE xs (an_new ck G ci f A) (n_new ck F ci f A') := by
  intro en st r h
  obtain ⟨x, h1, h⟩ := ex_bd h
  obtain ⟨v, h3, h⟩ := ex_bd h
  obtain ⟨h4, h⟩ := ex_if h
  cases h
  have e1 := hA _ _ _ h1
  rw [c_clr] at e1
  have e3 := hG _ _ _ _ h3
  unfold n_new
  dsimp only
  have e1' : A' (en.map (a_v xs)) (((a_c xs st).1.1 ++ [(10 + ci, 0, (ck ci).map fun k => (k, 0))], (a_c xs st).1.2.1 + 1, (a_c xs st).1.2.2 + (ck ci).length), fun a b => if a = (a_c xs st).1.1.length then 0 else (a_c xs st).2 a b) = some (x.1.map (a_v xs), a_c xs x.2) := e1
  rw [e1', Option.bind_some]
  dsimp only
  have e3' : F f (((a_c xs st).1.1.length : Int) :: x.1.map (a_v xs)) (a_c xs x.2) = some (v.1, v.2.1.map (a_v xs), a_c xs v.2.2) := e3
  rw [e3', Option.bind_some]
  exact if_pos h4
theorem se_newa {ty : Nat} (hA : SndE xs A A') : SndE xs (an_newa ty A) (n_newa ty A') := by
  intro en st r h
  obtain ⟨x, h1, h⟩ := ex_bd h
  obtain ⟨n, h3, h⟩ := ex_bd h
  obtain ⟨h4, h⟩ := ex_if h
  cases h
  unfold n_newa
  rw [hA _ _ _ h1, Option.bind_some]
  dsimp only
  rw [a_hd_v, a_num_ok (xs := xs) h3, if_pos h4, c_clr]
  rfl
theorem se_ainit {i : Nat} (hA : SndE xs A A') (hB : SndE xs B B') : SndE xs (an_ainit i A B) (n_ainit i A' B') := by
  intro en st r h
  obtain ⟨x, h1, h⟩ := ex_bd h
  obtain ⟨y, h2, h⟩ := ex_bd h
  obtain ⟨o, h3, h⟩ := ex_bd h
  obtain ⟨h4, h⟩ := ex_if h
  cases h
  unfold n_ainit
  rw [hA _ _ _ h1, Option.bind_some, hB _ _ _ h2, Option.bind_some]
  dsimp only
  rw [a_hd_v, a_hd_v, a_num_ok (xs := xs) h3, c_upd]
  exact if_pos h4
theorem se_cons (hA : SndE xs A A') (hB : SndE xs B B') : SndE xs (an_cons A B) (fun en st => (A' en st).bind fun x => (B' en x.2).bind fun y => some (x.1 ++ y.1, y.2)) := by
  intro en st r h
  obtain ⟨x, h1, h⟩ := ex_bd h
  obtain ⟨y, h2, h⟩ := ex_bd h
  cases h
  dsimp only
  rw [hA _ _ _ h1, Option.bind_some, hB _ _ _ h2, Option.bind_some]
  dsimp only
  rw [List.map_append]
theorem getD_v {en : List AV} {i : Nat} : (en.map (a_v xs)).getD i 0 = a_v xs (en.getD i (.inl 0)) := by
  rw [List.getD_eq_getElem?_getD, List.getD_eq_getElem?_getD, List.getElem?_map]
  cases en[i]? <;> rfl
theorem se_node (hs : SatA xs cx) (hG : SndP xs G F) {t : Nat} {a b c : SX} (hA : SndE xs A A') (hB : SndE xs B B') (hC : SndE xs C C') : SndE xs (anodeE L ck G cx cW t a b c A B C) (nodeE xs L ck F cW t a b c A' B' C') := by
  unfold anodeE
  split
  · exact se_k
  · intro en st r h
    cases h
    show some _ = some _
    rw [getD_v]
    rfl
  · exact se_getf hA
  · exact se_getr hA
  · exact se_aload hs hA hB
  · exact se_alen hA
  · exact se_wf hA
  · exact se_iop hs hA hB
  · exact se_bin (f_lop_ok _) hA hB
  · exact se_bin (fun _ _ => rfl) hA hB
  · exact se_div hA hB
  · exact se_un hA
  · exact se_cmp hs hA hB
  · exact se_cmp0 hs hA
  · exact se_cmp hs hA hB
  · exact se_cmp hs hA hB
  · exact hA
  · exact se_ife hs hA (se_nz hs hB) se_k
  · exact se_ife hs hA se_k (se_nz hs hB)
  · exact se_not hs hA
  · exact se_ife hs hA hB hC
  · exact se_cons hA hB
  · intro en st r h
    cases h
    rfl
  · exact se_call hG hA
  · exact se_new hG hA
  · exact se_newa hA
  · exact se_ainit hA hB
  · intro en st r h
    cases h
theorem se_all (hs : SatA xs cx) (hG : SndP xs G F) : ∀ t : SX, SndE xs (abE L ck G cx cW t) (evE xs L ck F cW t)
  | .op (.var t) (.op a (.op b c)) => se_node hs hG (se_all hs hG a) (se_all hs hG b) (se_all hs hG c)
  | .var _ => fun _ _ _ h => by cases h
  | .op (.op _ _) _ => fun _ _ _ h => by cases h
  | .op (.var _) (.var _) => fun _ _ _ h => by cases h
  | .op (.var _) (.op _ (.var _)) => fun _ _ _ h => by cases h
end AES
end
section
/-! ===== the second reading: statements, methods ===== -/
section ASV
variable (cx : AC) (G : AP)
def as_skip (n : Nat) : AR := fun en st => .ok (n, [], en, st)
def as_seq (A B : AR) : AR := fun en st => (A en st).bind fun r => if r.1 = 0 then B r.2.2.1 r.2.2.2 else .ok r
def as_loop (C : AE) (B P : AR) : Nat → AR
  | 0 => fun _ _ => .error none
  | k + 1 => fun en st => (C en st).bind fun x => (a_cmp cx 0 (a_hd x.1) (.inl 0)).bind fun b => if b then .ok (0, [], en, x.2) else
      (B en x.2).bind fun r =>
        if r.1 = 0 ∨ r.1 = 3 then (P r.2.2.1 r.2.2.2).bind fun q => if q.1 = 0 then as_loop C B P k q.2.2.1 q.2.2.2 else .error none
        else if r.1 = 2 then .ok (0, [], r.2.2.1, r.2.2.2) else .ok r
def as_do (B : AR) (C : AE) : Nat → AR
  | 0 => fun _ _ => .error none
  | k + 1 => fun en st => (B en st).bind fun r =>
      if r.1 = 0 ∨ r.1 = 3 then (C r.2.2.1 r.2.2.2).bind fun x => (a_cmp cx 0 (a_hd x.1) (.inl 0)).bind fun b => if b then .ok (0, [], r.2.2.1, x.2) else as_do B C k r.2.2.1 x.2
      else if r.1 = 2 then .ok (0, [], r.2.2.1, r.2.2.2) else .ok r
def as_store (i : Nat) (A : AE) : AR := fun en st => (A en st).bind fun x => .ok (0, [], en.set i (a_hd x.1), x.2)
def as_inc (i : Nat) (n : Int) : AR := fun en st => (a_num (en.getD i (.inl 0))).bind fun v => .ok (0, [], en.set i (.inl (f_j32 (v + n))), st)
def as_putf (k : Nat) (A B : AE) : AR := fun en st => (A en st).bind fun x => (B en x.2).bind fun y => (a_num (a_hd x.1)).bind fun o => .ok (0, [], en, (y.2.1, updH y.2.2 o.toNat k (a_hd y.1)))
def as_putfZ (k : Nat) (A B : AE) : AR := fun en st => (A en st).bind fun x => (B en x.2).bind fun y => (a_num (a_hd x.1)).bind fun o => (a_num (a_hd y.1)).bind fun v => if v = 0 ∨ v = 1 then .ok (0, [], en, (y.2.1, updH y.2.2 o.toNat k (.inl v))) else .error none
def as_putfC (k op : Nat) (A B : AE) : AR := fun en st => (A en st).bind fun x => (B en x.2).bind fun y => (a_num (a_hd x.1)).bind fun o => (a_num (lookH x.2.2 o.toNat k)).bind fun p => (a_num (a_hd y.1)).bind fun q => .ok (0, [], en, (y.2.1, updH y.2.2 o.toNat k (.inl (f_iop op p q))))
def as_putr (k : Nat) (A B : AE) : AR := fun en st => (A en st).bind fun x => (B en x.2).bind fun y => (a_num (a_hd x.1)).bind fun o => (a_num (a_hd y.1)).bind fun v => .ok (0, [], en, ((j_setR y.2.1.1 o.toNat k v.toNat, y.2.1.2), y.2.2))
def a_cell (ty : Nat) (v : AV) : AX AV := match ty with
  | 8 => (a_num v).bind fun n => .ok (.inl ((Int32.ofInt n).toInt8.toInt32).toInt)
  | 9 => (a_num v).bind fun n => .ok (.inl (Int32.ofInt n &&& 1).toInt)
  | _ => .ok v
def as_ast (ty : Nat) (A B C : AE) : AR := fun en st => (A en st).bind fun x => (B en x.2).bind fun y => (C en y.2).bind fun z => (a_num (a_hd x.1)).bind fun o => (a_num (a_hd y.1)).bind fun j => (a_cell ty (a_hd z.1)).bind fun v =>
  if 0 ≤ j ∧ j < j_len z.2.1.1 o.toNat then .ok (0, [], en, (z.2.1, updH z.2.2 o.toNat j.toNat v)) else .error none
def as_astC (op : Nat) (A B C : AE) : AR := fun en st => (A en st).bind fun x => (B en x.2).bind fun y => (a_num (a_hd x.1)).bind fun o => (a_num (a_hd y.1)).bind fun j =>
  if 0 ≤ j ∧ j < j_len y.2.1.1 o.toNat then (C en y.2).bind fun z =>
    if j < j_len z.2.1.1 o.toNat then (a_num (lookH y.2.2 o.toNat j.toNat)).bind fun p => (a_num (a_hd z.1)).bind fun q => .ok (0, [], en, (z.2.1, updH z.2.2 o.toNat j.toNat (.inl (f_iop op p q)))) else .error none else .error none
def as_if (A : AE) (B C : AR) : AR := fun en st => (A en st).bind fun x => (a_cmp cx 0 (a_hd x.1) (.inl 0)).bind fun b => if b then C en x.2 else B en x.2
def as_sw (A : AE) (B : AR) : AR := fun en st => (A en st).bind fun x => (B (a_hd x.1 :: en) x.2).bind fun r => if r.1 = 2 then .ok (0, r.2) else .ok r
def as_case (l : List Nat) (B C : AR) : AR := fun en st => (a_any cx (en.headD (.inl 0)) l).bind fun b => if b then (B en.tail st).bind fun r => if r.1 = 0 then .error none else .ok r else C en st
def as_try (f : Nat) (A B : AE) : AR := fun en st => (A en st).bind fun x => (B en x.2).bind fun y => (G f y.1 y.2).bind fun r => (a_num (a_hd x.1)).bind fun o =>
  if r.1 = 1 then (if 0 < j_len r.2.2.1.1 o.toNat then .ok (0, [], en, (r.2.2.1, updH r.2.2.2 o.toNat 0 (a_hd r.2.1))) else .error none)
  else if r.1 = 4 then .ok (1, [.inl 1], en, r.2.2) else .error none
def as_ret (A : AE) : AR := fun en st => (A en st).bind fun x => .ok (1, x.1, en, x.2)
def as_retZ (A : AE) : AR := fun en st => (A en st).bind fun x => (a_num (a_hd x.1)).bind fun v => if v = 0 ∨ v = 1 then .ok (1, x.1, en, x.2) else .error none
def as_throw : AR := fun en st => .ok (4, [], en, ((st.1.1, st.1.2.1 + 1, st.1.2.2 + 6), st.2))
def as_exp (A : AE) : AR := fun en st => (A en st).bind fun x => .ok (0, [], en, x.2)
variable (L : Nat) (ck : Nat → List Nat) (K : Nat)
def anodeS (cW : Nat → Nat → Int) (t : Nat) (a b c : SX) (A B C : AR) : AR := match t with
  | 1 => as_skip 0
  | 2 => as_seq A B
  | 3 => as_store (sx_n a) (abE L ck G cx cW b)
  | 4 => as_inc (sx_n a) (if sx_n c = 0 then (sx_n b : Int) else -(sx_n b : Int))
  | 5 => as_putf (sx_n c) (abE L ck G cx cW a) (abE L ck G cx cW b)
  | 6 => as_putfC (sx_n c / 16) (sx_n c % 16) (abE L ck G cx cW a) (abE L ck G cx cW b)
  | 7 => match c with
    | .op (.var ty) v => as_ast ty (abE L ck G cx cW a) (abE L ck G cx cW b) (abE L ck G cx cW v)
    | _ => fun _ _ => .error none
  | 8 => match c with
    | .op (.var op) v => as_astC op (abE L ck G cx cW a) (abE L ck G cx cW b) (abE L ck G cx cW v)
    | _ => fun _ _ => .error none
  | 9 => as_exp (abE L ck G cx cW a)
  | 10 => as_if cx (abE L ck G cx cW a) B (as_skip 0)
  | 11 => as_if cx (abE L ck G cx cW a) B C
  | 12 => as_loop cx (abE L ck G cx cW a) B C K
  | 13 => as_do cx B (abE L ck G cx cW a) K
  | 14 => as_skip 2
  | 15 => as_skip 3
  | 16 => as_ret (abE L ck G cx cW a)
  | 27 => as_retZ (abE L ck G cx cW a)
  | 17 => as_skip 1
  | 18 => as_throw
  | 19 => as_sw (abE L ck G cx cW a) B
  | 20 => A
  | 21 => as_putr (sx_n c) (abE L ck G cx cW a) (abE L ck G cx cW b)
  | 22 => as_skip 0
  | 23 => as_putfZ (sx_n c) (abE L ck G cx cW a) (abE L ck G cx cW b)
  | 24 => as_try G (sx_n c) (abE L ck G cx cW a) (abE L ck G cx cW b)
  | 28 => as_if cx (abE L ck G cx cW a) B (as_skip 2)
  | 25 => as_case cx (sx_l a) B C
  | 26 => fun en st => A en.tail st
  | _ => fun _ _ => .error none
def abS (cW : Nat → Nat → Int) : SX → AR
  | .op (.var t) (.op a (.op b c)) => anodeS cx G L ck K cW t a b c (abS cW a) (abS cW b) (abS cW c)
  | _ => fun _ _ => .error none
end ASV
def a_lay : List Nat → List AV → List AV
  | k :: ks, v :: vs => if k = 2 then v :: .inl 0 :: a_lay ks vs else v :: a_lay ks vs
  | [], _ => []
  | _ :: _, [] => []
def abF (cx : AC) (L : Nat) (ck : Nat → List Nat) (K : Nat) (cW : Nat → Nat → Int) (M : Nat → XM) : Nat → AP
  | 0 => fun _ _ _ => .error none
  | n + 1 => fun f args st =>
    (abS cx (abF cx L ck K cW M n) L ck K cW (M f).2.2.2.2 (j_pad (.inl 0) (M f).2.1 (a_lay (M f).2.2.1 args)) st).bind fun r =>
      if (r.1 = 1 ∨ r.1 = 4) ∧ st.1.2.1 ≤ r.2.2.2.1.2.1 ∧ st.1.2.2 ≤ r.2.2.2.1.2.2 ∧ (st.1.1.map (·.1)).isPrefixOf (r.2.2.2.1.1.map (·.1)) = true then .ok (r.1, r.2.1, r.2.2.2) else .error none
def SndS (xs : Nat → Int) (A : AR) (B : XR) : Prop := ∀ (en : List AV) (st : AS) (r : Nat × List AV × List AV × AS), A en st = .ok r → B (en.map (a_v xs)) (a_c xs st) = some (r.1, r.2.1.map (a_v xs), r.2.2.1.map (a_v xs), a_c xs r.2.2.2)
section ASS
variable {xs : Nat → Int} {L K : Nat} {ck : Nat → List Nat} {G : AP} {F : XP} {cx : AC} {A B C : AE} {A' B' C' : XE} {P Q S : AR} {P' Q' S' : XR} {cW : Nat → Nat → Int}
theorem ss_skip {n : Nat} : SndS xs (as_skip n) (fun en st => some (n, [], en, st)) := fun en st r h => by cases h; rfl
theorem ss_seq (hP : SndS xs P P') (hQ : SndS xs Q Q') : SndS xs (as_seq P Q) (s_seq P' Q') := by
  intro en st r h
  obtain ⟨x, h1, h⟩ := ex_bd h
  unfold s_seq
  rw [hP _ _ _ h1, Option.bind_some]
  dsimp only
  by_cases h0 : x.1 = 0
  · rw [if_pos h0] at h ⊢
    exact hQ _ _ _ h
  · rw [if_neg h0] at h ⊢
    cases h
    rfl
theorem ss_loop (hs : SatA xs cx) (hC : SndE xs C C') (hP : SndS xs P P') (hQ : SndS xs Q Q') : ∀ k, SndS xs (as_loop cx C P Q k) (s_loop C' P' Q' k)
  | 0 => fun _ _ _ h => by cases h
  | k + 1 => by
    intro en st r h
    obtain ⟨x, h1, h⟩ := ex_bd h
    obtain ⟨b, h2, h⟩ := ex_bd h
    unfold s_loop
    rw [hC _ _ _ h1, Option.bind_some]
    dsimp only
    rw [a_hd_v]
    rcases a_zero hs h2 with ⟨rfl, e⟩ | ⟨rfl, e⟩
    · rw [if_pos e]
      cases h
      rfl
    · rw [if_neg e]
      obtain ⟨q, h3, h⟩ := ex_bd h
      rw [hP _ _ _ h3, Option.bind_some]
      dsimp only
      by_cases h4 : q.1 = 0 ∨ q.1 = 3
      · rw [if_pos h4] at h ⊢
        obtain ⟨z, h5, h⟩ := ex_bd h
        rw [hQ _ _ _ h5, Option.bind_some]
        dsimp only
        obtain ⟨h6, h⟩ := ex_if h
        rw [if_pos h6]
        exact ss_loop hs hC hP hQ k _ _ _ h
      · rw [if_neg h4] at h ⊢
        by_cases h5 : q.1 = 2
        · rw [if_pos h5] at h ⊢
          cases h
          rfl
        · rw [if_neg h5] at h ⊢
          cases h
          rfl
theorem ss_do (hs : SatA xs cx) (hC : SndE xs C C') (hP : SndS xs P P') : ∀ k, SndS xs (as_do cx P C k) (s_do P' C' k)
  | 0 => fun _ _ _ h => by cases h
  | k + 1 => by
    intro en st r h
    obtain ⟨q, h3, h⟩ := ex_bd h
    unfold s_do
    rw [hP _ _ _ h3, Option.bind_some]
    dsimp only
    by_cases h4 : q.1 = 0 ∨ q.1 = 3
    · rw [if_pos h4] at h ⊢
      obtain ⟨x, h1, h⟩ := ex_bd h
      obtain ⟨b, h2, h⟩ := ex_bd h
      rw [hC _ _ _ h1, Option.bind_some]
      dsimp only
      rw [a_hd_v]
      rcases a_zero hs h2 with ⟨rfl, e⟩ | ⟨rfl, e⟩
      · rw [if_pos e]
        cases h
        rfl
      · rw [if_neg e]
        exact ss_do hs hC hP k _ _ _ h
    · rw [if_neg h4] at h ⊢
      by_cases h5 : q.1 = 2
      · rw [if_pos h5] at h ⊢
        cases h
        rfl
      · rw [if_neg h5] at h ⊢
        cases h
        rfl
theorem set_v {en : List AV} {i : Nat} {v : AV} : (en.set i v).map (a_v xs) = (en.map (a_v xs)).set i (a_v xs v) := List.map_set
theorem ss_store {i : Nat} (hA : SndE xs A A') : SndS xs (as_store i A) (fun en st => (A' en st).bind fun x => some (0, [], en.set i (j_hd x.1), x.2)) := by
  intro en st r h
  obtain ⟨x, h1, h⟩ := ex_bd h
  cases h
  dsimp only
  rw [hA _ _ _ h1, Option.bind_some]
  dsimp only
  rw [a_hd_v, set_v]
  rfl
theorem ss_inc {i : Nat} {n : Int} : SndS xs (as_inc i n) (fun en st => some (0, [], en.set i (j32 (en.getD i 0 + n)), st)) := by
  intro en st r h
  obtain ⟨v, h1, h⟩ := ex_bd h
  cases h
  dsimp only
  rw [getD_v, a_num_ok (xs := xs) h1, set_v, ← f_j32_ok]
  rfl
theorem ss_putf {k : Nat} (hA : SndE xs A A') (hB : SndE xs B B') : SndS xs (as_putf k A B) (s_putf k A' B') := by
  intro en st r h
  obtain ⟨x, h1, h⟩ := ex_bd h
  obtain ⟨y, h2, h⟩ := ex_bd h
  obtain ⟨o, h3, h⟩ := ex_bd h
  cases h
  unfold s_putf
  rw [hA _ _ _ h1, Option.bind_some, hB _ _ _ h2, Option.bind_some]
  dsimp only
  rw [a_hd_v, a_hd_v, a_num_ok (xs := xs) h3, c_upd]
  rfl
theorem ss_putfZ {k : Nat} (hA : SndE xs A A') (hB : SndE xs B B') : SndS xs (as_putfZ k A B) (fun en st => (A' en st).bind fun x => (B' en x.2).bind fun y => if j_hd y.1 = 0 ∨ j_hd y.1 = 1 then some (0, [], en, (y.2.1, j_up y.2.2 (j_hd x.1).toNat k (j_hd y.1))) else none) := by
  intro en st r h
  obtain ⟨x, h1, h⟩ := ex_bd h
  obtain ⟨y, h2, h⟩ := ex_bd h
  obtain ⟨o, h3, h⟩ := ex_bd h
  obtain ⟨v, h4, h⟩ := ex_bd h
  obtain ⟨h5, h⟩ := ex_if h
  cases h
  dsimp only
  rw [hA _ _ _ h1, Option.bind_some, hB _ _ _ h2, Option.bind_some]
  dsimp only
  rw [a_hd_v, a_hd_v, a_num_ok (xs := xs) h3, a_num_ok (xs := xs) h4, c_upd]
  exact if_pos h5
theorem ss_putfC {k op : Nat} (hA : SndE xs A A') (hB : SndE xs B B') : SndS xs (as_putfC k op A B) (s_putfC k op A' B') := by
  intro en st r h
  obtain ⟨x, h1, h⟩ := ex_bd h
  obtain ⟨y, h2, h⟩ := ex_bd h
  obtain ⟨o, h3, h⟩ := ex_bd h
  obtain ⟨p, h4, h⟩ := ex_bd h
  obtain ⟨q, h5, h⟩ := ex_bd h
  cases h
  unfold s_putfC
  rw [hA _ _ _ h1, Option.bind_some, hB _ _ _ h2, Option.bind_some]
  dsimp only
  rw [a_hd_v, a_hd_v, a_num_ok (xs := xs) h3, a_num_ok (xs := xs) h5, c_upd]
  have e : (a_c xs x.2).2 o.toNat k = p := a_num_ok (xs := xs) h4
  rw [e, ← f_iop_ok]
  rfl
theorem ss_putr {k : Nat} (hA : SndE xs A A') (hB : SndE xs B B') : SndS xs (as_putr k A B) (fun en st => (A' en st).bind fun x => (B' en x.2).bind fun y => some (0, [], en, ((j_setR y.2.1.1 (j_hd x.1).toNat k (j_hd y.1).toNat, y.2.1.2), y.2.2))) := by
  intro en st r h
  obtain ⟨x, h1, h⟩ := ex_bd h
  obtain ⟨y, h2, h⟩ := ex_bd h
  obtain ⟨o, h3, h⟩ := ex_bd h
  obtain ⟨v, h4, h⟩ := ex_bd h
  cases h
  dsimp only
  rw [hA _ _ _ h1, Option.bind_some, hB _ _ _ h2, Option.bind_some]
  dsimp only
  rw [a_hd_v, a_hd_v, a_num_ok (xs := xs) h3, a_num_ok (xs := xs) h4]
  rfl
theorem a_cell8 {v w : AV} (h : a_cell 8 v = .ok w) : ((Int32.ofInt (a_v xs v)).toInt8.toInt32).toInt = a_v xs w := by
  obtain ⟨n, h1, h⟩ := ex_bd h
  cases h
  rw [a_num_ok (xs := xs) h1]
  rfl
theorem a_cell9 {v w : AV} (h : a_cell 9 v = .ok w) : (Int32.ofInt (a_v xs v) &&& 1).toInt = a_v xs w := by
  obtain ⟨n, h1, h⟩ := ex_bd h
  cases h
  rw [a_num_ok (xs := xs) h1]
  rfl
theorem a_cellO {ty : Nat} {v w : AV} (h8 : ty ≠ 8) (h9 : ty ≠ 9) (h : a_cell ty v = .ok w) : v = w := by
  unfold a_cell at h
  split at h
  · exact absurd rfl h8
  · exact absurd rfl h9
  · cases h
    rfl
theorem ss_ast {ty : Nat} (hA : SndE xs A A') (hB : SndE xs B B') (hC : SndE xs C C') : SndS xs (as_ast ty A B C) (s_ast ty A' B' C') := by
  intro en st r h
  obtain ⟨x, h1, h⟩ := ex_bd h
  obtain ⟨y, h2, h⟩ := ex_bd h
  obtain ⟨z, h3, h⟩ := ex_bd h
  obtain ⟨o, h4, h⟩ := ex_bd h
  obtain ⟨j, h5, h⟩ := ex_bd h
  obtain ⟨v, h6, h⟩ := ex_bd h
  obtain ⟨h7, h⟩ := ex_if h
  cases h
  unfold s_ast
  rw [hA _ _ _ h1, Option.bind_some, hB _ _ _ h2, Option.bind_some, hC _ _ _ h3, Option.bind_some]
  dsimp only
  rw [a_hd_v, a_hd_v, a_hd_v, a_num_ok (xs := xs) h4, a_num_ok (xs := xs) h5, c_upd]
  refine (if_pos h7).trans ?_
  by_cases h8 : ty = 8
  · subst h8
    rw [a_cell8 h6]
    rfl
  · by_cases h9 : ty = 9
    · subst h9
      rw [a_cell9 h6]
      rfl
    · have e := a_cellO h8 h9 h6
      split
      · exact absurd rfl h8
      · exact absurd rfl h9
      · rw [e]
        rfl
theorem ss_astC {op : Nat} (hA : SndE xs A A') (hB : SndE xs B B') (hC : SndE xs C C') : SndS xs (as_astC op A B C) (s_astC op A' B' C') := by
  intro en st r h
  obtain ⟨x, h1, h⟩ := ex_bd h
  obtain ⟨y, h2, h⟩ := ex_bd h
  obtain ⟨o, h4, h⟩ := ex_bd h
  obtain ⟨j, h5, h⟩ := ex_bd h
  obtain ⟨h7, h⟩ := ex_if h
  obtain ⟨z, h3, h⟩ := ex_bd h
  obtain ⟨h8, h⟩ := ex_if h
  obtain ⟨p, h9, h⟩ := ex_bd h
  obtain ⟨q, h10, h⟩ := ex_bd h
  cases h
  unfold s_astC
  rw [hA _ _ _ h1, Option.bind_some, hB _ _ _ h2, Option.bind_some]
  dsimp only
  rw [a_hd_v, a_hd_v, a_num_ok (xs := xs) h4, a_num_ok (xs := xs) h5, if_pos (show 0 ≤ j ∧ j < j_len (a_c xs y.2).1.1 o.toNat from h7), hC _ _ _ h3, Option.bind_some]
  dsimp only
  rw [if_pos (show j < j_len (a_c xs z.2).1.1 o.toNat from h8), a_hd_v, a_num_ok (xs := xs) h10, c_upd]
  have e : (a_c xs y.2).2 o.toNat j.toNat = p := a_num_ok (xs := xs) h9
  rw [e, ← f_iop_ok]
  rfl
theorem ss_if (hs : SatA xs cx) (hA : SndE xs A A') (hP : SndS xs P P') (hQ : SndS xs Q Q') : SndS xs (as_if cx A P Q) (s_if A' P' Q') := by
  intro en st r h
  obtain ⟨x, h1, h⟩ := ex_bd h
  obtain ⟨v, h3, h⟩ := ex_bd h
  unfold s_if
  rw [hA _ _ _ h1, Option.bind_some]
  dsimp only
  rw [a_hd_v]
  rcases a_zero hs h3 with ⟨rfl, e⟩ | ⟨rfl, e⟩
  · rw [if_pos e]
    exact hQ _ _ _ h
  · rw [if_neg e]
    exact hP _ _ _ h
theorem ss_sw (hA : SndE xs A A') (hP : SndS xs P P') : SndS xs (as_sw A P) (s_sw A' P') := by
  intro en st r h
  obtain ⟨x, h1, h⟩ := ex_bd h
  obtain ⟨q, h3, h⟩ := ex_bd h
  unfold s_sw
  rw [hA _ _ _ h1, Option.bind_some]
  dsimp only
  rw [a_hd_v]
  have e := hP _ _ _ h3
  rw [List.map_cons] at e
  rw [e, Option.bind_some]
  dsimp only
  by_cases h4 : q.1 = 2
  · rw [if_pos h4] at h ⊢
    cases h
    rfl
  · rw [if_neg h4] at h ⊢
    cases h
    rfl
theorem headD_v {en : List AV} : (en.map (a_v xs)).headD 0 = a_v xs (en.headD (.inl 0)) := by cases en <;> rfl
theorem ss_case (hs : SatA xs cx) {l : List Nat} (hP : SndS xs P P') (hQ : SndS xs Q Q') : SndS xs (as_case cx l P Q) (fun en st => if l.any (fun n => decide (en.headD 0 = sx_z n)) then (P' en.tail st).bind fun r => if r.1 = 0 then none else some r else Q' en st) := by
  intro en st r h
  obtain ⟨b, h1, h⟩ := ex_bd h
  dsimp only
  rw [headD_v, a_any_ok hs h1]
  cases b with
  | true =>
    rw [if_pos rfl] at h ⊢
    obtain ⟨q, h3, h⟩ := ex_bd h
    have e := hP _ _ _ h3
    rw [List.map_tail] at e
    rw [e, Option.bind_some]
    dsimp only
    by_cases h4 : q.1 = 0
    · rw [if_pos h4] at h; cases h
    · rw [if_neg h4] at h ⊢
      cases h
      rfl
  | false =>
    rw [if_neg (by decide)] at h ⊢
    exact hQ _ _ _ h
theorem ss_try (hG : SndP xs G F) {f : Nat} (hA : SndE xs A A') (hB : SndE xs B B') : SndS xs (as_try G f A B) (s_try F f A' B') := by
  intro en st r h
  obtain ⟨x, h1, h⟩ := ex_bd h
  obtain ⟨y, h2, h⟩ := ex_bd h
  obtain ⟨q, h3, h⟩ := ex_bd h
  obtain ⟨o, h4, h⟩ := ex_bd h
  unfold s_try
  rw [hA _ _ _ h1, Option.bind_some, hB _ _ _ h2, Option.bind_some]
  dsimp only
  rw [hG _ _ _ _ h3, Option.bind_some]
  dsimp only
  rw [a_hd_v, a_num_ok (xs := xs) h4]
  by_cases h5 : q.1 = 1
  · rw [if_pos h5] at h ⊢
    obtain ⟨h6, h⟩ := ex_if h
    cases h
    rw [if_pos (show 0 < j_len (a_c xs q.2.2).1.1 o.toNat from h6), a_hd_v, c_upd]
    rfl
  · rw [if_neg h5] at h ⊢
    obtain ⟨h6, h⟩ := ex_if h
    cases h
    rw [if_pos h6]
    rfl
theorem ss_ret (hA : SndE xs A A') : SndS xs (as_ret A) (fun en st => (A' en st).bind fun x => some (1, x.1, en, x.2)) := by
  intro en st r h
  obtain ⟨x, h1, h⟩ := ex_bd h
  cases h
  dsimp only
  rw [hA _ _ _ h1, Option.bind_some]
theorem ss_retZ (hA : SndE xs A A') : SndS xs (as_retZ A) (fun en st => (A' en st).bind fun x => if j_hd x.1 = 0 ∨ j_hd x.1 = 1 then some (1, x.1, en, x.2) else none) := by
  intro en st r h
  obtain ⟨x, h1, h⟩ := ex_bd h
  obtain ⟨v, h4, h⟩ := ex_bd h
  obtain ⟨h5, h⟩ := ex_if h
  cases h
  dsimp only
  rw [hA _ _ _ h1, Option.bind_some]
  dsimp only
  rw [a_hd_v, a_num_ok (xs := xs) h4]
  exact if_pos h5
theorem ss_exp (hA : SndE xs A A') : SndS xs (as_exp A) (fun en st => (A' en st).bind fun x => some (0, [], en, x.2)) := by
  intro en st r h
  obtain ⟨x, h1, h⟩ := ex_bd h
  cases h
  dsimp only
  rw [hA _ _ _ h1, Option.bind_some]
  rfl
theorem ss_node (hs : SatA xs cx) (hG : SndP xs G F) {t : Nat} {a b c : SX} (hP : SndS xs P P') (hQ : SndS xs Q Q') (hS : SndS xs S S') : SndS xs (anodeS cx G L ck K cW t a b c P Q S) (nodeS xs L ck F K cW t a b c P' Q' S') := by
  have e := fun t => se_all (L := L) (ck := ck) (cW := cW) hs hG t
  unfold anodeS
  split
  · exact ss_skip
  · exact ss_seq hP hQ
  · exact ss_store (e b)
  · exact ss_inc
  · exact ss_putf (e a) (e b)
  · exact ss_putfC (e a) (e b)
  · split
    · exact ss_ast (e a) (e b) (e _)
    · intro en st r h
      cases h
  · split
    · exact ss_astC (e a) (e b) (e _)
    · intro en st r h
      cases h
  · exact ss_exp (e a)
  · exact ss_if hs (e a) hQ ss_skip
  · exact ss_if hs (e a) hQ hS
  · exact ss_loop hs (e a) hQ hS K
  · exact ss_do hs (e a) hQ K
  · exact ss_skip
  · exact ss_skip
  · exact ss_ret (e a)
  · exact ss_retZ (e a)
  · exact ss_skip
  · intro en st r h
    cases h
    rfl
  · exact ss_sw (e a) hQ
  · exact hP
  · exact ss_putr (e a) (e b)
  · exact ss_skip
  · exact ss_putfZ (e a) (e b)
  · exact ss_try hG (e a) (e b)
  · exact ss_if hs (e a) hQ ss_skip
  · exact ss_case hs hQ hS
  · intro en st r h
    have e2 := hP _ _ _ h
    rw [List.map_tail] at e2
    exact e2
  · intro en st r h
    cases h
theorem ss_all (hs : SatA xs cx) (hG : SndP xs G F) : ∀ t : SX, SndS xs (abS cx G L ck K cW t) (evS xs L ck F K cW t)
  | .op (.var t) (.op a (.op b c)) => ss_node hs hG (ss_all hs hG a) (ss_all hs hG b) (ss_all hs hG c)
  | .var _ => fun _ _ _ h => by cases h
  | .op (.op _ _) _ => fun _ _ _ h => by cases h
  | .op (.var _) (.var _) => fun _ _ _ h => by cases h
  | .op (.var _) (.op _ (.var _)) => fun _ _ _ h => by cases h
theorem lay_v : ∀ (pk : List Nat) (av : List AV), (a_lay pk av).map (a_v xs) = j_lay pk (av.map (a_v xs))
  | [], av => by cases av <;> rfl
  | k :: pk, [] => rfl
  | k :: pk, v :: av => by
    by_cases hk : k = 2
    · show (if k = 2 then v :: .inl 0 :: a_lay pk av else v :: a_lay pk av).map (a_v xs) = if k = 2 then a_v xs v :: 0 :: j_lay pk (av.map (a_v xs)) else a_v xs v :: j_lay pk (av.map (a_v xs))
      rw [if_pos hk, if_pos hk, List.map_cons, List.map_cons, lay_v pk av]
      rfl
    · show (if k = 2 then v :: .inl 0 :: a_lay pk av else v :: a_lay pk av).map (a_v xs) = if k = 2 then a_v xs v :: 0 :: j_lay pk (av.map (a_v xs)) else a_v xs v :: j_lay pk (av.map (a_v xs))
      rw [if_neg hk, if_neg hk, List.map_cons, lay_v pk av]
theorem pad_v {n : Nat} {l : List AV} : (j_pad (.inl 0) n l).map (a_v xs) = j_pad 0 n (l.map (a_v xs)) := by
  unfold j_pad
  rw [List.map_append, List.map_replicate, List.length_map]
  rfl
theorem sf_all (hs : SatA xs cx) {M : Nat → XM} : ∀ n, SndP xs (abF cx L ck K cW M n) (evF xs L ck K cW M n)
  | 0 => fun _ _ _ _ h => by cases h
  | n + 1 => by
    intro f av st r h
    obtain ⟨q, h1, h⟩ := ex_bd h
    obtain ⟨h2, h⟩ := ex_if h
    cases h
    have e := ss_all (L := L) (ck := ck) (K := K) (cW := cW) hs (sf_all hs n) (M f).2.2.2.2 _ _ _ h1
    rw [pad_v, lay_v] at e
    unfold evF
    rw [e, Option.bind_some]
    exact if_pos h2
end ASS
end
section
/-! ===== the law behind its first three statements (written by wip/tools/runs.py) ===== -/
def lawX : SX := (sx 3 (sv 1) (sx 34 (sx 31 z0 z0 z0) z0 z0) z0)
def lawM : SX := (sx 3 (sv 2) (sx 34 (sx 31 z0 z0 z0) (sv 10) (sv 185)) z0)
def lawO : SX := (sx 3 (sv 3) (sx 35 (sx 1 (sv 1) (sv 1) z0) (sv 7) z0) z0)
def lawR : SX := (sx 2 (sx 20 (sx 2 (sx 3 (sv 4) (sx 1 z0 (sv 1) z0) z0) (sx 12 (sx 20 (sx 3 (sv 4) z0 z0) (sx 14 (sx 10 (sx 3 z0 z0 z0) z0 (sv 1)) (sx 1 (sv 7) (sv 1) z0) (sv 1)) (sv 5)) (sx 20 (sx 19 (sx 14 (sx 7 (sx 3 z0 z0 z0) (sx 3 (sv 4) z0 z0) (sv 1)) (sx 1 (sv 63) (sv 1) z0) (sv 3)) (sx 25 (so 0 z0) (sx 2 (sx 9 (sx 32 (sx 30 (sx 3 (sv 1) z0 z0) (sx 30 (sx 15 (sx 16 (sx 18 (sx 7 (sx 3 z0 z0 z0) (sx 14 (sx 3 (sv 4) z0 z0) (sx 1 (sv 1) (sv 1) z0) z0) (sv 1)) z0 (sv 2)) (sx 1 (sv 32) (sv 1) z0) z0) (sx 15 (sx 18 (sx 7 (sx 3 z0 z0 z0) (sx 14 (sx 3 (sv 4) z0 z0) (sx 1 (sv 2) (sv 1) z0) z0) (sv 1)) z0 (sv 2)) (sx 1 (sv 4294967295) (sv 2) z0) (sv 3)) (sv 4)) (sx 30 (sx 15 (sx 16 (sx 18 (sx 7 (sx 3 z0 z0 z0) (sx 14 (sx 3 (sv 4) z0 z0) (sx 1 (sv 3) (sv 1) z0) z0) (sv 1)) z0 (sv 2)) (sx 1 (sv 32) (sv 1) z0) z0) (sx 15 (sx 18 (sx 7 (sx 3 z0 z0 z0) (sx 14 (sx 3 (sv 4) z0 z0) (sx 1 (sv 4) (sv 1) z0) z0) (sv 1)) z0 (sv 2)) (sx 1 (sv 4294967295) (sv 2) z0) (sv 3)) (sv 4)) (sx 30 (sx 15 (sx 16 (sx 18 (sx 7 (sx 3 z0 z0 z0) (sx 14 (sx 3 (sv 4) z0 z0) (sx 1 (sv 5) (sv 1) z0) z0) (sv 1)) z0 (sv 2)) (sx 1 (sv 32) (sv 1) z0) z0) (sx 15 (sx 18 (sx 7 (sx 3 z0 z0 z0) (sx 14 (sx 3 (sv 4) z0 z0) (sx 1 (sv 6) (sv 1) z0) z0) (sv 1)) z0 (sv 2)) (sx 1 (sv 4294967295) (sv 2) z0) (sv 3)) (sv 4)) (sx 31 z0 z0 z0) z0) z0) z0) z0) (sv 1) z0) z0 z0) (sx 2 (sx 9 (sx 32 (sx 30 (sx 3 (sv 2) z0 z0) (sx 30 (sx 15 (sx 16 (sx 18 (sx 7 (sx 3 z0 z0 z0) (sx 14 (sx 3 (sv 4) z0 z0) (sx 1 (sv 1) (sv 1) z0) z0) (sv 1)) z0 (sv 2)) (sx 1 (sv 32) (sv 1) z0) z0) (sx 15 (sx 18 (sx 7 (sx 3 z0 z0 z0) (sx 14 (sx 3 (sv 4) z0 z0) (sx 1 (sv 2) (sv 1) z0) z0) (sv 1)) z0 (sv 2)) (sx 1 (sv 4294967295) (sv 2) z0) (sv 3)) (sv 4)) (sx 30 (sx 15 (sx 16 (sx 18 (sx 7 (sx 3 z0 z0 z0) (sx 14 (sx 3 (sv 4) z0 z0) (sx 1 (sv 3) (sv 1) z0) z0) (sv 1)) z0 (sv 2)) (sx 1 (sv 32) (sv 1) z0) z0) (sx 15 (sx 18 (sx 7 (sx 3 z0 z0 z0) (sx 14 (sx 3 (sv 4) z0 z0) (sx 1 (sv 4) (sv 1) z0) z0) (sv 1)) z0 (sv 2)) (sx 1 (sv 4294967295) (sv 2) z0) (sv 3)) (sv 4)) (sx 30 (sx 15 (sx 16 (sx 18 (sx 7 (sx 3 z0 z0 z0) (sx 14 (sx 3 (sv 4) z0 z0) (sx 1 (sv 5) (sv 1) z0) z0) (sv 1)) z0 (sv 2)) (sx 1 (sv 32) (sv 1) z0) z0) (sx 15 (sx 18 (sx 7 (sx 3 z0 z0 z0) (sx 14 (sx 3 (sv 4) z0 z0) (sx 1 (sv 6) (sv 1) z0) z0) (sv 1)) z0 (sv 2)) (sx 1 (sv 4294967295) (sv 2) z0) (sv 3)) (sv 4)) (sx 31 z0 z0 z0) z0) z0) z0) z0) (sv 183) z0) z0 z0) (sx 14 z0 z0 z0) z0) z0) (sx 25 (so 2 z0) (sx 2 (sx 9 (sx 32 (sx 30 (sx 3 (sv 1) z0 z0) (sx 31 z0 z0 z0) z0) (sv 2) z0) z0 z0) (sx 2 (sx 9 (sx 32 (sx 30 (sx 3 (sv 2) z0 z0) (sx 31 z0 z0 z0) z0) (sv 206) z0) z0 z0) (sx 14 z0 z0 z0) z0) z0) (sx 25 (so 4 z0) (sx 2 (sx 9 (sx 32 (sx 30 (sx 3 (sv 1) z0 z0) (sx 31 z0 z0 z0) z0) (sv 4) z0) z0 z0) (sx 2 (sx 9 (sx 32 (sx 30 (sx 3 (sv 2) z0 z0) (sx 31 z0 z0 z0) z0) (sv 214) z0) z0 z0) (sx 14 z0 z0 z0) z0) z0) (sx 25 (so 6 z0) (sx 2 (sx 9 (sx 32 (sx 30 (sx 3 (sv 1) z0 z0) (sx 30 (sx 7 (sx 3 z0 z0 z0) (sx 14 (sx 3 (sv 4) z0 z0) (sx 1 (sv 1) (sv 1) z0) z0) (sv 1)) (sx 30 (sx 7 (sx 3 z0 z0 z0) (sx 14 (sx 3 (sv 4) z0 z0) (sx 1 (sv 2) (sv 1) z0) z0) (sv 1)) (sx 31 z0 z0 z0) z0) z0) z0) (sv 5) z0) z0 z0) (sx 2 (sx 9 (sx 32 (sx 30 (sx 3 (sv 2) z0 z0) (sx 30 (sx 7 (sx 3 z0 z0 z0) (sx 14 (sx 3 (sv 4) z0 z0) (sx 1 (sv 1) (sv 1) z0) z0) (sv 1)) (sx 30 (sx 7 (sx 3 z0 z0 z0) (sx 14 (sx 3 (sv 4) z0 z0) (sx 1 (sv 2) (sv 1) z0) z0) (sv 1)) (sx 31 z0 z0 z0) z0) z0) z0) (sv 261) z0) z0 z0) (sx 14 z0 z0 z0) z0) z0) (sx 25 (so 8 z0) (sx 2 (sx 9 (sx 32 (sx 30 (sx 3 (sv 1) z0 z0) (sx 30 (sx 7 (sx 3 z0 z0 z0) (sx 14 (sx 3 (sv 4) z0 z0) (sx 1 (sv 1) (sv 1) z0) z0) (sv 1)) (sx 30 (sx 7 (sx 3 z0 z0 z0) (sx 14 (sx 3 (sv 4) z0 z0) (sx 1 (sv 2) (sv 1) z0) z0) (sv 1)) (sx 31 z0 z0 z0) z0) z0) z0) (sv 6) z0) z0 z0) (sx 2 (sx 9 (sx 32 (sx 30 (sx 3 (sv 2) z0 z0) (sx 30 (sx 7 (sx 3 z0 z0 z0) (sx 14 (sx 3 (sv 4) z0 z0) (sx 1 (sv 1) (sv 1) z0) z0) (sv 1)) (sx 30 (sx 7 (sx 3 z0 z0 z0) (sx 14 (sx 3 (sv 4) z0 z0) (sx 1 (sv 2) (sv 1) z0) z0) (sv 1)) (sx 31 z0 z0 z0) z0) z0) z0) (sv 262) z0) z0 z0) (sx 14 z0 z0 z0) z0) z0) (sx 25 (so 10 z0) (sx 2 (sx 9 (sx 32 (sx 30 (sx 3 (sv 1) z0 z0) (sx 30 (sx 7 (sx 3 z0 z0 z0) (sx 14 (sx 3 (sv 4) z0 z0) (sx 1 (sv 1) (sv 1) z0) z0) (sv 1)) (sx 30 (sx 7 (sx 3 z0 z0 z0) (sx 14 (sx 3 (sv 4) z0 z0) (sx 1 (sv 2) (sv 1) z0) z0) (sv 1)) (sx 31 z0 z0 z0) z0) z0) z0) (sv 7) z0) z0 z0) (sx 2 (sx 9 (sx 32 (sx 30 (sx 3 (sv 2) z0 z0) (sx 30 (sx 7 (sx 3 z0 z0 z0) (sx 14 (sx 3 (sv 4) z0 z0) (sx 1 (sv 1) (sv 1) z0) z0) (sv 1)) (sx 30 (sx 7 (sx 3 z0 z0 z0) (sx 14 (sx 3 (sv 4) z0 z0) (sx 1 (sv 2) (sv 1) z0) z0) (sv 1)) (sx 31 z0 z0 z0) z0) z0) z0) (sv 263) z0) z0 z0) (sx 14 z0 z0 z0) z0) z0) (sx 25 (so 12 z0) (sx 2 (sx 9 (sx 32 (sx 30 (sx 3 (sv 1) z0 z0) (sx 30 (sx 7 (sx 3 z0 z0 z0) (sx 14 (sx 3 (sv 4) z0 z0) (sx 1 (sv 1) (sv 1) z0) z0) (sv 1)) (sx 30 (sx 7 (sx 3 z0 z0 z0) (sx 14 (sx 3 (sv 4) z0 z0) (sx 1 (sv 2) (sv 1) z0) z0) (sv 1)) (sx 30 (sx 7 (sx 3 z0 z0 z0) (sx 14 (sx 3 (sv 4) z0 z0) (sx 1 (sv 3) (sv 1) z0) z0) (sv 1)) (sx 31 z0 z0 z0) z0) z0) z0) z0) (sv 8) z0) z0 z0) (sx 2 (sx 9 (sx 32 (sx 30 (sx 3 (sv 2) z0 z0) (sx 30 (sx 7 (sx 3 z0 z0 z0) (sx 14 (sx 3 (sv 4) z0 z0) (sx 1 (sv 1) (sv 1) z0) z0) (sv 1)) (sx 30 (sx 7 (sx 3 z0 z0 z0) (sx 14 (sx 3 (sv 4) z0 z0) (sx 1 (sv 2) (sv 1) z0) z0) (sv 1)) (sx 30 (sx 7 (sx 3 z0 z0 z0) (sx 14 (sx 3 (sv 4) z0 z0) (sx 1 (sv 3) (sv 1) z0) z0) (sv 1)) (sx 31 z0 z0 z0) z0) z0) z0) z0) (sv 265) z0) z0 z0) (sx 14 z0 z0 z0) z0) z0) (sx 25 (so 14 z0) (sx 2 (sx 9 (sx 32 (sx 30 (sx 3 (sv 1) z0 z0) (sx 30 (sx 7 (sx 3 z0 z0 z0) (sx 14 (sx 3 (sv 4) z0 z0) (sx 1 (sv 1) (sv 1) z0) z0) (sv 1)) (sx 30 (sx 7 (sx 3 z0 z0 z0) (sx 14 (sx 3 (sv 4) z0 z0) (sx 1 (sv 2) (sv 1) z0) z0) (sv 1)) (sx 30 (sx 7 (sx 3 z0 z0 z0) (sx 14 (sx 3 (sv 4) z0 z0) (sx 1 (sv 3) (sv 1) z0) z0) (sv 1)) (sx 31 z0 z0 z0) z0) z0) z0) z0) (sv 9) z0) z0 z0) (sx 2 (sx 9 (sx 32 (sx 30 (sx 3 (sv 2) z0 z0) (sx 30 (sx 7 (sx 3 z0 z0 z0) (sx 14 (sx 3 (sv 4) z0 z0) (sx 1 (sv 1) (sv 1) z0) z0) (sv 1)) (sx 30 (sx 7 (sx 3 z0 z0 z0) (sx 14 (sx 3 (sv 4) z0 z0) (sx 1 (sv 2) (sv 1) z0) z0) (sv 1)) (sx 30 (sx 7 (sx 3 z0 z0 z0) (sx 14 (sx 3 (sv 4) z0 z0) (sx 1 (sv 3) (sv 1) z0) z0) (sv 1)) (sx 31 z0 z0 z0) z0) z0) z0) z0) (sv 267) z0) z0 z0) (sx 14 z0 z0 z0) z0) z0) (sx 25 (so 16 z0) (sx 2 (sx 9 (sx 32 (sx 30 (sx 3 (sv 1) z0 z0) (sx 30 (sx 7 (sx 3 z0 z0 z0) (sx 14 (sx 3 (sv 4) z0 z0) (sx 1 (sv 1) (sv 1) z0) z0) (sv 1)) (sx 30 (sx 7 (sx 3 z0 z0 z0) (sx 14 (sx 3 (sv 4) z0 z0) (sx 1 (sv 2) (sv 1) z0) z0) (sv 1)) (sx 31 z0 z0 z0) z0) z0) z0) (sv 10) z0) z0 z0) (sx 2 (sx 9 (sx 32 (sx 30 (sx 3 (sv 2) z0 z0) (sx 30 (sx 7 (sx 3 z0 z0 z0) (sx 14 (sx 3 (sv 4) z0 z0) (sx 1 (sv 1) (sv 1) z0) z0) (sv 1)) (sx 30 (sx 7 (sx 3 z0 z0 z0) (sx 14 (sx 3 (sv 4) z0 z0) (sx 1 (sv 2) (sv 1) z0) z0) (sv 1)) (sx 31 z0 z0 z0) z0) z0) z0) (sv 268) z0) z0 z0) (sx 14 z0 z0 z0) z0) z0) (sx 25 (so 18 z0) (sx 2 (sx 9 (sx 32 (sx 30 (sx 3 (sv 1) z0 z0) (sx 31 z0 z0 z0) z0) (sv 11) z0) z0 z0) (sx 2 (sx 9 (sx 32 (sx 30 (sx 3 (sv 2) z0 z0) (sx 31 z0 z0 z0) z0) (sv 271) z0) z0 z0) (sx 14 z0 z0 z0) z0) z0) (sx 25 (so 20 z0) (sx 2 (sx 9 (sx 32 (sx 30 (sx 3 (sv 1) z0 z0) (sx 31 z0 z0 z0) z0) (sv 12) z0) z0 z0) (sx 2 (sx 9 (sx 32 (sx 30 (sx 3 (sv 2) z0 z0) (sx 31 z0 z0 z0) z0) (sv 272) z0) z0 z0) (sx 14 z0 z0 z0) z0) z0) (sx 25 (so 22 z0) (sx 2 (sx 20 (sx 2 (sx 3 (sv 5) (sx 32 (sx 30 (sx 3 (sv 1) z0 z0) (sx 30 (sx 7 (sx 3 z0 z0 z0) (sx 14 (sx 3 (sv 4) z0 z0) (sx 1 (sv 1) (sv 1) z0) z0) (sv 1)) (sx 30 (sx 3 (sv 3) z0 z0) (sx 31 z0 z0 z0) z0) z0) z0) (sv 314) z0) z0) (sx 3 (sv 6) (sx 32 (sx 30 (sx 3 (sv 2) z0 z0) (sx 30 (sx 7 (sx 3 z0 z0 z0) (sx 14 (sx 3 (sv 4) z0 z0) (sx 1 (sv 1) (sv 1) z0) z0) (sv 1)) (sx 31 z0 z0 z0) z0) z0) (sv 273) z0) z0) z0) z0 z0) (sx 14 z0 z0 z0) z0) (sx 25 (so 24 z0) (sx 2 (sx 20 (sx 2 (sx 3 (sv 5) (sx 32 (sx 30 (sx 3 (sv 1) z0 z0) (sx 30 (sx 7 (sx 3 z0 z0 z0) (sx 14 (sx 3 (sv 4) z0 z0) (sx 1 (sv 1) (sv 1) z0) z0) (sv 1)) (sx 30 (sx 7 (sx 3 z0 z0 z0) (sx 14 (sx 3 (sv 4) z0 z0) (sx 1 (sv 2) (sv 1) z0) z0) (sv 1)) (sx 30 (sx 3 (sv 3) z0 z0) (sx 31 z0 z0 z0) z0) z0) z0) z0) (sv 315) z0) z0) (sx 3 (sv 6) (sx 32 (sx 30 (sx 3 (sv 2) z0 z0) (sx 30 (sx 7 (sx 3 z0 z0 z0) (sx 14 (sx 3 (sv 4) z0 z0) (sx 1 (sv 1) (sv 1) z0) z0) (sv 1)) (sx 30 (sx 7 (sx 3 z0 z0 z0) (sx 14 (sx 3 (sv 4) z0 z0) (sx 1 (sv 2) (sv 1) z0) z0) (sv 1)) (sx 31 z0 z0 z0) z0) z0) z0) (sv 275) z0) z0) z0) z0 z0) (sx 14 z0 z0 z0) z0) (sx 25 (so 26 z0) (sx 2 (sx 20 (sx 2 (sx 3 (sv 5) (sx 32 (sx 30 (sx 3 (sv 1) z0 z0) (sx 30 (sx 7 (sx 3 z0 z0 z0) (sx 14 (sx 3 (sv 4) z0 z0) (sx 1 (sv 1) (sv 1) z0) z0) (sv 1)) (sx 30 (sx 7 (sx 3 z0 z0 z0) (sx 14 (sx 3 (sv 4) z0 z0) (sx 1 (sv 2) (sv 1) z0) z0) (sv 1)) (sx 30 (sx 3 (sv 3) z0 z0) (sx 31 z0 z0 z0) z0) z0) z0) z0) (sv 316) z0) z0) (sx 3 (sv 6) (sx 32 (sx 30 (sx 3 (sv 2) z0 z0) (sx 30 (sx 7 (sx 3 z0 z0 z0) (sx 14 (sx 3 (sv 4) z0 z0) (sx 1 (sv 1) (sv 1) z0) z0) (sv 1)) (sx 30 (sx 7 (sx 3 z0 z0 z0) (sx 14 (sx 3 (sv 4) z0 z0) (sx 1 (sv 2) (sv 1) z0) z0) (sv 1)) (sx 31 z0 z0 z0) z0) z0) z0) (sv 276) z0) z0) z0) z0 z0) (sx 14 z0 z0 z0) z0) (sx 25 (so 28 z0) (sx 2 (sx 20 (sx 2 (sx 3 (sv 5) (sx 32 (sx 30 (sx 3 (sv 1) z0 z0) (sx 30 (sx 7 (sx 3 z0 z0 z0) (sx 14 (sx 3 (sv 4) z0 z0) (sx 1 (sv 1) (sv 1) z0) z0) (sv 1)) (sx 30 (sx 7 (sx 3 z0 z0 z0) (sx 14 (sx 3 (sv 4) z0 z0) (sx 1 (sv 2) (sv 1) z0) z0) (sv 1)) (sx 30 (sx 3 (sv 3) z0 z0) (sx 31 z0 z0 z0) z0) z0) z0) z0) (sv 317) z0) z0) (sx 3 (sv 6) (sx 32 (sx 30 (sx 3 (sv 2) z0 z0) (sx 30 (sx 7 (sx 3 z0 z0 z0) (sx 14 (sx 3 (sv 4) z0 z0) (sx 1 (sv 1) (sv 1) z0) z0) (sv 1)) (sx 30 (sx 7 (sx 3 z0 z0 z0) (sx 14 (sx 3 (sv 4) z0 z0) (sx 1 (sv 2) (sv 1) z0) z0) (sv 1)) (sx 31 z0 z0 z0) z0) z0) z0) (sv 277) z0) z0) z0) z0 z0) (sx 14 z0 z0 z0) z0) (sx 25 (so 30 z0) (sx 2 (sx 20 (sx 2 (sx 3 (sv 5) (sx 32 (sx 30 (sx 3 (sv 1) z0 z0) (sx 30 (sx 7 (sx 3 z0 z0 z0) (sx 14 (sx 3 (sv 4) z0 z0) (sx 1 (sv 1) (sv 1) z0) z0) (sv 1)) (sx 30 (sx 3 (sv 3) z0 z0) (sx 31 z0 z0 z0) z0) z0) z0) (sv 318) z0) z0) (sx 3 (sv 6) (sx 32 (sx 30 (sx 3 (sv 2) z0 z0) (sx 30 (sx 7 (sx 3 z0 z0 z0) (sx 14 (sx 3 (sv 4) z0 z0) (sx 1 (sv 1) (sv 1) z0) z0) (sv 1)) (sx 31 z0 z0 z0) z0) z0) (sv 278) z0) z0) z0) z0 z0) (sx 14 z0 z0 z0) z0) (sx 25 (so 32 z0) (sx 2 (sx 20 (sx 2 (sx 3 (sv 5) (sx 32 (sx 30 (sx 3 (sv 1) z0 z0) (sx 30 (sx 7 (sx 3 z0 z0 z0) (sx 14 (sx 3 (sv 4) z0 z0) (sx 1 (sv 1) (sv 1) z0) z0) (sv 1)) (sx 30 (sx 7 (sx 3 z0 z0 z0) (sx 14 (sx 3 (sv 4) z0 z0) (sx 1 (sv 2) (sv 1) z0) z0) (sv 1)) (sx 30 (sx 3 (sv 3) z0 z0) (sx 31 z0 z0 z0) z0) z0) z0) z0) (sv 319) z0) z0) (sx 3 (sv 6) (sx 32 (sx 30 (sx 3 (sv 2) z0 z0) (sx 30 (sx 7 (sx 3 z0 z0 z0) (sx 14 (sx 3 (sv 4) z0 z0) (sx 1 (sv 1) (sv 1) z0) z0) (sv 1)) (sx 30 (sx 7 (sx 3 z0 z0 z0) (sx 14 (sx 3 (sv 4) z0 z0) (sx 1 (sv 2) (sv 1) z0) z0) (sv 1)) (sx 31 z0 z0 z0) z0) z0) z0) (sv 279) z0) z0) z0) z0 z0) (sx 14 z0 z0 z0) z0) (sx 25 (so 34 z0) (sx 2 (sx 20 (sx 2 (sx 3 (sv 5) (sx 32 (sx 30 (sx 3 (sv 1) z0 z0) (sx 30 (sx 7 (sx 3 z0 z0 z0) (sx 14 (sx 3 (sv 4) z0 z0) (sx 1 (sv 1) (sv 1) z0) z0) (sv 1)) (sx 30 (sx 7 (sx 3 z0 z0 z0) (sx 14 (sx 3 (sv 4) z0 z0) (sx 1 (sv 2) (sv 1) z0) z0) (sv 1)) (sx 30 (sx 3 (sv 3) z0 z0) (sx 31 z0 z0 z0) z0) z0) z0) z0) (sv 320) z0) z0) (sx 3 (sv 6) (sx 32 (sx 30 (sx 3 (sv 2) z0 z0) (sx 30 (sx 7 (sx 3 z0 z0 z0) (sx 14 (sx 3 (sv 4) z0 z0) (sx 1 (sv 1) (sv 1) z0) z0) (sv 1)) (sx 30 (sx 7 (sx 3 z0 z0 z0) (sx 14 (sx 3 (sv 4) z0 z0) (sx 1 (sv 2) (sv 1) z0) z0) (sv 1)) (sx 31 z0 z0 z0) z0) z0) z0) (sv 280) z0) z0) z0) z0 z0) (sx 14 z0 z0 z0) z0) (sx 25 (so 36 z0) (sx 2 (sx 20 (sx 2 (sx 3 (sv 5) (sx 32 (sx 30 (sx 3 (sv 1) z0 z0) (sx 30 (sx 7 (sx 3 z0 z0 z0) (sx 14 (sx 3 (sv 4) z0 z0) (sx 1 (sv 1) (sv 1) z0) z0) (sv 1)) (sx 30 (sx 7 (sx 3 z0 z0 z0) (sx 14 (sx 3 (sv 4) z0 z0) (sx 1 (sv 2) (sv 1) z0) z0) (sv 1)) (sx 30 (sx 3 (sv 3) z0 z0) (sx 31 z0 z0 z0) z0) z0) z0) z0) (sv 321) z0) z0) (sx 3 (sv 6) (sx 32 (sx 30 (sx 3 (sv 2) z0 z0) (sx 30 (sx 7 (sx 3 z0 z0 z0) (sx 14 (sx 3 (sv 4) z0 z0) (sx 1 (sv 1) (sv 1) z0) z0) (sv 1)) (sx 30 (sx 7 (sx 3 z0 z0 z0) (sx 14 (sx 3 (sv 4) z0 z0) (sx 1 (sv 2) (sv 1) z0) z0) (sv 1)) (sx 31 z0 z0 z0) z0) z0) z0) (sv 281) z0) z0) z0) z0 z0) (sx 14 z0 z0 z0) z0) (sx 25 (so 38 z0) (sx 2 (sx 20 (sx 2 (sx 3 (sv 5) (sx 32 (sx 30 (sx 3 (sv 1) z0 z0) (sx 30 (sx 7 (sx 3 z0 z0 z0) (sx 14 (sx 3 (sv 4) z0 z0) (sx 1 (sv 1) (sv 1) z0) z0) (sv 1)) (sx 30 (sx 3 (sv 3) z0 z0) (sx 31 z0 z0 z0) z0) z0) z0) (sv 322) z0) z0) (sx 3 (sv 6) (sx 32 (sx 30 (sx 3 (sv 2) z0 z0) (sx 30 (sx 7 (sx 3 z0 z0 z0) (sx 14 (sx 3 (sv 4) z0 z0) (sx 1 (sv 1) (sv 1) z0) z0) (sv 1)) (sx 31 z0 z0 z0) z0) z0) (sv 282) z0) z0) z0) z0 z0) (sx 14 z0 z0 z0) z0) (sx 25 (so 40 z0) (sx 2 (sx 9 (sx 32 (sx 30 (sx 3 (sv 1) z0 z0) (sx 30 (sx 7 (sx 3 z0 z0 z0) (sx 14 (sx 3 (sv 4) z0 z0) (sx 1 (sv 1) (sv 1) z0) z0) (sv 1)) (sx 31 z0 z0 z0) z0) z0) (sv 22) z0) z0 z0) (sx 2 (sx 9 (sx 32 (sx 30 (sx 3 (sv 2) z0 z0) (sx 30 (sx 7 (sx 3 z0 z0 z0) (sx 14 (sx 3 (sv 4) z0 z0) (sx 1 (sv 1) (sv 1) z0) z0) (sv 1)) (sx 31 z0 z0 z0) z0) z0) (sv 283) z0) z0 z0) (sx 14 z0 z0 z0) z0) z0) (sx 25 (so 42 z0) (sx 2 (sx 9 (sx 32 (sx 30 (sx 3 (sv 1) z0 z0) (sx 30 (sx 7 (sx 3 z0 z0 z0) (sx 14 (sx 3 (sv 4) z0 z0) (sx 1 (sv 1) (sv 1) z0) z0) (sv 1)) (sx 30 (sx 7 (sx 3 z0 z0 z0) (sx 14 (sx 3 (sv 4) z0 z0) (sx 1 (sv 2) (sv 1) z0) z0) (sv 1)) (sx 31 z0 z0 z0) z0) z0) z0) (sv 23) z0) z0 z0) (sx 2 (sx 9 (sx 32 (sx 30 (sx 3 (sv 2) z0 z0) (sx 30 (sx 7 (sx 3 z0 z0 z0) (sx 14 (sx 3 (sv 4) z0 z0) (sx 1 (sv 1) (sv 1) z0) z0) (sv 1)) (sx 30 (sx 7 (sx 3 z0 z0 z0) (sx 14 (sx 3 (sv 4) z0 z0) (sx 1 (sv 2) (sv 1) z0) z0) (sv 1)) (sx 31 z0 z0 z0) z0) z0) z0) (sv 284) z0) z0 z0) (sx 14 z0 z0 z0) z0) z0) (sx 25 (so 44 z0) (sx 2 (sx 20 (sx 2 (sx 3 (sv 5) (sx 32 (sx 30 (sx 3 (sv 1) z0 z0) (sx 30 (sx 7 (sx 3 z0 z0 z0) (sx 14 (sx 3 (sv 4) z0 z0) (sx 1 (sv 1) (sv 1) z0) z0) (sv 1)) (sx 30 (sx 3 (sv 3) z0 z0) (sx 31 z0 z0 z0) z0) z0) z0) (sv 323) z0) z0) (sx 3 (sv 6) (sx 32 (sx 30 (sx 3 (sv 2) z0 z0) (sx 30 (sx 7 (sx 3 z0 z0 z0) (sx 14 (sx 3 (sv 4) z0 z0) (sx 1 (sv 1) (sv 1) z0) z0) (sv 1)) (sx 31 z0 z0 z0) z0) z0) (sv 286) z0) z0) z0) z0 z0) (sx 14 z0 z0 z0) z0) (sx 25 (so 46 z0) (sx 2 (sx 9 (sx 32 (sx 30 (sx 3 (sv 1) z0 z0) (sx 31 z0 z0 z0) z0) (sv 25) z0) z0 z0) (sx 2 (sx 9 (sx 32 (sx 30 (sx 3 (sv 2) z0 z0) (sx 31 z0 z0 z0) z0) (sv 288) z0) z0 z0) (sx 14 z0 z0 z0) z0) z0) (sx 25 (so 48 z0) (sx 2 (sx 9 (sx 32 (sx 30 (sx 3 (sv 1) z0 z0) (sx 31 z0 z0 z0) z0) (sv 26) z0) z0 z0) (sx 2 (sx 9 (sx 32 (sx 30 (sx 3 (sv 2) z0 z0) (sx 31 z0 z0 z0) z0) (sv 289) z0) z0 z0) (sx 14 z0 z0 z0) z0) z0) (sx 25 (so 50 z0) (sx 2 (sx 20 (sx 2 (sx 3 (sv 5) (sx 32 (sx 30 (sx 3 (sv 1) z0 z0) (sx 30 (sx 7 (sx 3 z0 z0 z0) (sx 14 (sx 3 (sv 4) z0 z0) (sx 1 (sv 1) (sv 1) z0) z0) (sv 1)) (sx 30 (sx 7 (sx 3 z0 z0 z0) (sx 14 (sx 3 (sv 4) z0 z0) (sx 1 (sv 2) (sv 1) z0) z0) (sv 1)) (sx 30 (sx 7 (sx 3 z0 z0 z0) (sx 14 (sx 3 (sv 4) z0 z0) (sx 1 (sv 3) (sv 1) z0) z0) (sv 1)) (sx 30 (sx 3 (sv 3) z0 z0) (sx 31 z0 z0 z0) z0) z0) z0) z0) z0) (sv 324) z0) z0) (sx 3 (sv 6) (sx 32 (sx 30 (sx 3 (sv 2) z0 z0) (sx 30 (sx 7 (sx 3 z0 z0 z0) (sx 14 (sx 3 (sv 4) z0 z0) (sx 1 (sv 1) (sv 1) z0) z0) (sv 1)) (sx 30 (sx 7 (sx 3 z0 z0 z0) (sx 14 (sx 3 (sv 4) z0 z0) (sx 1 (sv 2) (sv 1) z0) z0) (sv 1)) (sx 30 (sx 7 (sx 3 z0 z0 z0) (sx 14 (sx 3 (sv 4) z0 z0) (sx 1 (sv 3) (sv 1) z0) z0) (sv 1)) (sx 31 z0 z0 z0) z0) z0) z0) z0) (sv 292) z0) z0) z0) z0 z0) (sx 14 z0 z0 z0) z0) (sx 25 (so 52 z0) (sx 2 (sx 20 (sx 2 (sx 3 (sv 5) (sx 32 (sx 30 (sx 3 (sv 1) z0 z0) (sx 30 (sx 7 (sx 3 z0 z0 z0) (sx 14 (sx 3 (sv 4) z0 z0) (sx 1 (sv 1) (sv 1) z0) z0) (sv 1)) (sx 30 (sx 7 (sx 3 z0 z0 z0) (sx 14 (sx 3 (sv 4) z0 z0) (sx 1 (sv 2) (sv 1) z0) z0) (sv 1)) (sx 30 (sx 7 (sx 3 z0 z0 z0) (sx 14 (sx 3 (sv 4) z0 z0) (sx 1 (sv 3) (sv 1) z0) z0) (sv 1)) (sx 30 (sx 3 (sv 3) z0 z0) (sx 31 z0 z0 z0) z0) z0) z0) z0) z0) (sv 325) z0) z0) (sx 3 (sv 6) (sx 32 (sx 30 (sx 3 (sv 2) z0 z0) (sx 30 (sx 7 (sx 3 z0 z0 z0) (sx 14 (sx 3 (sv 4) z0 z0) (sx 1 (sv 1) (sv 1) z0) z0) (sv 1)) (sx 30 (sx 7 (sx 3 z0 z0 z0) (sx 14 (sx 3 (sv 4) z0 z0) (sx 1 (sv 2) (sv 1) z0) z0) (sv 1)) (sx 30 (sx 7 (sx 3 z0 z0 z0) (sx 14 (sx 3 (sv 4) z0 z0) (sx 1 (sv 3) (sv 1) z0) z0) (sv 1)) (sx 31 z0 z0 z0) z0) z0) z0) z0) (sv 293) z0) z0) z0) z0 z0) (sx 14 z0 z0 z0) z0) (sx 25 (so 54 z0) (sx 2 (sx 20 (sx 2 (sx 3 (sv 5) (sx 32 (sx 30 (sx 3 (sv 1) z0 z0) (sx 30 (sx 7 (sx 3 z0 z0 z0) (sx 14 (sx 3 (sv 4) z0 z0) (sx 1 (sv 1) (sv 1) z0) z0) (sv 1)) (sx 30 (sx 3 (sv 3) z0 z0) (sx 31 z0 z0 z0) z0) z0) z0) (sv 326) z0) z0) (sx 3 (sv 6) (sx 32 (sx 30 (sx 3 (sv 2) z0 z0) (sx 30 (sx 7 (sx 3 z0 z0 z0) (sx 14 (sx 3 (sv 4) z0 z0) (sx 1 (sv 1) (sv 1) z0) z0) (sv 1)) (sx 31 z0 z0 z0) z0) z0) (sv 294) z0) z0) z0) z0 z0) (sx 14 z0 z0 z0) z0) (sx 25 (so 56 z0) (sx 2 (sx 9 (sx 32 (sx 30 (sx 3 (sv 1) z0 z0) (sx 31 z0 z0 z0) z0) (sv 30) z0) z0 z0) (sx 2 (sx 9 (sx 32 (sx 30 (sx 3 (sv 2) z0 z0) (sx 31 z0 z0 z0) z0) (sv 295) z0) z0 z0) (sx 14 z0 z0 z0) z0) z0) (sx 25 (so 58 z0) (sx 2 (sx 20 (sx 2 (sx 3 (sv 5) (sx 32 (sx 30 (sx 3 (sv 1) z0 z0) (sx 30 (sx 7 (sx 3 z0 z0 z0) (sx 14 (sx 3 (sv 4) z0 z0) (sx 1 (sv 1) (sv 1) z0) z0) (sv 1)) (sx 30 (sx 7 (sx 3 z0 z0 z0) (sx 14 (sx 3 (sv 4) z0 z0) (sx 1 (sv 2) (sv 1) z0) z0) (sv 1)) (sx 30 (sx 3 (sv 3) z0 z0) (sx 31 z0 z0 z0) z0) z0) z0) z0) (sv 327) z0) z0) (sx 3 (sv 6) (sx 32 (sx 30 (sx 3 (sv 2) z0 z0) (sx 30 (sx 7 (sx 3 z0 z0 z0) (sx 14 (sx 3 (sv 4) z0 z0) (sx 1 (sv 1) (sv 1) z0) z0) (sv 1)) (sx 30 (sx 7 (sx 3 z0 z0 z0) (sx 14 (sx 3 (sv 4) z0 z0) (sx 1 (sv 2) (sv 1) z0) z0) (sv 1)) (sx 31 z0 z0 z0) z0) z0) z0) (sv 296) z0) z0) z0) z0 z0) (sx 14 z0 z0 z0) z0) (sx 25 (so 60 z0) (sx 2 (sx 20 (sx 2 (sx 3 (sv 5) (sx 32 (sx 30 (sx 3 (sv 1) z0 z0) (sx 30 (sx 7 (sx 3 z0 z0 z0) (sx 14 (sx 3 (sv 4) z0 z0) (sx 1 (sv 1) (sv 1) z0) z0) (sv 1)) (sx 30 (sx 7 (sx 3 z0 z0 z0) (sx 14 (sx 3 (sv 4) z0 z0) (sx 1 (sv 2) (sv 1) z0) z0) (sv 1)) (sx 30 (sx 3 (sv 3) z0 z0) (sx 31 z0 z0 z0) z0) z0) z0) z0) (sv 328) z0) z0) (sx 3 (sv 6) (sx 32 (sx 30 (sx 3 (sv 2) z0 z0) (sx 30 (sx 7 (sx 3 z0 z0 z0) (sx 14 (sx 3 (sv 4) z0 z0) (sx 1 (sv 1) (sv 1) z0) z0) (sv 1)) (sx 30 (sx 7 (sx 3 z0 z0 z0) (sx 14 (sx 3 (sv 4) z0 z0) (sx 1 (sv 2) (sv 1) z0) z0) (sv 1)) (sx 31 z0 z0 z0) z0) z0) z0) (sv 297) z0) z0) z0) z0 z0) (sx 14 z0 z0 z0) z0) (sx 25 (so 62 z0) (sx 2 (sx 20 (sx 2 (sx 3 (sv 5) (sx 32 (sx 30 (sx 3 (sv 1) z0 z0) (sx 30 (sx 7 (sx 3 z0 z0 z0) (sx 14 (sx 3 (sv 4) z0 z0) (sx 1 (sv 1) (sv 1) z0) z0) (sv 1)) (sx 30 (sx 7 (sx 3 z0 z0 z0) (sx 14 (sx 3 (sv 4) z0 z0) (sx 1 (sv 2) (sv 1) z0) z0) (sv 1)) (sx 30 (sx 7 (sx 3 z0 z0 z0) (sx 14 (sx 3 (sv 4) z0 z0) (sx 1 (sv 3) (sv 1) z0) z0) (sv 1)) (sx 30 (sx 7 (sx 3 z0 z0 z0) (sx 14 (sx 3 (sv 4) z0 z0) (sx 1 (sv 4) (sv 1) z0) z0) (sv 1)) (sx 30 (sx 3 (sv 3) z0 z0) (sx 31 z0 z0 z0) z0) z0) z0) z0) z0) z0) (sv 329) z0) z0) (sx 3 (sv 6) (sx 32 (sx 30 (sx 3 (sv 2) z0 z0) (sx 30 (sx 7 (sx 3 z0 z0 z0) (sx 14 (sx 3 (sv 4) z0 z0) (sx 1 (sv 1) (sv 1) z0) z0) (sv 1)) (sx 30 (sx 7 (sx 3 z0 z0 z0) (sx 14 (sx 3 (sv 4) z0 z0) (sx 1 (sv 2) (sv 1) z0) z0) (sv 1)) (sx 30 (sx 7 (sx 3 z0 z0 z0) (sx 14 (sx 3 (sv 4) z0 z0) (sx 1 (sv 3) (sv 1) z0) z0) (sv 1)) (sx 30 (sx 7 (sx 3 z0 z0 z0) (sx 14 (sx 3 (sv 4) z0 z0) (sx 1 (sv 4) (sv 1) z0) z0) (sv 1)) (sx 31 z0 z0 z0) z0) z0) z0) z0) z0) (sv 299) z0) z0) z0) z0 z0) (sx 14 z0 z0 z0) z0) (sx 25 (so 64 z0) (sx 2 (sx 20 (sx 2 (sx 3 (sv 5) (sx 32 (sx 30 (sx 3 (sv 1) z0 z0) (sx 30 (sx 7 (sx 3 z0 z0 z0) (sx 14 (sx 3 (sv 4) z0 z0) (sx 1 (sv 1) (sv 1) z0) z0) (sv 1)) (sx 30 (sx 7 (sx 3 z0 z0 z0) (sx 14 (sx 3 (sv 4) z0 z0) (sx 1 (sv 2) (sv 1) z0) z0) (sv 1)) (sx 30 (sx 3 (sv 3) z0 z0) (sx 31 z0 z0 z0) z0) z0) z0) z0) (sv 330) z0) z0) (sx 3 (sv 6) (sx 32 (sx 30 (sx 3 (sv 2) z0 z0) (sx 30 (sx 7 (sx 3 z0 z0 z0) (sx 14 (sx 3 (sv 4) z0 z0) (sx 1 (sv 1) (sv 1) z0) z0) (sv 1)) (sx 30 (sx 7 (sx 3 z0 z0 z0) (sx 14 (sx 3 (sv 4) z0 z0) (sx 1 (sv 2) (sv 1) z0) z0) (sv 1)) (sx 31 z0 z0 z0) z0) z0) z0) (sv 300) z0) z0) z0) z0 z0) (sx 14 z0 z0 z0) z0) (sx 25 (so 66 z0) (sx 2 (sx 9 (sx 32 (sx 30 (sx 3 (sv 1) z0 z0) (sx 30 (sx 7 (sx 3 z0 z0 z0) (sx 14 (sx 3 (sv 4) z0 z0) (sx 1 (sv 1) (sv 1) z0) z0) (sv 1)) (sx 31 z0 z0 z0) z0) z0) (sv 35) z0) z0 z0) (sx 2 (sx 9 (sx 32 (sx 30 (sx 3 (sv 2) z0 z0) (sx 30 (sx 7 (sx 3 z0 z0 z0) (sx 14 (sx 3 (sv 4) z0 z0) (sx 1 (sv 1) (sv 1) z0) z0) (sv 1)) (sx 31 z0 z0 z0) z0) z0) (sv 302) z0) z0 z0) (sx 14 z0 z0 z0) z0) z0) (sx 25 (so 68 z0) (sx 28 (sx 20 (sx 32 (sx 30 (sx 3 (sv 1) z0 z0) (sx 31 z0 z0 z0) z0) (sv 36) z0) (sx 32 (sx 30 (sx 3 (sv 2) z0 z0) (sx 31 z0 z0 z0) z0) (sv 303) z0) (sv 1)) (sx 27 (sx 1 z0 (sv 1) z0) z0 z0) z0) (sx 25 (so 70 z0) (sx 2 (sx 9 (sx 32 (sx 30 (sx 3 (sv 1) z0 z0) (sx 30 (sx 7 (sx 3 z0 z0 z0) (sx 14 (sx 3 (sv 4) z0 z0) (sx 1 (sv 1) (sv 1) z0) z0) (sv 1)) (sx 30 (sx 7 (sx 3 z0 z0 z0) (sx 14 (sx 3 (sv 4) z0 z0) (sx 1 (sv 2) (sv 1) z0) z0) (sv 1)) (sx 30 (sx 21 (sx 7 (sx 3 z0 z0 z0) (sx 14 (sx 3 (sv 4) z0 z0) (sx 1 (sv 3) (sv 1) z0) z0) (sv 1)) z0 (sv 1)) (sx 31 z0 z0 z0) z0) z0) z0) z0) (sv 40) z0) z0 z0) (sx 2 (sx 9 (sx 32 (sx 30 (sx 3 (sv 2) z0 z0) (sx 30 (sx 7 (sx 3 z0 z0 z0) (sx 14 (sx 3 (sv 4) z0 z0) (sx 1 (sv 1) (sv 1) z0) z0) (sv 1)) (sx 30 (sx 7 (sx 3 z0 z0 z0) (sx 14 (sx 3 (sv 4) z0 z0) (sx 1 (sv 2) (sv 1) z0) z0) (sv 1)) (sx 30 (sx 21 (sx 7 (sx 3 z0 z0 z0) (sx 14 (sx 3 (sv 4) z0 z0) (sx 1 (sv 3) (sv 1) z0) z0) (sv 1)) z0 (sv 1)) (sx 31 z0 z0 z0) z0) z0) z0) z0) (sv 304) z0) z0 z0) (sx 14 z0 z0 z0) z0) z0) (sx 25 (so 72 z0) (sx 2 (sx 9 (sx 32 (sx 30 (sx 3 (sv 1) z0 z0) (sx 31 z0 z0 z0) z0) (sv 41) z0) z0 z0) (sx 2 (sx 9 (sx 32 (sx 30 (sx 3 (sv 2) z0 z0) (sx 31 z0 z0 z0) z0) (sv 306) z0) z0 z0) (sx 14 z0 z0 z0) z0) z0) (sx 25 (so 74 z0) (sx 2 (sx 9 (sx 32 (sx 30 (sx 3 (sv 1) z0 z0) (sx 31 z0 z0 z0) z0) (sv 42) z0) z0 z0) (sx 2 (sx 9 (sx 32 (sx 30 (sx 3 (sv 2) z0 z0) (sx 31 z0 z0 z0) z0) (sv 307) z0) z0 z0) (sx 14 z0 z0 z0) z0) z0) (sx 25 (so 76 z0) (sx 2 (sx 20 (sx 2 (sx 3 (sv 5) (sx 32 (sx 30 (sx 3 (sv 1) z0 z0) (sx 30 (sx 7 (sx 3 z0 z0 z0) (sx 14 (sx 3 (sv 4) z0 z0) (sx 1 (sv 1) (sv 1) z0) z0) (sv 1)) (sx 30 (sx 7 (sx 3 z0 z0 z0) (sx 14 (sx 3 (sv 4) z0 z0) (sx 1 (sv 2) (sv 1) z0) z0) (sv 1)) (sx 30 (sx 7 (sx 3 z0 z0 z0) (sx 14 (sx 3 (sv 4) z0 z0) (sx 1 (sv 3) (sv 1) z0) z0) (sv 1)) (sx 30 (sx 3 (sv 3) z0 z0) (sx 31 z0 z0 z0) z0) z0) z0) z0) z0) (sv 331) z0) z0) (sx 3 (sv 6) (sx 32 (sx 30 (sx 3 (sv 2) z0 z0) (sx 30 (sx 7 (sx 3 z0 z0 z0) (sx 14 (sx 3 (sv 4) z0 z0) (sx 1 (sv 1) (sv 1) z0) z0) (sv 1)) (sx 30 (sx 7 (sx 3 z0 z0 z0) (sx 14 (sx 3 (sv 4) z0 z0) (sx 1 (sv 2) (sv 1) z0) z0) (sv 1)) (sx 30 (sx 7 (sx 3 z0 z0 z0) (sx 14 (sx 3 (sv 4) z0 z0) (sx 1 (sv 3) (sv 1) z0) z0) (sv 1)) (sx 31 z0 z0 z0) z0) z0) z0) z0) (sv 310) z0) z0) z0) z0 z0) (sx 14 z0 z0 z0) z0) (sx 25 (so 78 z0) (sx 2 (sx 9 (sx 32 (sx 30 (sx 3 (sv 1) z0 z0) (sx 30 (sx 7 (sx 3 z0 z0 z0) (sx 14 (sx 3 (sv 4) z0 z0) (sx 1 (sv 1) (sv 1) z0) z0) (sv 1)) (sx 30 (sx 21 (sx 7 (sx 3 z0 z0 z0) (sx 14 (sx 3 (sv 4) z0 z0) (sx 1 (sv 2) (sv 1) z0) z0) (sv 1)) z0 (sv 1)) (sx 31 z0 z0 z0) z0) z0) z0) (sv 48) z0) z0 z0) (sx 2 (sx 9 (sx 32 (sx 30 (sx 3 (sv 2) z0 z0) (sx 30 (sx 7 (sx 3 z0 z0 z0) (sx 14 (sx 3 (sv 4) z0 z0) (sx 1 (sv 1) (sv 1) z0) z0) (sv 1)) (sx 30 (sx 21 (sx 7 (sx 3 z0 z0 z0) (sx 14 (sx 3 (sv 4) z0 z0) (sx 1 (sv 2) (sv 1) z0) z0) (sv 1)) z0 (sv 1)) (sx 31 z0 z0 z0) z0) z0) z0) (sv 311) z0) z0 z0) (sx 14 z0 z0 z0) z0) z0) (sx 25 (so 80 z0) (sx 2 (sx 9 (sx 32 (sx 30 (sx 3 (sv 1) z0 z0) (sx 30 (sx 7 (sx 3 z0 z0 z0) (sx 14 (sx 3 (sv 4) z0 z0) (sx 1 (sv 1) (sv 1) z0) z0) (sv 1)) (sx 31 z0 z0 z0) z0) z0) (sv 51) z0) z0 z0) (sx 2 (sx 9 (sx 32 (sx 30 (sx 3 (sv 2) z0 z0) (sx 30 (sx 7 (sx 3 z0 z0 z0) (sx 14 (sx 3 (sv 4) z0 z0) (sx 1 (sv 1) (sv 1) z0) z0) (sv 1)) (sx 31 z0 z0 z0) z0) z0) (sv 313) z0) z0 z0) (sx 14 z0 z0 z0) z0) z0) (sx 26 (sx 14 z0 z0 z0) z0 z0)))))))))))))))))))))))))))))))))))))))))) z0) z0 z0) (sx 4 (sv 4) (sv 7) z0)) z0) z0 z0) (sx 27 (sx 1 (sv 1) (sv 1) z0) z0 z0) z0)
theorem law_eq : bb_332 = sx 2 lawX (sx 2 lawM (sx 2 lawO lawR z0) z0) z0 := rfl
def a_g3 : XS := [(10, 0, [(16, 2), (15, 7), (15, 30), (13, 53), (13, 62), (12, 71), (12, 92), (12, 113), (12, 134), (14, 155), (18, 158), (17, 179), (17, 181), (1, 0), (1, 0), (1, 0)]), (16, 0, [(19, 3), (17, 5), (1, 0), (1, 0), (1, 0), (2, 0), (1, 0), (1, 0), (1, 0)]), (19, 0, [(8, 4), (1, 0), (1, 0), (1, 0), (1, 0), (1, 0), (2, 0)]), (8, 1000, []), (17, 0, [(6, 6)]), (6, 12, []), (15, 0, [(7, 8), (17, 9), (17, 11), (17, 13), (17, 15), (17, 17), (17, 19), (17, 21), (11, 23), (1, 0), (1, 0), (1, 0), (1, 0)]), (7, 14, []), (17, 0, [(6, 10)]), (6, 12, []), (17, 0, [(6, 12)]), (6, 4, []), (17, 0, [(6, 14)]), (6, 4, []), (17, 0, [(6, 16)]), (6, 52, []), (17, 0, [(6, 18)]), (6, 6, []), (17, 0, [(6, 20)]), (6, 6, []), (17, 0, [(6, 22)]), (6, 6, []), (11, 0, [(17, 24), (17, 26), (17, 28), (1, 0), (1, 0), (1, 0)]), (17, 0, [(6, 25)]), (6, 1000, []), (17, 0, [(6, 27)]), (6, 64, []), (17, 0, [(6, 29)]), (6, 64, []), (15, 0, [(7, 31), (17, 32), (17, 34), (17, 36), (17, 38), (17, 40), (17, 42), (17, 44), (11, 46), (1, 0), (1, 0), (1, 0), (1, 0)]), (7, 14, []), (17, 0, [(6, 33)]), (6, 12, []), (17, 0, [(6, 35)]), (6, 4, []), (17, 0, [(6, 37)]), (6, 4, []), (17, 0, [(6, 39)]), (6, 52, []), (17, 0, [(6, 41)]), (6, 6, []), (17, 0, [(6, 43)]), (6, 6, []), (17, 0, [(6, 45)]), (6, 6, []), (11, 0, [(17, 47), (17, 49), (17, 51), (1, 0), (1, 0), (1, 0)]), (17, 0, [(6, 48)]), (6, 1000, []), (17, 0, [(6, 50)]), (6, 64, []), (17, 0, [(6, 52)]), (6, 64, []), (13, 0, [(17, 54), (17, 56), (17, 58), (17, 60), (1, 0)]), (17, 0, [(6, 55)]), (6, 30, []), (17, 0, [(6, 57)]), (6, 30, []), (17, 0, [(6, 59)]), (6, 30, []), (17, 0, [(6, 61)]), (6, 30, []), (13, 0, [(17, 63), (17, 65), (17, 67), (17, 69), (1, 0)]), (17, 0, [(6, 64)]), (6, 30, []), (17, 0, [(6, 66)]), (6, 30, []), (17, 0, [(6, 68)]), (6, 30, []), (17, 0, [(6, 70)]), (6, 30, []), (12, 0, [(17, 72), (17, 74), (17, 76), (17, 78), (17, 80), (17, 82), (17, 84), (17, 86), (17, 88), (17, 90), (1, 0), (1, 0)]), (17, 0, [(6, 73)]), (6, 78, []), (17, 0, [(6, 75)]), (6, 72, []), (17, 0, [(6, 77)]), (6, 12, []), (17, 0, [(6, 79)]), (6, 192, []), (17, 0, [(6, 81)]), (6, 64, []), (17, 0, [(6, 83)]), (6, 64, []), (17, 0, [(6, 85)]), (6, 4, []), (17, 0, [(6, 87)]), (6, 8, []), (17, 0, [(6, 89)]), (6, 8, []), (17, 0, [(6, 91)]), (6, 8, []), (12, 0, [(17, 93), (17, 95), (17, 97), (17, 99), (17, 101), (17, 103), (17, 105), (17, 107), (17, 109), (17, 111), (1, 0), (1, 0)]), (17, 0, [(6, 94)]), (6, 78, []), (17, 0, [(6, 96)]), (6, 72, []), (17, 0, [(6, 98)]), (6, 12, []), (17, 0, [(6, 100)]), (6, 192, []), (17, 0, [(6, 102)]), (6, 64, []), (17, 0, [(6, 104)]), (6, 64, []), (17, 0, [(6, 106)]), (6, 4, []), (17, 0, [(6, 108)]), (6, 8, []), (17, 0, [(6, 110)]), (6, 8, []), (17, 0, [(6, 112)]), (6, 8, []), (12, 0, [(17, 114), (17, 116), (17, 118), (17, 120), (17, 122), (17, 124), (17, 126), (17, 128), (17, 130), (17, 132), (1, 0), (1, 0)]), (17, 0, [(6, 115)]), (6, 78, []), (17, 0, [(6, 117)]), (6, 72, []), (17, 0, [(6, 119)]), (6, 12, []), (17, 0, [(6, 121)]), (6, 192, []), (17, 0, [(6, 123)]), (6, 64, []), (17, 0, [(6, 125)]), (6, 64, []), (17, 0, [(6, 127)]), (6, 4, []), (17, 0, [(6, 129)]), (6, 8, []), (17, 0, [(6, 131)]), (6, 8, []), (17, 0, [(6, 133)]), (6, 8, []), (12, 0, [(17, 135), (17, 137), (17, 139), (17, 141), (17, 143), (17, 145), (17, 147), (17, 149), (17, 151), (17, 153), (1, 0), (1, 0)]), (17, 0, [(6, 136)]), (6, 78, []), (17, 0, [(6, 138)]), (6, 72, []), (17, 0, [(6, 140)]), (6, 12, []), (17, 0, [(6, 142)]), (6, 192, []), (17, 0, [(6, 144)]), (6, 64, []), (17, 0, [(6, 146)]), (6, 64, []), (17, 0, [(6, 148)]), (6, 4, []), (17, 0, [(6, 150)]), (6, 8, []), (17, 0, [(6, 152)]), (6, 8, []), (17, 0, [(6, 154)]), (6, 8, []), (14, 0, [(17, 156), (1, 0)]), (17, 0, [(6, 157)]), (6, 128, []), (18, 0, [(17, 159), (17, 161), (17, 163), (17, 165), (17, 167), (17, 169), (17, 171), (17, 173), (17, 175), (17, 177), (1, 0)]), (17, 0, [(6, 160)]), (6, 6, []), (17, 0, [(6, 162)]), (6, 6, []), (17, 0, [(6, 164)]), (6, 6, []), (17, 0, [(6, 166)]), (6, 4, []), (17, 0, [(6, 168)]), (6, 4, []), (17, 0, [(6, 170)]), (6, 4, []), (17, 0, [(6, 172)]), (6, 4, []), (17, 0, [(6, 174)]), (6, 6, []), (17, 0, [(6, 176)]), (6, 6, []), (17, 0, [(6, 178)]), (6, 6, []), (17, 0, [(6, 180)]), (6, 4, []), (17, 0, [(6, 182)]), (6, 4, []), (20, 0, [(1, 0), (6, 184), (1, 0), (1, 0), (6, 185), (6, 186), (7, 187), (1, 0), (1, 0), (7, 188), (6, 189), (6, 190), (1, 0), (7, 191), (6, 192), (6, 193), (6, 194), (6, 195), (1, 0), (1, 0), (9, 196), (6, 197), (6, 198), (6, 199), (6, 200), (1, 0), (7, 201), (6, 202), (7, 203), (2, 0)]), (6, 1000, []), (6, 1002, []), (6, 1002, []), (7, 1002, []), (7, 24, []), (6, 190, []), (6, 2200, []), (7, 28, []), (6, 250, []), (6, 4, []), (6, 64, []), (6, 5148, []), (9, 2, []), (6, 6, []), (6, 6, []), (6, 4, []), (6, 4, []), (7, 6, []), (6, 6, []), (7, 6, []), (7, 1, [])]
def a_h3 : AH := [[],
  [],
  [],
  [],
  [],
  [],
  [],
  [],
  [],
  [],
  [],
  [],
  [],
  [],
  [],
  [],
  [],
  [],
  [],
  [],
  [],
  [],
  [],
  [],
  [],
  [],
  [],
  [],
  [],
  [],
  [],
  [],
  [],
  [],
  [],
  [],
  [],
  [],
  [],
  [],
  [],
  [],
  [],
  [],
  [],
  [],
  [],
  [],
  [],
  [],
  [],
  [],
  [],
  [],
  [],
  [],
  [],
  [],
  [],
  [],
  [],
  [],
  [],
  [],
  [],
  [],
  [],
  [],
  [],
  [],
  [],
  [],
  [],
  [],
  [],
  [],
  [],
  [],
  [],
  [],
  [],
  [],
  [],
  [],
  [],
  [],
  [],
  [],
  [],
  [],
  [],
  [],
  [],
  [],
  [],
  [],
  [],
  [],
  [],
  [],
  [],
  [],
  [],
  [],
  [],
  [],
  [],
  [],
  [],
  [],
  [],
  [],
  [],
  [],
  [],
  [],
  [],
  [],
  [],
  [],
  [],
  [],
  [],
  [],
  [],
  [],
  [],
  [],
  [],
  [],
  [],
  [],
  [],
  [],
  [],
  [],
  [],
  [],
  [],
  [],
  [],
  [],
  [],
  [],
  [],
  [],
  [],
  [],
  [],
  [],
  [],
  [],
  [],
  [],
  [],
  [],
  [],
  [],
  [],
  [],
  [],
  [],
  [],
  [],
  [],
  [],
  [],
  [],
  [],
  [],
  [],
  [],
  [],
  [],
  [],
  [],
  [],
  [],
  [],
  [],
  [],
  [],
  [(19, .inl 0), (18, .inl 0)],
  [],
  [],
  [],
  [],
  [(23, .inl 660401), (22, .inl 979410), (21, .inl 629093), (20, .inl 628412), (19, .inl 573), (18, .inl 1891), (17, .inl 19741), (16, .inl 392531318), (15, .inl 320403), (14, .inl 1722105685577), (13, .inl 891704255789), (12, .inl 25433), (11, .inl 38270444), (10, .inl 679843), (9, .inl 918640), (8, .inl 1342154595), (7, .inl 1178088), (6, .inl 24644941), (5, .inl 1858726030364), (4, .inl 42328242873), (3, .inl 629093), (2, .inl 6232410), (1, .inl 425693491), (0, .inl 36238189)],
  [(4, .inl (-1)), (94, .inl 0), (93, .inl 0), (92, .inl 0), (91, .inl 0), (90, .inl 0), (89, .inl 0), (88, .inl 0), (87, .inl 0), (86, .inl 0), (85, .inl 0), (84, .inl 0), (83, .inl 0), (82, .inl 0), (81, .inl 0), (80, .inl 0), (79, .inl 0), (78, .inl 0), (77, .inl 0), (76, .inl 0), (75, .inl 0), (74, .inl 0), (73, .inl 0), (72, .inl 0), (71, .inl 0), (70, .inl 0), (69, .inl 0), (68, .inl 0), (67, .inl 0), (66, .inl 0), (65, .inl 0), (64, .inl 0), (63, .inl 0), (62, .inl 0), (61, .inl 0), (60, .inl 0), (59, .inl 0), (58, .inl 0), (57, .inl 0), (56, .inl 0), (55, .inl 0), (54, .inl 0), (53, .inl 0), (52, .inl 0), (51, .inl 0), (50, .inl 0), (49, .inl 0), (48, .inl 0), (47, .inl 0), (46, .inl 0), (45, .inl 0), (44, .inl 0), (43, .inl 0), (42, .inl 0), (41, .inl 0), (40, .inl 0), (39, .inl 0), (38, .inl 0), (37, .inl 0), (36, .inl 0), (35, .inl 0), (34, .inl 0), (33, .inl 0), (32, .inl 0), (31, .inl 0), (30, .inl 0), (29, .inl 0), (28, .inl 0), (27, .inl 0), (26, .inl 0), (25, .inl 0), (24, .inl 0), (23, .inl 0), (22, .inl 0), (21, .inl 0), (20, .inl 0), (19, .inl 0), (18, .inl 0), (17, .inl 0), (16, .inl 0), (15, .inl 0), (14, .inl 0), (13, .inl 0), (12, .inl 0), (11, .inl 0), (10, .inl 0), (9, .inl 0), (8, .inl 0), (7, .inl 0), (6, .inl 0), (5, .inl 0), (4, .inl 0), (3, .inl 0), (2, .inl 0), (1, .inl 0), (0, .inl 0)],
  [],
  [],
  [(0, .inl 0)],
  [],
  [],
  [(404, .inl 0), (403, .inl 0), (402, .inl 0), (401, .inl 0), (400, .inl 0), (399, .inl 0), (398, .inl 0), (397, .inl 0), (396, .inl 0), (395, .inl 0), (394, .inl 0), (393, .inl 0), (392, .inl 0), (391, .inl 0), (390, .inl 0), (389, .inl 0), (388, .inl 0), (387, .inl 0), (386, .inl 0), (385, .inl 0), (384, .inl 0), (383, .inl 0), (382, .inl 0), (381, .inl 0), (380, .inl 0), (379, .inl 0), (378, .inl 0), (377, .inl 0), (376, .inl 0), (375, .inl 0), (374, .inl 0), (373, .inl 0), (372, .inl 0), (371, .inl 0), (370, .inl 0), (369, .inl 0), (368, .inl 0), (367, .inl 0), (366, .inl 0), (365, .inl 0), (364, .inl 0), (363, .inl 0), (362, .inl 0), (361, .inl 0), (360, .inl 0), (359, .inl 0), (358, .inl 0), (357, .inl 0), (356, .inl 0), (355, .inl 0), (354, .inl 0), (353, .inl 0), (352, .inl 0), (351, .inl 0), (350, .inl 0), (349, .inl 0), (348, .inl 0), (347, .inl 0), (346, .inl 0), (345, .inl 0), (344, .inl 0), (343, .inl 0), (342, .inl 0), (341, .inl 0), (340, .inl 0), (339, .inl 0), (338, .inl 0), (337, .inl 0), (336, .inl 0), (335, .inl 0), (334, .inl 0), (333, .inl 0), (332, .inl 0), (331, .inl 0), (330, .inl 0), (329, .inl 0), (328, .inl 0), (327, .inl 0), (326, .inl 0), (325, .inl 0), (324, .inl 0), (323, .inl 0), (322, .inl 0), (321, .inl 0), (320, .inl 0), (319, .inl 0), (318, .inl 0), (317, .inl 0), (316, .inl 0), (315, .inl 0), (314, .inl 0), (313, .inl 0), (312, .inl 0), (311, .inl 0), (310, .inl 0), (309, .inl 0), (308, .inl 0), (307, .inl 0), (306, .inl 0), (305, .inl 0), (304, .inl 0), (303, .inl 0), (302, .inl 0), (301, .inl 0), (300, .inl 0), (299, .inl 0), (298, .inl 0), (297, .inl 0), (296, .inl 0), (295, .inl 0), (294, .inl 0), (293, .inl 0), (292, .inl 0), (291, .inl 0), (290, .inl 0), (289, .inl 0), (288, .inl 0), (287, .inl 0), (286, .inl 0), (285, .inl 0), (284, .inl 0), (283, .inl 0), (282, .inl 0), (281, .inl 0), (280, .inl 0), (279, .inl 0), (278, .inl 0), (277, .inl 0), (276, .inl 0), (275, .inl 0), (274, .inl 0), (273, .inl 0), (272, .inl 0), (271, .inl 0), (270, .inl 0), (269, .inl 0), (268, .inl 0), (267, .inl 0), (266, .inl 0), (265, .inl 0), (264, .inl 0), (263, .inl 0), (262, .inl 0), (261, .inl 0), (260, .inl 0), (259, .inl 0), (258, .inl 0), (257, .inl 0), (256, .inl 0), (255, .inl 0), (254, .inl 0), (253, .inl 0), (252, .inl 0), (251, .inl 0), (250, .inl 0), (249, .inl 0), (248, .inl 0), (247, .inl 0), (246, .inl 0), (245, .inl 0), (244, .inl 0), (243, .inl 0), (242, .inl 0), (241, .inl 0), (240, .inl 0), (239, .inl 0), (238, .inl 0), (237, .inl 0), (236, .inl 0), (235, .inl 0), (234, .inl 0), (233, .inl 0), (232, .inl 0), (231, .inl 0), (230, .inl 0), (229, .inl 0), (228, .inl 0), (227, .inl 0), (226, .inl 0), (225, .inl 0), (224, .inl 0), (223, .inl 0), (222, .inl 0), (221, .inl 0), (220, .inl 0), (219, .inl 0), (218, .inl 0), (217, .inl 0), (216, .inl 0), (215, .inl 0), (214, .inl 0), (213, .inl 0), (212, .inl 0), (211, .inl 0), (210, .inl 0), (209, .inl 0), (208, .inl 0), (207, .inl 0), (206, .inl 0), (205, .inl 0), (204, .inl 0), (203, .inl 0), (202, .inl 0), (201, .inl 0), (200, .inl 0), (199, .inl 0), (198, .inl 0), (197, .inl 0), (196, .inl 0), (195, .inl 0), (194, .inl 0), (193, .inl 0), (192, .inl 0), (191, .inl 0), (190, .inl 0), (189, .inl 0), (188, .inl 0), (187, .inl 0), (186, .inl 0), (185, .inl 0), (184, .inl 0), (183, .inl 0), (182, .inl 0), (181, .inl 0), (180, .inl 0), (179, .inl 0), (178, .inl 0), (177, .inl 0), (176, .inl 0), (175, .inl 0), (174, .inl 0), (173, .inl 0), (172, .inl 0), (171, .inl 0), (170, .inl 0), (169, .inl 0), (168, .inl 0), (167, .inl 0), (166, .inl 0), (165, .inl 0), (164, .inl 0), (163, .inl 0), (162, .inl 0), (161, .inl 0), (160, .inl 0), (159, .inl 0), (158, .inl 0), (157, .inl 0), (156, .inl 0), (155, .inl 0), (154, .inl 0), (153, .inl 0), (152, .inl 0), (151, .inl 0), (150, .inl 0), (149, .inl 0), (148, .inl 0), (147, .inl 0), (146, .inl 0), (145, .inl 0), (144, .inl 0), (143, .inl 0), (142, .inl 0), (141, .inl 0), (140, .inl 0), (139, .inl 0), (138, .inl 0), (137, .inl 0), (136, .inl 0), (135, .inl 0), (134, .inl 0), (133, .inl 0), (132, .inl 0), (131, .inl 0), (130, .inl 0), (129, .inl 0), (128, .inl 0), (127, .inl 0), (126, .inl 0), (125, .inl 0), (124, .inl 0), (123, .inl 0), (122, .inl 0), (121, .inl 0), (120, .inl 0), (119, .inl 0), (118, .inl 0), (117, .inl 0), (116, .inl 0), (115, .inl 0), (114, .inl 0), (113, .inl 0), (112, .inl 0), (111, .inl 0), (110, .inl 0), (109, .inl 0), (108, .inl 0), (107, .inl 0), (106, .inl 0), (105, .inl 0), (104, .inl 0), (103, .inl 0), (102, .inl 0), (101, .inl 0), (100, .inl 0), (99, .inl 0), (98, .inl 0), (97, .inl 0), (96, .inl 0), (95, .inl 0), (94, .inl 0), (93, .inl 0), (92, .inl 0), (91, .inl 0), (90, .inl 0), (89, .inl 0), (88, .inl 0), (87, .inl 0), (86, .inl 0), (85, .inl 0), (84, .inl 0), (83, .inl 0), (82, .inl 0), (81, .inl 0), (80, .inl 0), (79, .inl 0), (78, .inl 0), (77, .inl (-1)), (76, .inl (-1)), (75, .inl (-1)), (74, .inl (-1)), (73, .inl (-1)), (72, .inl (-1)), (71, .inl (-1)), (70, .inl (-1)), (69, .inl (-1)), (68, .inl (-1)), (67, .inl (-1)), (66, .inl (-1)), (65, .inl (-1)), (64, .inl (-1)), (63, .inl (-1)), (62, .inl (-1)), (61, .inl (-1)), (60, .inl (-1)), (59, .inl (-1)), (58, .inl (-1)), (57, .inl (-1)), (56, .inl (-1)), (55, .inl (-1)), (54, .inl (-1)), (53, .inl (-1)), (52, .inl (-1)), (51, .inl (-1)), (50, .inl (-1)), (49, .inl (-1)), (48, .inl (-1)), (47, .inl (-1)), (46, .inl (-1)), (45, .inl (-1)), (44, .inl (-1)), (43, .inl (-1)), (42, .inl (-1)), (41, .inl (-1)), (40, .inl (-1)), (39, .inl (-1)), (38, .inl (-1)), (37, .inl (-1)), (36, .inl (-1)), (35, .inl (-1)), (34, .inl (-1)), (33, .inl (-1)), (32, .inl (-1)), (31, .inl (-1)), (30, .inl (-1)), (29, .inl (-1)), (28, .inl (-1)), (27, .inl (-1)), (26, .inl (-1)), (25, .inl (-1)), (24, .inl (-1)), (23, .inl (-1)), (22, .inl (-1)), (21, .inl (-1)), (20, .inl (-1)), (19, .inl (-1)), (18, .inl (-1)), (17, .inl (-1)), (16, .inl (-1)), (15, .inl (-1)), (14, .inl (-1)), (13, .inl (-1)), (12, .inl (-1)), (11, .inl (-1)), (10, .inl (-1)), (9, .inl (-1)), (8, .inl (-1)), (7, .inl (-1)), (6, .inl (-1)), (5, .inl (-1)), (4, .inl (-1)), (3, .inl (-1)), (2, .inl (-1)), (1, .inl (-1)), (0, .inl (-1))],
  [(1, .inl 0), (0, .inl 0)]]
def a_s3 : AS := ((a_g3, 204, 18152), a_h3)
def a_en0 : List AV := [.inl 0, .inl 0, .inl 0, .inl 0, .inl 0, .inl 0, .inl 0]
def a_en3 : List AV := [.inl 0, .inl 0, .inl 182, .inl 203, .inl 0, .inl 0, .inl 0]
def a_pre (L : Nat) : AX (Nat × List AV × List AV × AS) := abS ([], none) (abF ([], none) L g_ck 2000 g_cW g_M 40) L g_ck 2000 g_cW (sx 2 lawX (sx 2 lawM lawO z0) z0) a_en0 (([], 0, 0), [])
def a_isPre (x : AX (Nat × List AV × List AV × AS)) : Bool := match x with
  | .ok r => decide (r.1 = 0) && decide (r.2.1 = []) && decide (r.2.2.1 = a_en3) && decide (r.2.2.2.1 = a_s3.1) && decide (r.2.2.2.2 = a_s3.2)
  | .error _ => false
theorem a_isPre_ok {x : AX (Nat × List AV × List AV × AS)} (h : a_isPre x = true) : x = .ok (0, [], a_en3, a_s3) := by
  unfold a_isPre at h
  split at h
  · rename_i r
    simp only [Bool.and_eq_true, decide_eq_true_eq] at h
    obtain ⟨⟨⟨⟨h1, h2⟩, h3⟩, h4⟩, h5⟩ := h
    rw [← h1, ← h2, ← h3, show a_s3 = (a_s3.1, a_s3.2) from rfl, ← h4, ← h5]
  · cases h
end
section
/-! ===== feed: what the two tapes take (written by wip/tools/feed.py) ===== -/
def fdR : SX := (sx 26 (sx 20 (sx 3 (sv 4) z0 z0) (sx 1 (sv 10) (sv 1) z0) z0) (sx 25 (sx 20 (sx 3 (sv 4) z0 z0) (sx 1 (sv 32) (sv 1) z0) (sv 3)) (sx 20 (sx 3 (sv 4) z0 z0) (sx 1 (sv 126) (sv 1) z0) (sv 5)) z0) z0)
def fwA : SX := (sx 30 (sx 15 (sx 16 (sx 18 (sx 7 (sx 3 z0 z0 z0) (sx 14 (sx 3 (sv 4) z0 z0) (sx 1 (sv 1) (sv 1) z0) z0) (sv 1)) z0 (sv 2)) (sx 1 (sv 32) (sv 1) z0) z0) (sx 15 (sx 18 (sx 7 (sx 3 z0 z0 z0) (sx 14 (sx 3 (sv 4) z0 z0) (sx 1 (sv 2) (sv 1) z0) z0) (sv 1)) z0 (sv 2)) (sx 1 (sv 4294967295) (sv 2) z0) (sv 3)) (sv 4)) (sx 30 (sx 15 (sx 16 (sx 18 (sx 7 (sx 3 z0 z0 z0) (sx 14 (sx 3 (sv 4) z0 z0) (sx 1 (sv 3) (sv 1) z0) z0) (sv 1)) z0 (sv 2)) (sx 1 (sv 32) (sv 1) z0) z0) (sx 15 (sx 18 (sx 7 (sx 3 z0 z0 z0) (sx 14 (sx 3 (sv 4) z0 z0) (sx 1 (sv 4) (sv 1) z0) z0) (sv 1)) z0 (sv 2)) (sx 1 (sv 4294967295) (sv 2) z0) (sv 3)) (sv 4)) (sx 30 (sx 15 (sx 16 (sx 18 (sx 7 (sx 3 z0 z0 z0) (sx 14 (sx 3 (sv 4) z0 z0) (sx 1 (sv 5) (sv 1) z0) z0) (sv 1)) z0 (sv 2)) (sx 1 (sv 32) (sv 1) z0) z0) (sx 15 (sx 18 (sx 7 (sx 3 z0 z0 z0) (sx 14 (sx 3 (sv 4) z0 z0) (sx 1 (sv 6) (sv 1) z0) z0) (sv 1)) z0 (sv 2)) (sx 1 (sv 4294967295) (sv 2) z0) (sv 3)) (sv 4)) (sx 31 z0 z0 z0) z0) z0) z0)
def fdC : SX := (sx 21 (sx 3 (sv 3) z0 z0) z0 (sv 3))
def fdB : SX := (sx 20 (sx 2 (sx 3 (sv 4) (sx 14 (sx 18 (sx 16 (sx 3 (sv 1) z0 z0) (sx 3 (sv 3) z0 z0) (sv 2)) z0 (sv 3)) (sx 1 (sv 255) (sv 1) z0) (sv 3)) z0) (sx 2 (sx 3 (sv 5) fdR z0) (sx 10 (sx 25 (sx 25 (sx 24 (sx 3 (sv 5) z0 z0) z0 z0) (sx 21 (sx 4 (sx 3 z0 z0 z0) (sv 1) z0) z0 (sv 3)) z0) (sx 20 (sx 4 (sx 3 z0 z0 z0) (sv 1) z0) (sx 10 (sx 5 (sx 3 z0 z0 z0) z0 z0) z0 z0) (sv 2)) z0) (sx 20 (sx 2 (sx 7 (sx 5 (sx 3 z0 z0 z0) z0 z0) (sx 4 (sx 3 z0 z0 z0) (sv 1) z0) (so 8 (sx 18 (sx 3 (sv 4) z0 z0) z0 (sv 4)))) (sx 6 (sx 3 z0 z0 z0) (sx 1 (sv 1) (sv 1) z0) (sv 16)) z0) z0 z0) z0) z0) z0) z0 z0)
def fdP : SX := (sx 4 (sv 3) (sv 8) (sv 1))
def fmB : SX := (sx 20 (sx 2 (sx 3 (sv 4) (sx 14 (sx 18 (sx 16 (sx 3 (sv 1) z0 z0) (sx 3 (sv 3) z0 z0) (sv 1)) z0 (sv 3)) (sx 1 (sv 255) (sv 1) z0) (sv 3)) z0) (sx 10 (sx 25 fdR (sx 20 (sx 4 (sx 3 z0 z0 z0) (sv 2) z0) (sx 1 (sv 1000) (sv 1) z0) (sv 2)) z0) (sx 20 (sx 2 (sx 7 (sx 5 (sx 3 z0 z0 z0) (sv 1) z0) (sx 4 (sx 3 z0 z0 z0) (sv 2) z0) (so 6 (sx 3 (sv 4) z0 z0))) (sx 6 (sx 3 z0 z0 z0) (sx 1 (sv 1) (sv 1) z0) (sv 32)) z0) z0 z0) z0) z0) z0 z0)
def fwC : SX := (sx 20 (sx 3 (sv 4) z0 z0) (sx 14 (sx 10 (sx 3 z0 z0 z0) z0 (sv 1)) (sx 1 (sv 7) (sv 1) z0) (sv 1)) (sv 5))
def fwS : SX := (sx 14 (sx 7 (sx 3 z0 z0 z0) (sx 3 (sv 4) z0 z0) (sv 1)) (sx 1 (sv 63) (sv 1) z0) (sv 3))
def fwX : SX := (sx 2 (sx 9 (sx 32 (sx 30 (sx 3 (sv 1) z0 z0) fwA z0) (sv 1) z0) z0 z0) (sx 2 (sx 9 (sx 32 (sx 30 (sx 3 (sv 2) z0 z0) fwA z0) (sv 183) z0) z0 z0) (sx 14 z0 z0 z0) z0) z0)
def fwR : SX := (sx 25 (so 2 z0) (sx 2 (sx 9 (sx 32 (sx 30 (sx 3 (sv 1) z0 z0) (sx 31 z0 z0 z0) z0) (sv 2) z0) z0 z0) (sx 2 (sx 9 (sx 32 (sx 30 (sx 3 (sv 2) z0 z0) (sx 31 z0 z0 z0) z0) (sv 206) z0) z0 z0) (sx 14 z0 z0 z0) z0) z0) (sx 25 (so 4 z0) (sx 2 (sx 9 (sx 32 (sx 30 (sx 3 (sv 1) z0 z0) (sx 31 z0 z0 z0) z0) (sv 4) z0) z0 z0) (sx 2 (sx 9 (sx 32 (sx 30 (sx 3 (sv 2) z0 z0) (sx 31 z0 z0 z0) z0) (sv 214) z0) z0 z0) (sx 14 z0 z0 z0) z0) z0) (sx 25 (so 6 z0) (sx 2 (sx 9 (sx 32 (sx 30 (sx 3 (sv 1) z0 z0) (sx 30 (sx 7 (sx 3 z0 z0 z0) (sx 14 (sx 3 (sv 4) z0 z0) (sx 1 (sv 1) (sv 1) z0) z0) (sv 1)) (sx 30 (sx 7 (sx 3 z0 z0 z0) (sx 14 (sx 3 (sv 4) z0 z0) (sx 1 (sv 2) (sv 1) z0) z0) (sv 1)) (sx 31 z0 z0 z0) z0) z0) z0) (sv 5) z0) z0 z0) (sx 2 (sx 9 (sx 32 (sx 30 (sx 3 (sv 2) z0 z0) (sx 30 (sx 7 (sx 3 z0 z0 z0) (sx 14 (sx 3 (sv 4) z0 z0) (sx 1 (sv 1) (sv 1) z0) z0) (sv 1)) (sx 30 (sx 7 (sx 3 z0 z0 z0) (sx 14 (sx 3 (sv 4) z0 z0) (sx 1 (sv 2) (sv 1) z0) z0) (sv 1)) (sx 31 z0 z0 z0) z0) z0) z0) (sv 261) z0) z0 z0) (sx 14 z0 z0 z0) z0) z0) (sx 25 (so 8 z0) (sx 2 (sx 9 (sx 32 (sx 30 (sx 3 (sv 1) z0 z0) (sx 30 (sx 7 (sx 3 z0 z0 z0) (sx 14 (sx 3 (sv 4) z0 z0) (sx 1 (sv 1) (sv 1) z0) z0) (sv 1)) (sx 30 (sx 7 (sx 3 z0 z0 z0) (sx 14 (sx 3 (sv 4) z0 z0) (sx 1 (sv 2) (sv 1) z0) z0) (sv 1)) (sx 31 z0 z0 z0) z0) z0) z0) (sv 6) z0) z0 z0) (sx 2 (sx 9 (sx 32 (sx 30 (sx 3 (sv 2) z0 z0) (sx 30 (sx 7 (sx 3 z0 z0 z0) (sx 14 (sx 3 (sv 4) z0 z0) (sx 1 (sv 1) (sv 1) z0) z0) (sv 1)) (sx 30 (sx 7 (sx 3 z0 z0 z0) (sx 14 (sx 3 (sv 4) z0 z0) (sx 1 (sv 2) (sv 1) z0) z0) (sv 1)) (sx 31 z0 z0 z0) z0) z0) z0) (sv 262) z0) z0 z0) (sx 14 z0 z0 z0) z0) z0) (sx 25 (so 10 z0) (sx 2 (sx 9 (sx 32 (sx 30 (sx 3 (sv 1) z0 z0) (sx 30 (sx 7 (sx 3 z0 z0 z0) (sx 14 (sx 3 (sv 4) z0 z0) (sx 1 (sv 1) (sv 1) z0) z0) (sv 1)) (sx 30 (sx 7 (sx 3 z0 z0 z0) (sx 14 (sx 3 (sv 4) z0 z0) (sx 1 (sv 2) (sv 1) z0) z0) (sv 1)) (sx 31 z0 z0 z0) z0) z0) z0) (sv 7) z0) z0 z0) (sx 2 (sx 9 (sx 32 (sx 30 (sx 3 (sv 2) z0 z0) (sx 30 (sx 7 (sx 3 z0 z0 z0) (sx 14 (sx 3 (sv 4) z0 z0) (sx 1 (sv 1) (sv 1) z0) z0) (sv 1)) (sx 30 (sx 7 (sx 3 z0 z0 z0) (sx 14 (sx 3 (sv 4) z0 z0) (sx 1 (sv 2) (sv 1) z0) z0) (sv 1)) (sx 31 z0 z0 z0) z0) z0) z0) (sv 263) z0) z0 z0) (sx 14 z0 z0 z0) z0) z0) (sx 25 (so 12 z0) (sx 2 (sx 9 (sx 32 (sx 30 (sx 3 (sv 1) z0 z0) (sx 30 (sx 7 (sx 3 z0 z0 z0) (sx 14 (sx 3 (sv 4) z0 z0) (sx 1 (sv 1) (sv 1) z0) z0) (sv 1)) (sx 30 (sx 7 (sx 3 z0 z0 z0) (sx 14 (sx 3 (sv 4) z0 z0) (sx 1 (sv 2) (sv 1) z0) z0) (sv 1)) (sx 30 (sx 7 (sx 3 z0 z0 z0) (sx 14 (sx 3 (sv 4) z0 z0) (sx 1 (sv 3) (sv 1) z0) z0) (sv 1)) (sx 31 z0 z0 z0) z0) z0) z0) z0) (sv 8) z0) z0 z0) (sx 2 (sx 9 (sx 32 (sx 30 (sx 3 (sv 2) z0 z0) (sx 30 (sx 7 (sx 3 z0 z0 z0) (sx 14 (sx 3 (sv 4) z0 z0) (sx 1 (sv 1) (sv 1) z0) z0) (sv 1)) (sx 30 (sx 7 (sx 3 z0 z0 z0) (sx 14 (sx 3 (sv 4) z0 z0) (sx 1 (sv 2) (sv 1) z0) z0) (sv 1)) (sx 30 (sx 7 (sx 3 z0 z0 z0) (sx 14 (sx 3 (sv 4) z0 z0) (sx 1 (sv 3) (sv 1) z0) z0) (sv 1)) (sx 31 z0 z0 z0) z0) z0) z0) z0) (sv 265) z0) z0 z0) (sx 14 z0 z0 z0) z0) z0) (sx 25 (so 14 z0) (sx 2 (sx 9 (sx 32 (sx 30 (sx 3 (sv 1) z0 z0) (sx 30 (sx 7 (sx 3 z0 z0 z0) (sx 14 (sx 3 (sv 4) z0 z0) (sx 1 (sv 1) (sv 1) z0) z0) (sv 1)) (sx 30 (sx 7 (sx 3 z0 z0 z0) (sx 14 (sx 3 (sv 4) z0 z0) (sx 1 (sv 2) (sv 1) z0) z0) (sv 1)) (sx 30 (sx 7 (sx 3 z0 z0 z0) (sx 14 (sx 3 (sv 4) z0 z0) (sx 1 (sv 3) (sv 1) z0) z0) (sv 1)) (sx 31 z0 z0 z0) z0) z0) z0) z0) (sv 9) z0) z0 z0) (sx 2 (sx 9 (sx 32 (sx 30 (sx 3 (sv 2) z0 z0) (sx 30 (sx 7 (sx 3 z0 z0 z0) (sx 14 (sx 3 (sv 4) z0 z0) (sx 1 (sv 1) (sv 1) z0) z0) (sv 1)) (sx 30 (sx 7 (sx 3 z0 z0 z0) (sx 14 (sx 3 (sv 4) z0 z0) (sx 1 (sv 2) (sv 1) z0) z0) (sv 1)) (sx 30 (sx 7 (sx 3 z0 z0 z0) (sx 14 (sx 3 (sv 4) z0 z0) (sx 1 (sv 3) (sv 1) z0) z0) (sv 1)) (sx 31 z0 z0 z0) z0) z0) z0) z0) (sv 267) z0) z0 z0) (sx 14 z0 z0 z0) z0) z0) (sx 25 (so 16 z0) (sx 2 (sx 9 (sx 32 (sx 30 (sx 3 (sv 1) z0 z0) (sx 30 (sx 7 (sx 3 z0 z0 z0) (sx 14 (sx 3 (sv 4) z0 z0) (sx 1 (sv 1) (sv 1) z0) z0) (sv 1)) (sx 30 (sx 7 (sx 3 z0 z0 z0) (sx 14 (sx 3 (sv 4) z0 z0) (sx 1 (sv 2) (sv 1) z0) z0) (sv 1)) (sx 31 z0 z0 z0) z0) z0) z0) (sv 10) z0) z0 z0) (sx 2 (sx 9 (sx 32 (sx 30 (sx 3 (sv 2) z0 z0) (sx 30 (sx 7 (sx 3 z0 z0 z0) (sx 14 (sx 3 (sv 4) z0 z0) (sx 1 (sv 1) (sv 1) z0) z0) (sv 1)) (sx 30 (sx 7 (sx 3 z0 z0 z0) (sx 14 (sx 3 (sv 4) z0 z0) (sx 1 (sv 2) (sv 1) z0) z0) (sv 1)) (sx 31 z0 z0 z0) z0) z0) z0) (sv 268) z0) z0 z0) (sx 14 z0 z0 z0) z0) z0) (sx 25 (so 18 z0) (sx 2 (sx 9 (sx 32 (sx 30 (sx 3 (sv 1) z0 z0) (sx 31 z0 z0 z0) z0) (sv 11) z0) z0 z0) (sx 2 (sx 9 (sx 32 (sx 30 (sx 3 (sv 2) z0 z0) (sx 31 z0 z0 z0) z0) (sv 271) z0) z0 z0) (sx 14 z0 z0 z0) z0) z0) (sx 25 (so 20 z0) (sx 2 (sx 9 (sx 32 (sx 30 (sx 3 (sv 1) z0 z0) (sx 31 z0 z0 z0) z0) (sv 12) z0) z0 z0) (sx 2 (sx 9 (sx 32 (sx 30 (sx 3 (sv 2) z0 z0) (sx 31 z0 z0 z0) z0) (sv 272) z0) z0 z0) (sx 14 z0 z0 z0) z0) z0) (sx 25 (so 22 z0) (sx 2 (sx 20 (sx 2 (sx 3 (sv 5) (sx 32 (sx 30 (sx 3 (sv 1) z0 z0) (sx 30 (sx 7 (sx 3 z0 z0 z0) (sx 14 (sx 3 (sv 4) z0 z0) (sx 1 (sv 1) (sv 1) z0) z0) (sv 1)) (sx 30 (sx 3 (sv 3) z0 z0) (sx 31 z0 z0 z0) z0) z0) z0) (sv 314) z0) z0) (sx 3 (sv 6) (sx 32 (sx 30 (sx 3 (sv 2) z0 z0) (sx 30 (sx 7 (sx 3 z0 z0 z0) (sx 14 (sx 3 (sv 4) z0 z0) (sx 1 (sv 1) (sv 1) z0) z0) (sv 1)) (sx 31 z0 z0 z0) z0) z0) (sv 273) z0) z0) z0) z0 z0) (sx 14 z0 z0 z0) z0) (sx 25 (so 24 z0) (sx 2 (sx 20 (sx 2 (sx 3 (sv 5) (sx 32 (sx 30 (sx 3 (sv 1) z0 z0) (sx 30 (sx 7 (sx 3 z0 z0 z0) (sx 14 (sx 3 (sv 4) z0 z0) (sx 1 (sv 1) (sv 1) z0) z0) (sv 1)) (sx 30 (sx 7 (sx 3 z0 z0 z0) (sx 14 (sx 3 (sv 4) z0 z0) (sx 1 (sv 2) (sv 1) z0) z0) (sv 1)) (sx 30 (sx 3 (sv 3) z0 z0) (sx 31 z0 z0 z0) z0) z0) z0) z0) (sv 315) z0) z0) (sx 3 (sv 6) (sx 32 (sx 30 (sx 3 (sv 2) z0 z0) (sx 30 (sx 7 (sx 3 z0 z0 z0) (sx 14 (sx 3 (sv 4) z0 z0) (sx 1 (sv 1) (sv 1) z0) z0) (sv 1)) (sx 30 (sx 7 (sx 3 z0 z0 z0) (sx 14 (sx 3 (sv 4) z0 z0) (sx 1 (sv 2) (sv 1) z0) z0) (sv 1)) (sx 31 z0 z0 z0) z0) z0) z0) (sv 275) z0) z0) z0) z0 z0) (sx 14 z0 z0 z0) z0) (sx 25 (so 26 z0) (sx 2 (sx 20 (sx 2 (sx 3 (sv 5) (sx 32 (sx 30 (sx 3 (sv 1) z0 z0) (sx 30 (sx 7 (sx 3 z0 z0 z0) (sx 14 (sx 3 (sv 4) z0 z0) (sx 1 (sv 1) (sv 1) z0) z0) (sv 1)) (sx 30 (sx 7 (sx 3 z0 z0 z0) (sx 14 (sx 3 (sv 4) z0 z0) (sx 1 (sv 2) (sv 1) z0) z0) (sv 1)) (sx 30 (sx 3 (sv 3) z0 z0) (sx 31 z0 z0 z0) z0) z0) z0) z0) (sv 316) z0) z0) (sx 3 (sv 6) (sx 32 (sx 30 (sx 3 (sv 2) z0 z0) (sx 30 (sx 7 (sx 3 z0 z0 z0) (sx 14 (sx 3 (sv 4) z0 z0) (sx 1 (sv 1) (sv 1) z0) z0) (sv 1)) (sx 30 (sx 7 (sx 3 z0 z0 z0) (sx 14 (sx 3 (sv 4) z0 z0) (sx 1 (sv 2) (sv 1) z0) z0) (sv 1)) (sx 31 z0 z0 z0) z0) z0) z0) (sv 276) z0) z0) z0) z0 z0) (sx 14 z0 z0 z0) z0) (sx 25 (so 28 z0) (sx 2 (sx 20 (sx 2 (sx 3 (sv 5) (sx 32 (sx 30 (sx 3 (sv 1) z0 z0) (sx 30 (sx 7 (sx 3 z0 z0 z0) (sx 14 (sx 3 (sv 4) z0 z0) (sx 1 (sv 1) (sv 1) z0) z0) (sv 1)) (sx 30 (sx 7 (sx 3 z0 z0 z0) (sx 14 (sx 3 (sv 4) z0 z0) (sx 1 (sv 2) (sv 1) z0) z0) (sv 1)) (sx 30 (sx 3 (sv 3) z0 z0) (sx 31 z0 z0 z0) z0) z0) z0) z0) (sv 317) z0) z0) (sx 3 (sv 6) (sx 32 (sx 30 (sx 3 (sv 2) z0 z0) (sx 30 (sx 7 (sx 3 z0 z0 z0) (sx 14 (sx 3 (sv 4) z0 z0) (sx 1 (sv 1) (sv 1) z0) z0) (sv 1)) (sx 30 (sx 7 (sx 3 z0 z0 z0) (sx 14 (sx 3 (sv 4) z0 z0) (sx 1 (sv 2) (sv 1) z0) z0) (sv 1)) (sx 31 z0 z0 z0) z0) z0) z0) (sv 277) z0) z0) z0) z0 z0) (sx 14 z0 z0 z0) z0) (sx 25 (so 30 z0) (sx 2 (sx 20 (sx 2 (sx 3 (sv 5) (sx 32 (sx 30 (sx 3 (sv 1) z0 z0) (sx 30 (sx 7 (sx 3 z0 z0 z0) (sx 14 (sx 3 (sv 4) z0 z0) (sx 1 (sv 1) (sv 1) z0) z0) (sv 1)) (sx 30 (sx 3 (sv 3) z0 z0) (sx 31 z0 z0 z0) z0) z0) z0) (sv 318) z0) z0) (sx 3 (sv 6) (sx 32 (sx 30 (sx 3 (sv 2) z0 z0) (sx 30 (sx 7 (sx 3 z0 z0 z0) (sx 14 (sx 3 (sv 4) z0 z0) (sx 1 (sv 1) (sv 1) z0) z0) (sv 1)) (sx 31 z0 z0 z0) z0) z0) (sv 278) z0) z0) z0) z0 z0) (sx 14 z0 z0 z0) z0) (sx 25 (so 32 z0) (sx 2 (sx 20 (sx 2 (sx 3 (sv 5) (sx 32 (sx 30 (sx 3 (sv 1) z0 z0) (sx 30 (sx 7 (sx 3 z0 z0 z0) (sx 14 (sx 3 (sv 4) z0 z0) (sx 1 (sv 1) (sv 1) z0) z0) (sv 1)) (sx 30 (sx 7 (sx 3 z0 z0 z0) (sx 14 (sx 3 (sv 4) z0 z0) (sx 1 (sv 2) (sv 1) z0) z0) (sv 1)) (sx 30 (sx 3 (sv 3) z0 z0) (sx 31 z0 z0 z0) z0) z0) z0) z0) (sv 319) z0) z0) (sx 3 (sv 6) (sx 32 (sx 30 (sx 3 (sv 2) z0 z0) (sx 30 (sx 7 (sx 3 z0 z0 z0) (sx 14 (sx 3 (sv 4) z0 z0) (sx 1 (sv 1) (sv 1) z0) z0) (sv 1)) (sx 30 (sx 7 (sx 3 z0 z0 z0) (sx 14 (sx 3 (sv 4) z0 z0) (sx 1 (sv 2) (sv 1) z0) z0) (sv 1)) (sx 31 z0 z0 z0) z0) z0) z0) (sv 279) z0) z0) z0) z0 z0) (sx 14 z0 z0 z0) z0) (sx 25 (so 34 z0) (sx 2 (sx 20 (sx 2 (sx 3 (sv 5) (sx 32 (sx 30 (sx 3 (sv 1) z0 z0) (sx 30 (sx 7 (sx 3 z0 z0 z0) (sx 14 (sx 3 (sv 4) z0 z0) (sx 1 (sv 1) (sv 1) z0) z0) (sv 1)) (sx 30 (sx 7 (sx 3 z0 z0 z0) (sx 14 (sx 3 (sv 4) z0 z0) (sx 1 (sv 2) (sv 1) z0) z0) (sv 1)) (sx 30 (sx 3 (sv 3) z0 z0) (sx 31 z0 z0 z0) z0) z0) z0) z0) (sv 320) z0) z0) (sx 3 (sv 6) (sx 32 (sx 30 (sx 3 (sv 2) z0 z0) (sx 30 (sx 7 (sx 3 z0 z0 z0) (sx 14 (sx 3 (sv 4) z0 z0) (sx 1 (sv 1) (sv 1) z0) z0) (sv 1)) (sx 30 (sx 7 (sx 3 z0 z0 z0) (sx 14 (sx 3 (sv 4) z0 z0) (sx 1 (sv 2) (sv 1) z0) z0) (sv 1)) (sx 31 z0 z0 z0) z0) z0) z0) (sv 280) z0) z0) z0) z0 z0) (sx 14 z0 z0 z0) z0) (sx 25 (so 36 z0) (sx 2 (sx 20 (sx 2 (sx 3 (sv 5) (sx 32 (sx 30 (sx 3 (sv 1) z0 z0) (sx 30 (sx 7 (sx 3 z0 z0 z0) (sx 14 (sx 3 (sv 4) z0 z0) (sx 1 (sv 1) (sv 1) z0) z0) (sv 1)) (sx 30 (sx 7 (sx 3 z0 z0 z0) (sx 14 (sx 3 (sv 4) z0 z0) (sx 1 (sv 2) (sv 1) z0) z0) (sv 1)) (sx 30 (sx 3 (sv 3) z0 z0) (sx 31 z0 z0 z0) z0) z0) z0) z0) (sv 321) z0) z0) (sx 3 (sv 6) (sx 32 (sx 30 (sx 3 (sv 2) z0 z0) (sx 30 (sx 7 (sx 3 z0 z0 z0) (sx 14 (sx 3 (sv 4) z0 z0) (sx 1 (sv 1) (sv 1) z0) z0) (sv 1)) (sx 30 (sx 7 (sx 3 z0 z0 z0) (sx 14 (sx 3 (sv 4) z0 z0) (sx 1 (sv 2) (sv 1) z0) z0) (sv 1)) (sx 31 z0 z0 z0) z0) z0) z0) (sv 281) z0) z0) z0) z0 z0) (sx 14 z0 z0 z0) z0) (sx 25 (so 38 z0) (sx 2 (sx 20 (sx 2 (sx 3 (sv 5) (sx 32 (sx 30 (sx 3 (sv 1) z0 z0) (sx 30 (sx 7 (sx 3 z0 z0 z0) (sx 14 (sx 3 (sv 4) z0 z0) (sx 1 (sv 1) (sv 1) z0) z0) (sv 1)) (sx 30 (sx 3 (sv 3) z0 z0) (sx 31 z0 z0 z0) z0) z0) z0) (sv 322) z0) z0) (sx 3 (sv 6) (sx 32 (sx 30 (sx 3 (sv 2) z0 z0) (sx 30 (sx 7 (sx 3 z0 z0 z0) (sx 14 (sx 3 (sv 4) z0 z0) (sx 1 (sv 1) (sv 1) z0) z0) (sv 1)) (sx 31 z0 z0 z0) z0) z0) (sv 282) z0) z0) z0) z0 z0) (sx 14 z0 z0 z0) z0) (sx 25 (so 40 z0) (sx 2 (sx 9 (sx 32 (sx 30 (sx 3 (sv 1) z0 z0) (sx 30 (sx 7 (sx 3 z0 z0 z0) (sx 14 (sx 3 (sv 4) z0 z0) (sx 1 (sv 1) (sv 1) z0) z0) (sv 1)) (sx 31 z0 z0 z0) z0) z0) (sv 22) z0) z0 z0) (sx 2 (sx 9 (sx 32 (sx 30 (sx 3 (sv 2) z0 z0) (sx 30 (sx 7 (sx 3 z0 z0 z0) (sx 14 (sx 3 (sv 4) z0 z0) (sx 1 (sv 1) (sv 1) z0) z0) (sv 1)) (sx 31 z0 z0 z0) z0) z0) (sv 283) z0) z0 z0) (sx 14 z0 z0 z0) z0) z0) (sx 25 (so 42 z0) (sx 2 (sx 9 (sx 32 (sx 30 (sx 3 (sv 1) z0 z0) (sx 30 (sx 7 (sx 3 z0 z0 z0) (sx 14 (sx 3 (sv 4) z0 z0) (sx 1 (sv 1) (sv 1) z0) z0) (sv 1)) (sx 30 (sx 7 (sx 3 z0 z0 z0) (sx 14 (sx 3 (sv 4) z0 z0) (sx 1 (sv 2) (sv 1) z0) z0) (sv 1)) (sx 31 z0 z0 z0) z0) z0) z0) (sv 23) z0) z0 z0) (sx 2 (sx 9 (sx 32 (sx 30 (sx 3 (sv 2) z0 z0) (sx 30 (sx 7 (sx 3 z0 z0 z0) (sx 14 (sx 3 (sv 4) z0 z0) (sx 1 (sv 1) (sv 1) z0) z0) (sv 1)) (sx 30 (sx 7 (sx 3 z0 z0 z0) (sx 14 (sx 3 (sv 4) z0 z0) (sx 1 (sv 2) (sv 1) z0) z0) (sv 1)) (sx 31 z0 z0 z0) z0) z0) z0) (sv 284) z0) z0 z0) (sx 14 z0 z0 z0) z0) z0) (sx 25 (so 44 z0) (sx 2 (sx 20 (sx 2 (sx 3 (sv 5) (sx 32 (sx 30 (sx 3 (sv 1) z0 z0) (sx 30 (sx 7 (sx 3 z0 z0 z0) (sx 14 (sx 3 (sv 4) z0 z0) (sx 1 (sv 1) (sv 1) z0) z0) (sv 1)) (sx 30 (sx 3 (sv 3) z0 z0) (sx 31 z0 z0 z0) z0) z0) z0) (sv 323) z0) z0) (sx 3 (sv 6) (sx 32 (sx 30 (sx 3 (sv 2) z0 z0) (sx 30 (sx 7 (sx 3 z0 z0 z0) (sx 14 (sx 3 (sv 4) z0 z0) (sx 1 (sv 1) (sv 1) z0) z0) (sv 1)) (sx 31 z0 z0 z0) z0) z0) (sv 286) z0) z0) z0) z0 z0) (sx 14 z0 z0 z0) z0) (sx 25 (so 46 z0) (sx 2 (sx 9 (sx 32 (sx 30 (sx 3 (sv 1) z0 z0) (sx 31 z0 z0 z0) z0) (sv 25) z0) z0 z0) (sx 2 (sx 9 (sx 32 (sx 30 (sx 3 (sv 2) z0 z0) (sx 31 z0 z0 z0) z0) (sv 288) z0) z0 z0) (sx 14 z0 z0 z0) z0) z0) (sx 25 (so 48 z0) (sx 2 (sx 9 (sx 32 (sx 30 (sx 3 (sv 1) z0 z0) (sx 31 z0 z0 z0) z0) (sv 26) z0) z0 z0) (sx 2 (sx 9 (sx 32 (sx 30 (sx 3 (sv 2) z0 z0) (sx 31 z0 z0 z0) z0) (sv 289) z0) z0 z0) (sx 14 z0 z0 z0) z0) z0) (sx 25 (so 50 z0) (sx 2 (sx 20 (sx 2 (sx 3 (sv 5) (sx 32 (sx 30 (sx 3 (sv 1) z0 z0) (sx 30 (sx 7 (sx 3 z0 z0 z0) (sx 14 (sx 3 (sv 4) z0 z0) (sx 1 (sv 1) (sv 1) z0) z0) (sv 1)) (sx 30 (sx 7 (sx 3 z0 z0 z0) (sx 14 (sx 3 (sv 4) z0 z0) (sx 1 (sv 2) (sv 1) z0) z0) (sv 1)) (sx 30 (sx 7 (sx 3 z0 z0 z0) (sx 14 (sx 3 (sv 4) z0 z0) (sx 1 (sv 3) (sv 1) z0) z0) (sv 1)) (sx 30 (sx 3 (sv 3) z0 z0) (sx 31 z0 z0 z0) z0) z0) z0) z0) z0) (sv 324) z0) z0) (sx 3 (sv 6) (sx 32 (sx 30 (sx 3 (sv 2) z0 z0) (sx 30 (sx 7 (sx 3 z0 z0 z0) (sx 14 (sx 3 (sv 4) z0 z0) (sx 1 (sv 1) (sv 1) z0) z0) (sv 1)) (sx 30 (sx 7 (sx 3 z0 z0 z0) (sx 14 (sx 3 (sv 4) z0 z0) (sx 1 (sv 2) (sv 1) z0) z0) (sv 1)) (sx 30 (sx 7 (sx 3 z0 z0 z0) (sx 14 (sx 3 (sv 4) z0 z0) (sx 1 (sv 3) (sv 1) z0) z0) (sv 1)) (sx 31 z0 z0 z0) z0) z0) z0) z0) (sv 292) z0) z0) z0) z0 z0) (sx 14 z0 z0 z0) z0) (sx 25 (so 52 z0) (sx 2 (sx 20 (sx 2 (sx 3 (sv 5) (sx 32 (sx 30 (sx 3 (sv 1) z0 z0) (sx 30 (sx 7 (sx 3 z0 z0 z0) (sx 14 (sx 3 (sv 4) z0 z0) (sx 1 (sv 1) (sv 1) z0) z0) (sv 1)) (sx 30 (sx 7 (sx 3 z0 z0 z0) (sx 14 (sx 3 (sv 4) z0 z0) (sx 1 (sv 2) (sv 1) z0) z0) (sv 1)) (sx 30 (sx 7 (sx 3 z0 z0 z0) (sx 14 (sx 3 (sv 4) z0 z0) (sx 1 (sv 3) (sv 1) z0) z0) (sv 1)) (sx 30 (sx 3 (sv 3) z0 z0) (sx 31 z0 z0 z0) z0) z0) z0) z0) z0) (sv 325) z0) z0) (sx 3 (sv 6) (sx 32 (sx 30 (sx 3 (sv 2) z0 z0) (sx 30 (sx 7 (sx 3 z0 z0 z0) (sx 14 (sx 3 (sv 4) z0 z0) (sx 1 (sv 1) (sv 1) z0) z0) (sv 1)) (sx 30 (sx 7 (sx 3 z0 z0 z0) (sx 14 (sx 3 (sv 4) z0 z0) (sx 1 (sv 2) (sv 1) z0) z0) (sv 1)) (sx 30 (sx 7 (sx 3 z0 z0 z0) (sx 14 (sx 3 (sv 4) z0 z0) (sx 1 (sv 3) (sv 1) z0) z0) (sv 1)) (sx 31 z0 z0 z0) z0) z0) z0) z0) (sv 293) z0) z0) z0) z0 z0) (sx 14 z0 z0 z0) z0) (sx 25 (so 54 z0) (sx 2 (sx 20 (sx 2 (sx 3 (sv 5) (sx 32 (sx 30 (sx 3 (sv 1) z0 z0) (sx 30 (sx 7 (sx 3 z0 z0 z0) (sx 14 (sx 3 (sv 4) z0 z0) (sx 1 (sv 1) (sv 1) z0) z0) (sv 1)) (sx 30 (sx 3 (sv 3) z0 z0) (sx 31 z0 z0 z0) z0) z0) z0) (sv 326) z0) z0) (sx 3 (sv 6) (sx 32 (sx 30 (sx 3 (sv 2) z0 z0) (sx 30 (sx 7 (sx 3 z0 z0 z0) (sx 14 (sx 3 (sv 4) z0 z0) (sx 1 (sv 1) (sv 1) z0) z0) (sv 1)) (sx 31 z0 z0 z0) z0) z0) (sv 294) z0) z0) z0) z0 z0) (sx 14 z0 z0 z0) z0) (sx 25 (so 56 z0) (sx 2 (sx 9 (sx 32 (sx 30 (sx 3 (sv 1) z0 z0) (sx 31 z0 z0 z0) z0) (sv 30) z0) z0 z0) (sx 2 (sx 9 (sx 32 (sx 30 (sx 3 (sv 2) z0 z0) (sx 31 z0 z0 z0) z0) (sv 295) z0) z0 z0) (sx 14 z0 z0 z0) z0) z0) (sx 25 (so 58 z0) (sx 2 (sx 20 (sx 2 (sx 3 (sv 5) (sx 32 (sx 30 (sx 3 (sv 1) z0 z0) (sx 30 (sx 7 (sx 3 z0 z0 z0) (sx 14 (sx 3 (sv 4) z0 z0) (sx 1 (sv 1) (sv 1) z0) z0) (sv 1)) (sx 30 (sx 7 (sx 3 z0 z0 z0) (sx 14 (sx 3 (sv 4) z0 z0) (sx 1 (sv 2) (sv 1) z0) z0) (sv 1)) (sx 30 (sx 3 (sv 3) z0 z0) (sx 31 z0 z0 z0) z0) z0) z0) z0) (sv 327) z0) z0) (sx 3 (sv 6) (sx 32 (sx 30 (sx 3 (sv 2) z0 z0) (sx 30 (sx 7 (sx 3 z0 z0 z0) (sx 14 (sx 3 (sv 4) z0 z0) (sx 1 (sv 1) (sv 1) z0) z0) (sv 1)) (sx 30 (sx 7 (sx 3 z0 z0 z0) (sx 14 (sx 3 (sv 4) z0 z0) (sx 1 (sv 2) (sv 1) z0) z0) (sv 1)) (sx 31 z0 z0 z0) z0) z0) z0) (sv 296) z0) z0) z0) z0 z0) (sx 14 z0 z0 z0) z0) (sx 25 (so 60 z0) (sx 2 (sx 20 (sx 2 (sx 3 (sv 5) (sx 32 (sx 30 (sx 3 (sv 1) z0 z0) (sx 30 (sx 7 (sx 3 z0 z0 z0) (sx 14 (sx 3 (sv 4) z0 z0) (sx 1 (sv 1) (sv 1) z0) z0) (sv 1)) (sx 30 (sx 7 (sx 3 z0 z0 z0) (sx 14 (sx 3 (sv 4) z0 z0) (sx 1 (sv 2) (sv 1) z0) z0) (sv 1)) (sx 30 (sx 3 (sv 3) z0 z0) (sx 31 z0 z0 z0) z0) z0) z0) z0) (sv 328) z0) z0) (sx 3 (sv 6) (sx 32 (sx 30 (sx 3 (sv 2) z0 z0) (sx 30 (sx 7 (sx 3 z0 z0 z0) (sx 14 (sx 3 (sv 4) z0 z0) (sx 1 (sv 1) (sv 1) z0) z0) (sv 1)) (sx 30 (sx 7 (sx 3 z0 z0 z0) (sx 14 (sx 3 (sv 4) z0 z0) (sx 1 (sv 2) (sv 1) z0) z0) (sv 1)) (sx 31 z0 z0 z0) z0) z0) z0) (sv 297) z0) z0) z0) z0 z0) (sx 14 z0 z0 z0) z0) (sx 25 (so 62 z0) (sx 2 (sx 20 (sx 2 (sx 3 (sv 5) (sx 32 (sx 30 (sx 3 (sv 1) z0 z0) (sx 30 (sx 7 (sx 3 z0 z0 z0) (sx 14 (sx 3 (sv 4) z0 z0) (sx 1 (sv 1) (sv 1) z0) z0) (sv 1)) (sx 30 (sx 7 (sx 3 z0 z0 z0) (sx 14 (sx 3 (sv 4) z0 z0) (sx 1 (sv 2) (sv 1) z0) z0) (sv 1)) (sx 30 (sx 7 (sx 3 z0 z0 z0) (sx 14 (sx 3 (sv 4) z0 z0) (sx 1 (sv 3) (sv 1) z0) z0) (sv 1)) (sx 30 (sx 7 (sx 3 z0 z0 z0) (sx 14 (sx 3 (sv 4) z0 z0) (sx 1 (sv 4) (sv 1) z0) z0) (sv 1)) (sx 30 (sx 3 (sv 3) z0 z0) (sx 31 z0 z0 z0) z0) z0) z0) z0) z0) z0) (sv 329) z0) z0) (sx 3 (sv 6) (sx 32 (sx 30 (sx 3 (sv 2) z0 z0) (sx 30 (sx 7 (sx 3 z0 z0 z0) (sx 14 (sx 3 (sv 4) z0 z0) (sx 1 (sv 1) (sv 1) z0) z0) (sv 1)) (sx 30 (sx 7 (sx 3 z0 z0 z0) (sx 14 (sx 3 (sv 4) z0 z0) (sx 1 (sv 2) (sv 1) z0) z0) (sv 1)) (sx 30 (sx 7 (sx 3 z0 z0 z0) (sx 14 (sx 3 (sv 4) z0 z0) (sx 1 (sv 3) (sv 1) z0) z0) (sv 1)) (sx 30 (sx 7 (sx 3 z0 z0 z0) (sx 14 (sx 3 (sv 4) z0 z0) (sx 1 (sv 4) (sv 1) z0) z0) (sv 1)) (sx 31 z0 z0 z0) z0) z0) z0) z0) z0) (sv 299) z0) z0) z0) z0 z0) (sx 14 z0 z0 z0) z0) (sx 25 (so 64 z0) (sx 2 (sx 20 (sx 2 (sx 3 (sv 5) (sx 32 (sx 30 (sx 3 (sv 1) z0 z0) (sx 30 (sx 7 (sx 3 z0 z0 z0) (sx 14 (sx 3 (sv 4) z0 z0) (sx 1 (sv 1) (sv 1) z0) z0) (sv 1)) (sx 30 (sx 7 (sx 3 z0 z0 z0) (sx 14 (sx 3 (sv 4) z0 z0) (sx 1 (sv 2) (sv 1) z0) z0) (sv 1)) (sx 30 (sx 3 (sv 3) z0 z0) (sx 31 z0 z0 z0) z0) z0) z0) z0) (sv 330) z0) z0) (sx 3 (sv 6) (sx 32 (sx 30 (sx 3 (sv 2) z0 z0) (sx 30 (sx 7 (sx 3 z0 z0 z0) (sx 14 (sx 3 (sv 4) z0 z0) (sx 1 (sv 1) (sv 1) z0) z0) (sv 1)) (sx 30 (sx 7 (sx 3 z0 z0 z0) (sx 14 (sx 3 (sv 4) z0 z0) (sx 1 (sv 2) (sv 1) z0) z0) (sv 1)) (sx 31 z0 z0 z0) z0) z0) z0) (sv 300) z0) z0) z0) z0 z0) (sx 14 z0 z0 z0) z0) (sx 25 (so 66 z0) (sx 2 (sx 9 (sx 32 (sx 30 (sx 3 (sv 1) z0 z0) (sx 30 (sx 7 (sx 3 z0 z0 z0) (sx 14 (sx 3 (sv 4) z0 z0) (sx 1 (sv 1) (sv 1) z0) z0) (sv 1)) (sx 31 z0 z0 z0) z0) z0) (sv 35) z0) z0 z0) (sx 2 (sx 9 (sx 32 (sx 30 (sx 3 (sv 2) z0 z0) (sx 30 (sx 7 (sx 3 z0 z0 z0) (sx 14 (sx 3 (sv 4) z0 z0) (sx 1 (sv 1) (sv 1) z0) z0) (sv 1)) (sx 31 z0 z0 z0) z0) z0) (sv 302) z0) z0 z0) (sx 14 z0 z0 z0) z0) z0) (sx 25 (so 68 z0) (sx 28 (sx 20 (sx 32 (sx 30 (sx 3 (sv 1) z0 z0) (sx 31 z0 z0 z0) z0) (sv 36) z0) (sx 32 (sx 30 (sx 3 (sv 2) z0 z0) (sx 31 z0 z0 z0) z0) (sv 303) z0) (sv 1)) (sx 27 (sx 1 z0 (sv 1) z0) z0 z0) z0) (sx 25 (so 70 z0) (sx 2 (sx 9 (sx 32 (sx 30 (sx 3 (sv 1) z0 z0) (sx 30 (sx 7 (sx 3 z0 z0 z0) (sx 14 (sx 3 (sv 4) z0 z0) (sx 1 (sv 1) (sv 1) z0) z0) (sv 1)) (sx 30 (sx 7 (sx 3 z0 z0 z0) (sx 14 (sx 3 (sv 4) z0 z0) (sx 1 (sv 2) (sv 1) z0) z0) (sv 1)) (sx 30 (sx 21 (sx 7 (sx 3 z0 z0 z0) (sx 14 (sx 3 (sv 4) z0 z0) (sx 1 (sv 3) (sv 1) z0) z0) (sv 1)) z0 (sv 1)) (sx 31 z0 z0 z0) z0) z0) z0) z0) (sv 40) z0) z0 z0) (sx 2 (sx 9 (sx 32 (sx 30 (sx 3 (sv 2) z0 z0) (sx 30 (sx 7 (sx 3 z0 z0 z0) (sx 14 (sx 3 (sv 4) z0 z0) (sx 1 (sv 1) (sv 1) z0) z0) (sv 1)) (sx 30 (sx 7 (sx 3 z0 z0 z0) (sx 14 (sx 3 (sv 4) z0 z0) (sx 1 (sv 2) (sv 1) z0) z0) (sv 1)) (sx 30 (sx 21 (sx 7 (sx 3 z0 z0 z0) (sx 14 (sx 3 (sv 4) z0 z0) (sx 1 (sv 3) (sv 1) z0) z0) (sv 1)) z0 (sv 1)) (sx 31 z0 z0 z0) z0) z0) z0) z0) (sv 304) z0) z0 z0) (sx 14 z0 z0 z0) z0) z0) (sx 25 (so 72 z0) (sx 2 (sx 9 (sx 32 (sx 30 (sx 3 (sv 1) z0 z0) (sx 31 z0 z0 z0) z0) (sv 41) z0) z0 z0) (sx 2 (sx 9 (sx 32 (sx 30 (sx 3 (sv 2) z0 z0) (sx 31 z0 z0 z0) z0) (sv 306) z0) z0 z0) (sx 14 z0 z0 z0) z0) z0) (sx 25 (so 74 z0) (sx 2 (sx 9 (sx 32 (sx 30 (sx 3 (sv 1) z0 z0) (sx 31 z0 z0 z0) z0) (sv 42) z0) z0 z0) (sx 2 (sx 9 (sx 32 (sx 30 (sx 3 (sv 2) z0 z0) (sx 31 z0 z0 z0) z0) (sv 307) z0) z0 z0) (sx 14 z0 z0 z0) z0) z0) (sx 25 (so 76 z0) (sx 2 (sx 20 (sx 2 (sx 3 (sv 5) (sx 32 (sx 30 (sx 3 (sv 1) z0 z0) (sx 30 (sx 7 (sx 3 z0 z0 z0) (sx 14 (sx 3 (sv 4) z0 z0) (sx 1 (sv 1) (sv 1) z0) z0) (sv 1)) (sx 30 (sx 7 (sx 3 z0 z0 z0) (sx 14 (sx 3 (sv 4) z0 z0) (sx 1 (sv 2) (sv 1) z0) z0) (sv 1)) (sx 30 (sx 7 (sx 3 z0 z0 z0) (sx 14 (sx 3 (sv 4) z0 z0) (sx 1 (sv 3) (sv 1) z0) z0) (sv 1)) (sx 30 (sx 3 (sv 3) z0 z0) (sx 31 z0 z0 z0) z0) z0) z0) z0) z0) (sv 331) z0) z0) (sx 3 (sv 6) (sx 32 (sx 30 (sx 3 (sv 2) z0 z0) (sx 30 (sx 7 (sx 3 z0 z0 z0) (sx 14 (sx 3 (sv 4) z0 z0) (sx 1 (sv 1) (sv 1) z0) z0) (sv 1)) (sx 30 (sx 7 (sx 3 z0 z0 z0) (sx 14 (sx 3 (sv 4) z0 z0) (sx 1 (sv 2) (sv 1) z0) z0) (sv 1)) (sx 30 (sx 7 (sx 3 z0 z0 z0) (sx 14 (sx 3 (sv 4) z0 z0) (sx 1 (sv 3) (sv 1) z0) z0) (sv 1)) (sx 31 z0 z0 z0) z0) z0) z0) z0) (sv 310) z0) z0) z0) z0 z0) (sx 14 z0 z0 z0) z0) (sx 25 (so 78 z0) (sx 2 (sx 9 (sx 32 (sx 30 (sx 3 (sv 1) z0 z0) (sx 30 (sx 7 (sx 3 z0 z0 z0) (sx 14 (sx 3 (sv 4) z0 z0) (sx 1 (sv 1) (sv 1) z0) z0) (sv 1)) (sx 30 (sx 21 (sx 7 (sx 3 z0 z0 z0) (sx 14 (sx 3 (sv 4) z0 z0) (sx 1 (sv 2) (sv 1) z0) z0) (sv 1)) z0 (sv 1)) (sx 31 z0 z0 z0) z0) z0) z0) (sv 48) z0) z0 z0) (sx 2 (sx 9 (sx 32 (sx 30 (sx 3 (sv 2) z0 z0) (sx 30 (sx 7 (sx 3 z0 z0 z0) (sx 14 (sx 3 (sv 4) z0 z0) (sx 1 (sv 1) (sv 1) z0) z0) (sv 1)) (sx 30 (sx 21 (sx 7 (sx 3 z0 z0 z0) (sx 14 (sx 3 (sv 4) z0 z0) (sx 1 (sv 2) (sv 1) z0) z0) (sv 1)) z0 (sv 1)) (sx 31 z0 z0 z0) z0) z0) z0) (sv 311) z0) z0 z0) (sx 14 z0 z0 z0) z0) z0) (sx 25 (so 80 z0) (sx 2 (sx 9 (sx 32 (sx 30 (sx 3 (sv 1) z0 z0) (sx 30 (sx 7 (sx 3 z0 z0 z0) (sx 14 (sx 3 (sv 4) z0 z0) (sx 1 (sv 1) (sv 1) z0) z0) (sv 1)) (sx 31 z0 z0 z0) z0) z0) (sv 51) z0) z0 z0) (sx 2 (sx 9 (sx 32 (sx 30 (sx 3 (sv 2) z0 z0) (sx 30 (sx 7 (sx 3 z0 z0 z0) (sx 14 (sx 3 (sv 4) z0 z0) (sx 1 (sv 1) (sv 1) z0) z0) (sv 1)) (sx 31 z0 z0 z0) z0) z0) (sv 313) z0) z0 z0) (sx 14 z0 z0 z0) z0) z0) (sx 26 (sx 14 z0 z0 z0) z0 z0)))))))))))))))))))))))))))))))))))))))))
def fwP : SX := (sx 4 (sv 4) (sv 7) z0)
theorem fd_a : bb_62 = sx 2 (sx 20 (sx 2 (sx 3 (sv 3) (sx 1 (sv 56) (sv 1) z0) z0) (sx 12 fdC fdB fdP) z0) z0 z0) (sx 17 z0 z0 z0) z0 := rfl
theorem fd_m : bb_184 = sx 2 (sx 20 (sx 2 (sx 3 (sv 3) (sx 1 (sv 56) (sv 1) z0) z0) (sx 12 fdC fmB fdP) z0) z0 z0) (sx 17 z0 z0 z0) z0 := rfl
theorem fw_r : lawR = sx 2 (sx 20 (sx 2 (sx 3 (sv 4) (sx 1 z0 (sv 1) z0) z0) (sx 12 fwC (sx 20 (sx 19 fwS (sx 25 (so 0 z0) fwX fwR) z0) z0 z0) fwP) z0) z0 z0) (sx 27 (sx 1 (sv 1) (sv 1) z0) z0 z0) z0 := rfl
section FEED
variable {xs : Nat → Int} {L K : Nat} {ck : Nat → List Nat} {F : XP} {cW : Nat → Nat → Int} {a b c : SX}
theorem ee_1 : evE xs L ck F cW (sx 1 a b c) = fun _ st => some ([if sx_n c = 0 then (sx_n a : Int) else -(sx_n a : Int)], st) := rfl
theorem ee_3 : evE xs L ck F cW (sx 3 a b c) = fun en st => some ([en.getD (sx_n a) 0], st) := rfl
theorem ee_4 : evE xs L ck F cW (sx 4 a b c) = fun en st => (evE xs L ck F cW a en st).bind fun x => some ([x.2.2 (j_hd x.1).toNat (sx_n b)], x.2) := rfl
theorem ee_5 : evE xs L ck F cW (sx 5 a b c) = fun en st => (evE xs L ck F cW a en st).bind fun x => (j_rf x.2.1.1 (j_hd x.1).toNat (sx_n b)).bind fun r => some ([r], x.2) := rfl
theorem ee_7 : evE xs L ck F cW (sx 7 a b c) = n_aload xs L (sx_n c) (evE xs L ck F cW a) (evE xs L ck F cW b) := rfl
theorem ee_10 : evE xs L ck F cW (sx 10 a b c) = n_alen L (sx_n c) (evE xs L ck F cW a) := rfl
theorem ee_14 : evE xs L ck F cW (sx 14 a b c) = n_bin (j_iop (sx_n c)) (evE xs L ck F cW a) (evE xs L ck F cW b) := rfl
theorem ee_15 : evE xs L ck F cW (sx 15 a b c) = n_bin (j_lop (sx_n c)) (evE xs L ck F cW a) (evE xs L ck F cW b) := rfl
theorem ee_16 : evE xs L ck F cW (sx 16 a b c) = n_bin (j_lsh (sx_n c)) (evE xs L ck F cW a) (evE xs L ck F cW b) := rfl
theorem ee_18 : evE xs L ck F cW (sx 18 a b c) = fun en st => (evE xs L ck F cW a en st).bind fun x => some ([j_un (sx_n c) (j_hd x.1)], x.2) := rfl
theorem ee_20 : evE xs L ck F cW (sx 20 a b c) = n_cmp (j_cmp (sx_n c)) (evE xs L ck F cW a) (evE xs L ck F cW b) := rfl
theorem ee_21 : evE xs L ck F cW (sx 21 a b c) = fun en st => (evE xs L ck F cW a en st).bind fun x => some ([j_b (j_cmp (sx_n c) (j_hd x.1) 0)], x.2) := rfl
theorem ee_24 : evE xs L ck F cW (sx 24 a b c) = evE xs L ck F cW a := rfl
theorem ee_25 : evE xs L ck F cW (sx 25 a b c) = n_ife (evE xs L ck F cW a) (n_nz (evE xs L ck F cW b)) (fun _ st => some ([0], st)) := rfl
theorem ee_26 : evE xs L ck F cW (sx 26 a b c) = n_ife (evE xs L ck F cW a) (fun _ st => some ([1], st)) (n_nz (evE xs L ck F cW b)) := rfl
theorem ee_30 : evE xs L ck F cW (sx 30 a b c) = fun en st => (evE xs L ck F cW a en st).bind fun x => (evE xs L ck F cW b en x.2).bind fun y => some (x.1 ++ y.1, y.2) := rfl
theorem ee_31 : evE xs L ck F cW (sx 31 a b c) = fun _ st => some ([], st) := rfl
theorem ee_32 : evE xs L ck F cW (sx 32 a b c) = n_call F (sx_n b) (evE xs L ck F cW a) := rfl
theorem es_2 : evS xs L ck F K cW (sx 2 a b c) = s_seq (evS xs L ck F K cW a) (evS xs L ck F K cW b) := rfl
theorem es_3 : evS xs L ck F K cW (sx 3 a b c) = fun en st => (evE xs L ck F cW b en st).bind fun x => some (0, [], en.set (sx_n a) (j_hd x.1), x.2) := rfl
theorem es_4 : evS xs L ck F K cW (sx 4 a b c) = fun en st => some (0, [], en.set (sx_n a) (j32 (en.getD (sx_n a) 0 + (if sx_n c = 0 then (sx_n b : Int) else -(sx_n b : Int)))), st) := rfl
theorem es_5 : evS xs L ck F K cW (sx 5 a b c) = s_putf (sx_n c) (evE xs L ck F cW a) (evE xs L ck F cW b) := rfl
theorem es_6 : evS xs L ck F K cW (sx 6 a b c) = s_putfC (sx_n c / 16) (sx_n c % 16) (evE xs L ck F cW a) (evE xs L ck F cW b) := rfl
theorem es_9 : evS xs L ck F K cW (sx 9 a b c) = fun en st => (evE xs L ck F cW a en st).bind fun x => some (0, [], en, x.2) := rfl
theorem es_10 : evS xs L ck F K cW (sx 10 a b c) = s_if (evE xs L ck F cW a) (evS xs L ck F K cW b) (fun en st => some (0, [], en, st)) := rfl
theorem es_12 : evS xs L ck F K cW (sx 12 a b c) = s_loop (evE xs L ck F cW a) (evS xs L ck F K cW b) (evS xs L ck F K cW c) K := rfl
theorem es_16 : evS xs L ck F K cW (sx 16 a b c) = fun en st => (evE xs L ck F cW a en st).bind fun x => some (1, x.1, en, x.2) := rfl
theorem es_17 : evS xs L ck F K cW (sx 17 a b c) = fun en st => some (1, [], en, st) := rfl
theorem es_19 : evS xs L ck F K cW (sx 19 a b c) = s_sw (evE xs L ck F cW a) (evS xs L ck F K cW b) := rfl
theorem es_20 : evS xs L ck F K cW (sx 20 a b c) = evS xs L ck F K cW a := rfl
theorem es_27 : evS xs L ck F K cW (sx 27 a b c) = fun en st => (evE xs L ck F cW a en st).bind fun x => if j_hd x.1 = 0 ∨ j_hd x.1 = 1 then some (1, x.1, en, x.2) else none := rfl
theorem es_28 : evS xs L ck F K cW (sx 28 a b c) = s_if (evE xs L ck F cW a) (evS xs L ck F K cW b) (fun en st => some (2, [], en, st)) := rfl
theorem es_25 : evS xs L ck F K cW (sx 25 a b c) = fun en st => if (sx_l a).any (fun n => decide (en.headD 0 = sx_z n)) then (evS xs L ck F K cW b en.tail st).bind fun r => if r.1 = 0 then none else some r else evS xs L ck F K cW c en st := rfl
theorem es_7 {ty : Nat} : evS xs L ck F K cW (sx 7 a b (so ty c)) = s_ast ty (evE xs L ck F cW a) (evE xs L ck F cW b) (evE xs L ck F cW c) := rfl
theorem n_sv {n : Nat} : sx_n (sv n) = n := rfl
theorem n_z0 : sx_n z0 = 0 := rfl
def sgC (v k : Int) : Int := j_iop 3 (j_un 3 (j_lsh 2 v k)) 255
def sgM (v k : Int) : Int := j_iop 3 (j_un 3 (j_lsh 1 v k)) 255
def rdP (s : Int) : Prop := s = 10 ∨ 32 ≤ s ∧ s ≤ 126
def rdB (s : Int) : Int := j_b (decide (s = 10) || (decide (32 ≤ s) && decide (s ≤ 126)))
theorem rd_ev {en : List Int} {st : XT} {s : Int} (h : en.getD 4 0 = s) : evE xs L ck F cW fdR en st = some ([rdB s], st) := by
  unfold fdR rdB
  simp only [ee_26, ee_25, ee_20, ee_3, ee_1, n_ife, n_nz, n_cmp, Option.bind_some, j_hd, List.headD_cons, n_sv, n_z0, h, j_cmp]
  by_cases h1 : s = 10 <;> by_cases h2 : 32 ≤ s <;> by_cases h3 : s ≤ 126 <;> simp [h1, h2, h3, j_b]
theorem byte_eq (V : BitVec 64) (k : Nat) (hk : k ≤ 56) : ((V >>> k).setWidth 32 &&& 255#32) = ((V.sshiftRight k).setWidth 32 &&& 255#32) := by
  apply BitVec.eq_of_getLsbD_eq
  intro i hi
  rw [BitVec.getLsbD_and, BitVec.getLsbD_and]
  by_cases h8 : i < 8
  · congr 1
    rw [BitVec.getLsbD_setWidth, BitVec.getLsbD_setWidth, BitVec.getLsbD_ushiftRight, BitVec.getLsbD_sshiftRight]
    have h1 : ¬ 64 ≤ i := by omega
    have h2 : k + i < 64 := by omega
    simp [h1, h2]
  · have e : ∀ j : Nat, j < 32 → ¬ j < 8 → (255#32).getLsbD j = false := by decide
    rw [e i hi h8, Bool.and_false, Bool.and_false]
theorem ofI_set (X : BitVec 64) : Int32.ofInt X.toInt = Int32.ofBitVec (X.setWidth 32) := by
  show Int32.ofBitVec (BitVec.ofInt 32 X.toInt) = _
  congr 1
  exact BitVec.signExtend_eq_setWidth_of_le X (by decide)
theorem sg_0 (v : Int) : sgC v 0 = sgM v 0 := by
  have e1 : j_lsh 2 v 0 = ((Int64.ofInt v).toBitVec >>> 0).toInt := rfl
  have e2 : j_lsh 1 v 0 = ((Int64.ofInt v).toBitVec.sshiftRight 0).toInt := rfl
  have k1 : ∀ X : BitVec 64, j_iop 3 (j_un 3 X.toInt) 255 = (Int32.ofBitVec (X.setWidth 32 &&& 255#32)).toInt := fun X => by
    show (Int32.ofInt (j32 X.toInt) &&& Int32.ofInt 255).toInt = _
    rw [of_j32, ofI_set]
    rfl
  unfold sgC sgM
  rw [e1, e2, k1, k1, byte_eq _ 0 (by decide)]
theorem sg_8 (v : Int) : sgC v 8 = sgM v 8 := by
  have e1 : j_lsh 2 v 8 = ((Int64.ofInt v).toBitVec >>> 8).toInt := rfl
  have e2 : j_lsh 1 v 8 = ((Int64.ofInt v).toBitVec.sshiftRight 8).toInt := rfl
  have k1 : ∀ X : BitVec 64, j_iop 3 (j_un 3 X.toInt) 255 = (Int32.ofBitVec (X.setWidth 32 &&& 255#32)).toInt := fun X => by
    show (Int32.ofInt (j32 X.toInt) &&& Int32.ofInt 255).toInt = _
    rw [of_j32, ofI_set]
    rfl
  unfold sgC sgM
  rw [e1, e2, k1, k1, byte_eq _ 8 (by decide)]
theorem sg_16 (v : Int) : sgC v 16 = sgM v 16 := by
  have e1 : j_lsh 2 v 16 = ((Int64.ofInt v).toBitVec >>> 16).toInt := rfl
  have e2 : j_lsh 1 v 16 = ((Int64.ofInt v).toBitVec.sshiftRight 16).toInt := rfl
  have k1 : ∀ X : BitVec 64, j_iop 3 (j_un 3 X.toInt) 255 = (Int32.ofBitVec (X.setWidth 32 &&& 255#32)).toInt := fun X => by
    show (Int32.ofInt (j32 X.toInt) &&& Int32.ofInt 255).toInt = _
    rw [of_j32, ofI_set]
    rfl
  unfold sgC sgM
  rw [e1, e2, k1, k1, byte_eq _ 16 (by decide)]
theorem sg_24 (v : Int) : sgC v 24 = sgM v 24 := by
  have e1 : j_lsh 2 v 24 = ((Int64.ofInt v).toBitVec >>> 24).toInt := rfl
  have e2 : j_lsh 1 v 24 = ((Int64.ofInt v).toBitVec.sshiftRight 24).toInt := rfl
  have k1 : ∀ X : BitVec 64, j_iop 3 (j_un 3 X.toInt) 255 = (Int32.ofBitVec (X.setWidth 32 &&& 255#32)).toInt := fun X => by
    show (Int32.ofInt (j32 X.toInt) &&& Int32.ofInt 255).toInt = _
    rw [of_j32, ofI_set]
    rfl
  unfold sgC sgM
  rw [e1, e2, k1, k1, byte_eq _ 24 (by decide)]
theorem sg_32 (v : Int) : sgC v 32 = sgM v 32 := by
  have e1 : j_lsh 2 v 32 = ((Int64.ofInt v).toBitVec >>> 32).toInt := rfl
  have e2 : j_lsh 1 v 32 = ((Int64.ofInt v).toBitVec.sshiftRight 32).toInt := rfl
  have k1 : ∀ X : BitVec 64, j_iop 3 (j_un 3 X.toInt) 255 = (Int32.ofBitVec (X.setWidth 32 &&& 255#32)).toInt := fun X => by
    show (Int32.ofInt (j32 X.toInt) &&& Int32.ofInt 255).toInt = _
    rw [of_j32, ofI_set]
    rfl
  unfold sgC sgM
  rw [e1, e2, k1, k1, byte_eq _ 32 (by decide)]
theorem sg_40 (v : Int) : sgC v 40 = sgM v 40 := by
  have e1 : j_lsh 2 v 40 = ((Int64.ofInt v).toBitVec >>> 40).toInt := rfl
  have e2 : j_lsh 1 v 40 = ((Int64.ofInt v).toBitVec.sshiftRight 40).toInt := rfl
  have k1 : ∀ X : BitVec 64, j_iop 3 (j_un 3 X.toInt) 255 = (Int32.ofBitVec (X.setWidth 32 &&& 255#32)).toInt := fun X => by
    show (Int32.ofInt (j32 X.toInt) &&& Int32.ofInt 255).toInt = _
    rw [of_j32, ofI_set]
    rfl
  unfold sgC sgM
  rw [e1, e2, k1, k1, byte_eq _ 40 (by decide)]
theorem sg_48 (v : Int) : sgC v 48 = sgM v 48 := by
  have e1 : j_lsh 2 v 48 = ((Int64.ofInt v).toBitVec >>> 48).toInt := rfl
  have e2 : j_lsh 1 v 48 = ((Int64.ofInt v).toBitVec.sshiftRight 48).toInt := rfl
  have k1 : ∀ X : BitVec 64, j_iop 3 (j_un 3 X.toInt) 255 = (Int32.ofBitVec (X.setWidth 32 &&& 255#32)).toInt := fun X => by
    show (Int32.ofInt (j32 X.toInt) &&& Int32.ofInt 255).toInt = _
    rw [of_j32, ofI_set]
    rfl
  unfold sgC sgM
  rw [e1, e2, k1, k1, byte_eq _ 48 (by decide)]
theorem sg_56 (v : Int) : sgC v 56 = sgM v 56 := by
  have e1 : j_lsh 2 v 56 = ((Int64.ofInt v).toBitVec >>> 56).toInt := rfl
  have e2 : j_lsh 1 v 56 = ((Int64.ofInt v).toBitVec.sshiftRight 56).toInt := rfl
  have k1 : ∀ X : BitVec 64, j_iop 3 (j_un 3 X.toInt) 255 = (Int32.ofBitVec (X.setWidth 32 &&& 255#32)).toInt := fun X => by
    show (Int32.ofInt (j32 X.toInt) &&& Int32.ofInt 255).toInt = _
    rw [of_j32, ofI_set]
    rfl
  unfold sgC sgM
  rw [e1, e2, k1, k1, byte_eq _ 56 (by decide)]
end FEED
end
section
/-! ===== feed: the loops, the calls, the law's first case ===== -/
section FEED2
variable {xs : Nat → Int} {L K : Nat} {ck : Nat → List Nat} {F : XP} {cW : Nat → Nat → Int}
theorem rdB_01 (s : Int) : rdB s = 0 ∨ rdB s = 1 := by
  unfold rdB j_b
  split
  · exact Or.inr rfl
  · exact Or.inl rfl
def byC (s : Int) : Int := ((Int32.ofInt (j_un 4 s)).toInt8.toInt32).toInt
theorem up_ne {h : XH} {o k : Nat} {v : Int} {a b : Nat} (hn : ¬ (a = o ∧ b = k)) : j_up h o k v a b = h a b := if_neg hn
theorem up_eq {h : XH} {o k : Nat} {v : Int} : j_up h o k v o k = v := if_pos ⟨rfl, rfl⟩
def upA (h : XH) (o sr : Nat) (m s : Int) : XH := if rdB s = 1 then j_up (j_up h sr m.toNat (byC s)) o 1 (j_iop 0 m 1) else h
def upM (h : XH) (o sr : Nat) (m s : Int) : XH := if rdB s = 1 then j_up (j_up h sr m.toNat s) o 2 (j_iop 0 m 1) else h
theorem itA {v o w k s4 s5 sr m : Int} {st : XT} (hr : j_rf st.1.1 o.toNat 0 = some sr) (hl : j_len st.1.1 sr.toNat = 1000) (hm : st.2 o.toNat 1 = m) (h0 : 0 ≤ m) (h1 : m < 1000) (hne : sr.toNat ≠ o.toNat) :
    evS xs L ck F K cW fdB [o, v, w, k, s4, s5] st = some (0, [], [o, v, w, k, sgC v k, rdB (sgC v k)], (st.1, upA st.2 o.toNat sr.toNat m (sgC v k))) := by
  have e1 : (evE xs L ck F cW fdR [o, v, w, k, sgC v k, s5] st) = some ([rdB (sgC v k)], st) := rd_ev rfl
  unfold fdB
  simp only [es_20, es_2, es_3, es_10, s_seq, s_if, ee_14, ee_18, ee_16, ee_3, ee_1, n_bin, Option.bind_some, j_hd, List.headD_cons, n_sv, n_z0, List.getD_cons_zero, List.getD_cons_succ, List.set_cons_succ, List.set_cons_zero, if_true]
  have e0 : j_iop 3 (j_un 3 (j_lsh 2 v k)) ((255 : Nat) : Int) = sgC v k := rfl
  rw [e0, e1]
  simp only [Option.bind_some, j_hd, List.headD_cons, List.set_cons_succ, List.set_cons_zero, if_true, ee_25, ee_24, ee_3, n_ife, n_nz, ee_21, ee_20, ee_4, ee_10, ee_5, n_cmp, n_alen, n_sv, n_z0, List.getD_cons_zero, List.getD_cons_succ, hm, hr, hl, j_cmp]
  unfold upA
  rcases rdB_01 (sgC v k) with e | e
  · rw [e]
    simp
  · rw [e]
    simp only [h0, h1, j_b, decide_true, if_true, es_7, es_6, s_ast, s_putfC, ee_5, ee_4, ee_3, ee_18, ee_1, Option.bind_some, j_hd, List.headD_cons, n_sv, n_z0, List.getD_cons_zero, List.getD_cons_succ, hm, hr, hl, ge_iff_le]
    have e3 : ∀ q : Int, j_up st.2 sr.toNat m.toNat q o.toNat 1 = m := fun q => by rw [up_ne (fun z => hne z.1.symm), hm]
    unfold byC
    simp [h0, h1, e3, hr, hl, hm]
theorem itM {v o w k s4 sr m : Int} {st : XT} (hr : j_rf st.1.1 o.toNat 1 = some sr) (hl : j_len st.1.1 sr.toNat = 1000) (hm : st.2 o.toNat 2 = m) (h0 : 0 ≤ m) (h1 : m < 1000) (hne : sr.toNat ≠ o.toNat) :
    evS xs L ck F K cW fmB [o, v, w, k, s4] st = some (0, [], [o, v, w, k, sgM v k], (st.1, upM st.2 o.toNat sr.toNat m (sgM v k))) := by
  have e1 : (evE xs L ck F cW fdR [o, v, w, k, sgM v k] st) = some ([rdB (sgM v k)], st) := rd_ev rfl
  unfold fmB
  simp only [es_20, es_2, es_3, es_10, s_seq, s_if, ee_14, ee_18, ee_16, ee_3, ee_1, n_bin, Option.bind_some, j_hd, List.headD_cons, n_sv, n_z0, List.getD_cons_zero, List.getD_cons_succ, List.set_cons_succ, List.set_cons_zero, if_true]
  have e0 : j_iop 3 (j_un 3 (j_lsh 1 v k)) ((255 : Nat) : Int) = sgM v k := rfl
  rw [e0, ee_25, n_ife, e1]
  simp only [Option.bind_some, j_hd, List.headD_cons, n_nz, ee_20, ee_4, ee_3, ee_1, n_cmp, n_sv, n_z0, List.getD_cons_zero, List.getD_cons_succ, hm, j_cmp, if_true]
  unfold upM
  rcases rdB_01 (sgM v k) with e | e
  · rw [e]
    simp
  · rw [e]
    simp only [h0, h1, j_b, decide_true, if_true, es_7, es_6, s_ast, s_putfC, ee_5, ee_4, ee_3, ee_18, ee_1, Option.bind_some, j_hd, List.headD_cons, n_sv, n_z0, List.getD_cons_zero, List.getD_cons_succ, hm, hr, hl, ge_iff_le]
    have e3 : ∀ q : Int, j_up st.2 sr.toNat m.toNat q o.toNat 2 = m := fun q => by rw [up_ne (fun z => hne z.1.symm), hm]
    simp [h0, h1, e3, hr, hl, hm]
def fcnt (v : Int) : Nat → Int
  | 0 => 0
  | j + 1 => rdB (sgC v (8 * (j : Int))) + fcnt v j
theorem fcnt_le {v : Int} : ∀ j, 0 ≤ fcnt v j ∧ fcnt v j ≤ j
  | 0 => ⟨Int.le_refl _, Int.le_refl _⟩
  | j + 1 => by
    have h := fcnt_le (v := v) j
    have e : fcnt v (j + 1) = rdB (sgC v (8 * (j : Int))) + fcnt v j := rfl
    rcases rdB_01 (sgC v (8 * (j : Int))) with e1 | e1 <;> rw [e, e1] <;> omega
theorem fdC_ev {o v w k : Int} {t : List Int} {st : XT} : evE xs L ck F cW fdC (o :: v :: w :: k :: t) st = some ([j_b (decide (k ≥ 0))], st) := rfl
theorem fdP_ev {o v w k : Int} {t : List Int} {st : XT} : evS xs L ck F K cW fdP (o :: v :: w :: k :: t) st = some (0, [], o :: v :: w :: j32 (k + -8) :: t, st) := rfl
theorem j32_8 {j : Nat} (h : j ≤ 8) : j32 (8 * (j : Int) + -8) = 8 * (j : Int) - 8 := by
  rw [j32_in ⟨by omega, by omega⟩]
  omega
theorem upA_m {h : XH} {o sr : Nat} {m s : Int} (h0 : 0 ≤ m) (h1 : m < 1000) (hm : h o 1 = m) : upA h o sr m s o 1 = m + rdB s ∧ ∀ a b, a ≠ sr → ¬ (a = o ∧ b = 1) → upA h o sr m s a b = h a b := by
  unfold upA
  rcases rdB_01 s with e | e
  · rw [e]
    refine ⟨?_, fun a b _ _ => rfl⟩
    show h o 1 = _
    omega
  · rw [e, if_pos rfl]
    refine ⟨?_, fun a b p q => ?_⟩
    · rw [up_eq]
      exact j32_in ⟨by omega, by omega⟩
    · rw [up_ne q, up_ne (fun z => p z.1)]
theorem upM_m {h : XH} {o sr : Nat} {m s : Int} (h0 : 0 ≤ m) (h1 : m < 1000) (hm : h o 2 = m) : upM h o sr m s o 2 = m + rdB s ∧ ∀ a b, a ≠ sr → ¬ (a = o ∧ b = 2) → upM h o sr m s a b = h a b := by
  unfold upM
  rcases rdB_01 s with e | e
  · rw [e]
    refine ⟨?_, fun a b _ _ => rfl⟩
    show h o 2 = _
    omega
  · rw [e, if_pos rfl]
    refine ⟨?_, fun a b p q => ?_⟩
    · rw [up_eq]
      exact j32_in ⟨by omega, by omega⟩
    · rw [up_ne q, up_ne (fun z => p z.1)]
theorem sg_all (v : Int) : ∀ j : Nat, j < 8 → sgC v (8 * (j : Int)) = sgM v (8 * (j : Int))
  | 0, _ => sg_0 v
  | 1, _ => sg_8 v
  | 2, _ => sg_16 v
  | 3, _ => sg_24 v
  | 4, _ => sg_32 v
  | 5, _ => sg_40 v
  | 6, _ => sg_48 v
  | 7, _ => sg_56 v
  | _ + 8, h => absurd h (by omega)
theorem lpA {v o w sr : Int} {g : XS × Nat × Nat} (hr : j_rf g.1 o.toNat 0 = some sr) (hl : j_len g.1 sr.toNat = 1000) (hne : sr.toNat ≠ o.toNat) : ∀ (j fuel : Nat) (s4 s5 m : Int) (h : XH), j ≤ 8 → j + 1 ≤ fuel → h o.toNat 1 = m → 0 ≤ m → m + j ≤ 1000 →
    ∃ en hh, s_loop (evE xs L ck F cW fdC) (evS xs L ck F K cW fdB) (evS xs L ck F K cW fdP) fuel [o, v, w, 8 * (j : Int) - 8, s4, s5] (g, h) = some (0, [], en, (g, hh)) ∧ hh o.toNat 1 = m + fcnt v j ∧ ∀ a b, a ≠ sr.toNat → ¬ (a = o.toNat ∧ b = 1) → hh a b = h a b
  | 0, fuel, s4, s5, m, h, _, hf, hm, _, _ => by
    obtain ⟨f, rfl⟩ : ∃ f, fuel = f + 1 := ⟨fuel - 1, by omega⟩
    refine ⟨[o, v, w, 8 * ((0 : Nat) : Int) - 8, s4, s5], h, ?_, by rw [hm]; exact (Int.add_zero m).symm, fun _ _ _ _ => rfl⟩
    unfold s_loop
    rw [fdC_ev, Option.bind_some]
    exact if_pos rfl
  | j + 1, fuel, s4, s5, m, h, hj, hf, hm, h0, h1 => by
    obtain ⟨f, rfl⟩ : ∃ f, fuel = f + 1 := ⟨fuel - 1, by omega⟩
    have ek : 8 * ((j + 1 : Nat) : Int) - 8 = 8 * (j : Int) := by omega
    rw [ek]
    have hb := itA (xs := xs) (L := L) (ck := ck) (F := F) (K := K) (cW := cW) (v := v) (w := w) (k := 8 * (j : Int)) (s4 := s4) (s5 := s5) (st := (g, h)) hr hl hm h0 (by omega) hne
    obtain ⟨hu, hv⟩ := upA_m (h := h) (o := o.toNat) (sr := sr.toNat) (s := sgC v (8 * (j : Int))) h0 (by omega) hm
    obtain ⟨en, hh, e1, e2, e3⟩ := lpA hr hl hne j f (sgC v (8 * (j : Int))) (rdB (sgC v (8 * (j : Int)))) _ (upA h o.toNat sr.toNat m (sgC v (8 * (j : Int)))) (by omega) (by omega) hu (by rcases rdB_01 (sgC v (8 * (j : Int))) with e | e <;> rw [e] <;> omega) (by rcases rdB_01 (sgC v (8 * (j : Int))) with e | e <;> rw [e] <;> omega)
    refine ⟨en, hh, ?_, ?_, fun a b p q => (e3 a b p q).trans (hv a b p q)⟩
    · unfold s_loop
      rw [fdC_ev, Option.bind_some]
      dsimp only
      rw [decide_eq_true (show 8 * (j : Int) ≥ 0 by omega)]
      refine (if_neg (by decide)).trans ?_
      rw [hb, Option.bind_some]
      refine (if_pos (Or.inl rfl)).trans ?_
      dsimp only
      rw [fdP_ev, Option.bind_some]
      refine (if_pos rfl).trans ?_
      dsimp only
      rw [j32_8 (by omega)]
      exact e1
    · rw [e2]
      show _ = m + (rdB (sgC v (8 * (j : Int))) + fcnt v j)
      omega
theorem lpM {v o w sr : Int} {g : XS × Nat × Nat} (hr : j_rf g.1 o.toNat 1 = some sr) (hl : j_len g.1 sr.toNat = 1000) (hne : sr.toNat ≠ o.toNat) : ∀ (j fuel : Nat) (s4 m : Int) (h : XH), j ≤ 8 → j + 1 ≤ fuel → h o.toNat 2 = m → 0 ≤ m → m + j ≤ 1000 →
    ∃ en hh, s_loop (evE xs L ck F cW fdC) (evS xs L ck F K cW fmB) (evS xs L ck F K cW fdP) fuel [o, v, w, 8 * (j : Int) - 8, s4] (g, h) = some (0, [], en, (g, hh)) ∧ hh o.toNat 2 = m + fcnt v j ∧ ∀ a b, a ≠ sr.toNat → ¬ (a = o.toNat ∧ b = 2) → hh a b = h a b
  | 0, fuel, s4, m, h, _, hf, hm, _, _ => by
    obtain ⟨f, rfl⟩ : ∃ f, fuel = f + 1 := ⟨fuel - 1, by omega⟩
    refine ⟨[o, v, w, 8 * ((0 : Nat) : Int) - 8, s4], h, ?_, by rw [hm]; exact (Int.add_zero m).symm, fun _ _ _ _ => rfl⟩
    unfold s_loop
    rw [fdC_ev, Option.bind_some]
    exact if_pos rfl
  | j + 1, fuel, s4, m, h, hj, hf, hm, h0, h1 => by
    obtain ⟨f, rfl⟩ : ∃ f, fuel = f + 1 := ⟨fuel - 1, by omega⟩
    have ek : 8 * ((j + 1 : Nat) : Int) - 8 = 8 * (j : Int) := by omega
    rw [ek]
    have hb := itM (xs := xs) (L := L) (ck := ck) (F := F) (K := K) (cW := cW) (v := v) (w := w) (k := 8 * (j : Int)) (s4 := s4) (st := (g, h)) hr hl hm h0 (by omega) hne
    obtain ⟨hu, hv⟩ := upM_m (h := h) (o := o.toNat) (sr := sr.toNat) (s := sgM v (8 * (j : Int))) h0 (by omega) hm
    obtain ⟨en, hh, e1, e2, e3⟩ := lpM hr hl hne j f (sgM v (8 * (j : Int))) _ (upM h o.toNat sr.toNat m (sgM v (8 * (j : Int)))) (by omega) (by omega) hu (by rcases rdB_01 (sgM v (8 * (j : Int))) with e | e <;> rw [e] <;> omega) (by rcases rdB_01 (sgM v (8 * (j : Int))) with e | e <;> rw [e] <;> omega)
    refine ⟨en, hh, ?_, ?_, fun a b p q => (e3 a b p q).trans (hv a b p q)⟩
    · unfold s_loop
      rw [fdC_ev, Option.bind_some]
      dsimp only
      rw [decide_eq_true (show 8 * (j : Int) ≥ 0 by omega)]
      refine (if_neg (by decide)).trans ?_
      rw [hb, Option.bind_some]
      refine (if_pos (Or.inl rfl)).trans ?_
      dsimp only
      rw [fdP_ev, Option.bind_some]
      refine (if_pos rfl).trans ?_
      dsimp only
      rw [j32_8 (by omega)]
      exact e1
    · rw [e2, ← sg_all v j (by omega)]
      show _ = m + (rdB (sgC v (8 * (j : Int))) + fcnt v j)
      omega
end FEED2
end
section
/-! ===== feed: the calls ===== -/
section FEED3
variable {xs : Nat → Int} {L K : Nat} {ck : Nat → List Nat} {F : XP} {cW : Nat → Nat → Int}
theorem evF_s {M : Nat → XM} {n f : Nat} {av : List Int} {st : XT} : evF xs L ck K cW M (n + 1) f av st = (evS xs L ck (evF xs L ck K cW M n) K cW (M f).2.2.2.2 (j_pad 0 (M f).2.1 (j_lay (M f).2.2.1 av)) st).bind fun r =>
      if (r.1 = 1 ∨ r.1 = 4) ∧ st.1.2.1 ≤ r.2.2.2.1.2.1 ∧ st.1.2.2 ≤ r.2.2.2.1.2.2 ∧ (st.1.1.map (·.1)).isPrefixOf (r.2.2.2.1.1.map (·.1)) = true then some (r.1, r.2.1, r.2.2.2) else none := rfl
theorem chk_self {g : XS × Nat × Nat} : ((1 : Nat) = 1 ∨ (1 : Nat) = 4) ∧ g.2.1 ≤ g.2.1 ∧ g.2.2 ≤ g.2.2 ∧ (g.1.map (·.1)).isPrefixOf (g.1.map (·.1)) = true := ⟨Or.inl rfl, Nat.le_refl _, Nat.le_refl _, List.isPrefixOf_iff_prefix.mpr (List.prefix_refl _)⟩
theorem gm_a : g_M 62 = (0, 6, [19, 2], [], bb_62) := rfl
theorem gm_m : g_M 184 = (0, 5, [20, 2], [], bb_184) := rfl
theorem gm_f : g_M 1 = (0, 7, [10, 2, 2, 2], [1], bb_1) := rfl
theorem gm_g : g_M 183 = (0, 7, [20, 2, 2, 2], [1], bb_183) := rfl
theorem adA {n : Nat} {o v sr m : Int} {g : XS × Nat × Nat} {h : XH} (hr : j_rf g.1 o.toNat 0 = some sr) (hl : j_len g.1 sr.toNat = 1000) (hne : sr.toNat ≠ o.toNat) (hm : h o.toNat 1 = m) (h0 : 0 ≤ m) (h1 : m + 8 ≤ 1000) :
    ∃ hh, evF xs L ck 2000 cW g_M (n + 1) 62 [o, v] (g, h) = some (1, [], (g, hh)) ∧ hh o.toNat 1 = m + fcnt v 8 ∧ ∀ a b, a ≠ sr.toNat → ¬ (a = o.toNat ∧ b = 1) → hh a b = h a b := by
  obtain ⟨en, hh, e1, e2, e3⟩ := lpA (xs := xs) (L := L) (K := 2000) (ck := ck) (cW := cW) (F := evF xs L ck 2000 cW g_M n) (v := v) (w := 0) hr hl hne 8 2000 0 0 m h (by omega) (by omega) hm h0 h1
  refine ⟨hh, ?_, e2, e3⟩
  rw [evF_s, gm_a]
  have k1 : evS xs L ck (evF xs L ck 2000 cW g_M n) 2000 cW bb_62 [o, v, 0, 0, 0, 0] (g, h) = some (1, [], en, (g, hh)) := by
    rw [fd_a, es_2, es_17, es_20, es_2, es_3, es_12, ee_1]
    unfold s_seq
    dsimp only
    simp only [Option.bind_some, if_true]
    have e4 : [o, v, 0, 0, 0, 0].set (sx_n (sv 3)) (j_hd [if sx_n z0 = 0 then (sx_n (sv 56) : Int) else -(sx_n (sv 56) : Int)]) = [o, v, 0, 8 * ((8 : Nat) : Int) - 8, 0, 0] := rfl
    rw [e4, e1]
    rfl
  show (evS xs L ck (evF xs L ck 2000 cW g_M n) 2000 cW bb_62 [o, v, 0, 0, 0, 0] (g, h)).bind _ = _
  rw [k1, Option.bind_some]
  exact if_pos chk_self
theorem adM {n : Nat} {o v sr m : Int} {g : XS × Nat × Nat} {h : XH} (hr : j_rf g.1 o.toNat 1 = some sr) (hl : j_len g.1 sr.toNat = 1000) (hne : sr.toNat ≠ o.toNat) (hm : h o.toNat 2 = m) (h0 : 0 ≤ m) (h1 : m + 8 ≤ 1000) :
    ∃ hh, evF xs L ck 2000 cW g_M (n + 1) 184 [o, v] (g, h) = some (1, [], (g, hh)) ∧ hh o.toNat 2 = m + fcnt v 8 ∧ ∀ a b, a ≠ sr.toNat → ¬ (a = o.toNat ∧ b = 2) → hh a b = h a b := by
  obtain ⟨en, hh, e1, e2, e3⟩ := lpM (xs := xs) (L := L) (K := 2000) (ck := ck) (cW := cW) (F := evF xs L ck 2000 cW g_M n) (v := v) (w := 0) hr hl hne 8 2000 0 m h (by omega) (by omega) hm h0 h1
  refine ⟨hh, ?_, e2, e3⟩
  rw [evF_s, gm_m]
  have k1 : evS xs L ck (evF xs L ck 2000 cW g_M n) 2000 cW bb_184 [o, v, 0, 0, 0] (g, h) = some (1, [], en, (g, hh)) := by
    rw [fd_m, es_2, es_17, es_20, es_2, es_3, es_12, ee_1]
    unfold s_seq
    dsimp only
    simp only [Option.bind_some, if_true]
    have e4 : [o, v, 0, 0, 0].set (sx_n (sv 3)) (j_hd [if sx_n z0 = 0 then (sx_n (sv 56) : Int) else -(sx_n (sv 56) : Int)]) = [o, v, 0, 8 * ((8 : Nat) : Int) - 8, 0] := rfl
    rw [e4, e1]
    rfl
  show (evS xs L ck (evF xs L ck 2000 cW g_M n) 2000 cW bb_184 [o, v, 0, 0, 0] (g, h)).bind _ = _
  rw [k1, Option.bind_some]
  exact if_pos chk_self
theorem feA {n : Nat} {x rr o sr m a b c : Int} {g : XS × Nat × Nat} {h : XH} (hx1 : j_rf g.1 x.toNat 0 = some rr) (hx2 : j_rf g.1 rr.toNat 0 = some o) (hr : j_rf g.1 o.toNat 0 = some sr) (hl : j_len g.1 sr.toNat = 1000) (hne : sr.toNat ≠ o.toNat) (hm : h o.toNat 1 = m) (h0 : 0 ≤ m) (h1 : m + 24 ≤ 1000) :
    ∃ hh, evF xs L ck 2000 cW g_M (n + 2) 1 [x, a, b, c] (g, h) = some (1, [m + fcnt a 8 + fcnt b 8 + fcnt c 8], (g, hh)) ∧ ∀ a b, a ≠ sr.toNat → ¬ (a = o.toNat ∧ b = 1) → hh a b = h a b := by
  have ha := fcnt_le (v := a) 8
  have hb := fcnt_le (v := b) 8
  obtain ⟨h2, e1, m1, f1⟩ := adA (xs := xs) (L := L) (ck := ck) (cW := cW) (n := n) (v := a) hr hl hne hm h0 (by omega)
  obtain ⟨h3, e2, m2, f2⟩ := adA (xs := xs) (L := L) (ck := ck) (cW := cW) (n := n) (v := b) hr hl hne m1 (by omega) (by omega)
  obtain ⟨h4, e3, m3, f3⟩ := adA (xs := xs) (L := L) (ck := ck) (cW := cW) (n := n) (v := c) hr hl hne m2 (by omega) (by omega)
  refine ⟨h4, ?_, fun p q r s => (f3 p q r s).trans ((f2 p q r s).trans (f1 p q r s))⟩
  rw [evF_s, gm_f]
  have k1 : evS xs L ck (evF xs L ck 2000 cW g_M (n + 1)) 2000 cW bb_1 [x, a, 0, b, 0, c, 0] (g, h) = some (1, [m + fcnt a 8 + fcnt b 8 + fcnt c 8], [x, a, 0, b, 0, c, 0], (g, h4)) := by
    generalize evF xs L ck 2000 cW g_M (n + 1) = F at e1 e2 e3 ⊢
    unfold bb_1
    simp only [es_2, es_9, es_16, ee_32, ee_30, ee_31, ee_5, ee_4, ee_3, s_seq, n_call, Option.bind_some, j_hd, List.headD_cons, n_sv, n_z0, List.getD_cons_zero, List.getD_cons_succ, hx1, hx2, List.cons_append, List.nil_append, e1, e2, e3, if_true, m3]
  show (evS xs L ck (evF xs L ck 2000 cW g_M (n + 1)) 2000 cW bb_1 [x, a, 0, b, 0, c, 0] (g, h)).bind _ = _
  rw [k1, Option.bind_some]
  exact if_pos chk_self
theorem feM {n : Nat} {o sr m a b c : Int} {g : XS × Nat × Nat} {h : XH} (hr : j_rf g.1 o.toNat 1 = some sr) (hl : j_len g.1 sr.toNat = 1000) (hne : sr.toNat ≠ o.toNat) (hm : h o.toNat 2 = m) (h0 : 0 ≤ m) (h1 : m + 24 ≤ 1000) :
    ∃ hh, evF xs L ck 2000 cW g_M (n + 2) 183 [o, a, b, c] (g, h) = some (1, [m + fcnt a 8 + fcnt b 8 + fcnt c 8], (g, hh)) := by
  have ha := fcnt_le (v := a) 8
  have hb := fcnt_le (v := b) 8
  have hm0 : j_up h o.toNat 0 ((0 : Nat) : Int) o.toNat 2 = m := by rw [up_ne (fun z => absurd z.2 (by decide)), hm]
  obtain ⟨h2, e1, m1, f1⟩ := adM (xs := xs) (L := L) (ck := ck) (cW := cW) (n := n) (v := a) hr hl hne hm0 h0 (by omega)
  obtain ⟨h3, e2, m2, f2⟩ := adM (xs := xs) (L := L) (ck := ck) (cW := cW) (n := n) (v := b) hr hl hne m1 (by omega) (by omega)
  obtain ⟨h4, e3, m3, f3⟩ := adM (xs := xs) (L := L) (ck := ck) (cW := cW) (n := n) (v := c) hr hl hne m2 (by omega) (by omega)
  refine ⟨h4, ?_⟩
  rw [evF_s, gm_g]
  have k1 : evS xs L ck (evF xs L ck 2000 cW g_M (n + 1)) 2000 cW bb_183 [o, a, 0, b, 0, c, 0] (g, h) = some (1, [m + fcnt a 8 + fcnt b 8 + fcnt c 8], [o, a, 0, b, 0, c, 0], (g, h4)) := by
    generalize evF xs L ck 2000 cW g_M (n + 1) = F at e1 e2 e3 ⊢
    unfold bb_183
    simp only [es_2, es_5, es_9, es_16, s_putf, ee_32, ee_30, ee_31, ee_5, ee_4, ee_3, ee_1, s_seq, n_call, Option.bind_some, j_hd, List.headD_cons, n_sv, n_z0, List.getD_cons_zero, List.getD_cons_succ, List.cons_append, List.nil_append, if_true, e1, e2, e3, m3]
  show (evS xs L ck (evF xs L ck 2000 cW g_M (n + 1)) 2000 cW bb_183 [o, a, 0, b, 0, c, 0] (g, h)).bind _ = _
  rw [k1, Option.bind_some]
  exact if_pos chk_self
end FEED3
end
section
/-! ===== where the two tapes lie ===== -/
theorem fg_1 : j_rf a_g3 (0 : Int).toNat 0 = some 1 := by decide +kernel
theorem fg_2 : j_rf a_g3 (1 : Int).toNat 0 = some 2 := by decide +kernel
theorem fg_3 : j_rf a_g3 (2 : Int).toNat 0 = some 3 := by decide +kernel
theorem fg_4 : j_len a_g3 (3 : Int).toNat = 1000 := by decide +kernel
theorem fg_5 : j_rf a_g3 (182 : Int).toNat 1 = some 183 := by decide +kernel
theorem fg_6 : j_len a_g3 (183 : Int).toNat = 1000 := by decide +kernel
end
section
/-! ===== a third reading: kinds alone; a tree that stands it comes to an end, whatever the numbers are ===== -/
/-- what a number is, by its kind: 1 int, 2 long, 3 Word, 6.. references, 100 truth, 300 + i the number z i -/
def TV (z : Nat → Int) (g : XS) (t : Nat) (v : Int) : Prop :=
  (t = 1 → InI v) ∧ (t = 2 → InL v) ∧ (t = 100 → v = 0 ∨ v = 1) ∧ (t = 3 → 0 ≤ v ∧ v < 24) ∧ (6 ≤ t → t < 100 → 0 ≤ v ∧ ∃ c, g[v.toNat]? = some c ∧ c.1 = t) ∧ (300 ≤ t → v = z (t - 300) ∧ InI v)
def VL (z : Nat → Int) (g : XS) : List Nat → List Int → Prop
  | [], [] => True
  | t :: ts, v :: vs => TV z g t v ∧ VL z g ts vs
  | _, _ => False
def t_sub (a b : Nat) : Bool := b == 0 || a == b || (b == 1 && (a == 100 || Nat.ble 300 a))
def t_subs : List Nat → List Nat → Bool
  | [], [] => true
  | a :: x, b :: y => t_sub a b && t_subs x y
  | _, _ => false
def t_lub (a b : Nat) : Nat := bif t_sub a b then b else bif t_sub b a then a else bif t_sub a 1 && t_sub b 1 then 1 else 0
def t_lubs : List Nat → List Nat → List Nat
  | a :: x, b :: y => t_lub a b :: t_lubs x y
  | _, _ => []
theorem TV.zero {z : Nat → Int} {g : XS} {v : Int} : TV z g 0 v := ⟨fun h => (by cases h), fun h => (by cases h), fun h => (by cases h), fun h => (by cases h), fun h => absurd h (by decide), fun h => absurd h (by decide)⟩
theorem TV.int {z : Nat → Int} {g : XS} {v : Int} (h : InI v) : TV z g 1 v := ⟨fun _ => h, fun h => (by cases h), fun h => (by cases h), fun h => (by cases h), fun h => absurd h (by decide), fun h => absurd h (by decide)⟩
theorem TV.long {z : Nat → Int} {g : XS} {v : Int} (h : InL v) : TV z g 2 v := ⟨fun h => (by cases h), fun _ => h, fun h => (by cases h), fun h => (by cases h), fun h => absurd h (by decide), fun h => absurd h (by decide)⟩
theorem TV.bool {z : Nat → Int} {g : XS} {v : Int} (h : v = 0 ∨ v = 1) : TV z g 100 v := ⟨fun h => (by cases h), fun h => (by cases h), fun _ => h, fun h => (by cases h), fun _ h => absurd h (by decide), fun h => absurd h (by decide)⟩
theorem TV.word {z : Nat → Int} {g : XS} {v : Int} (h : 0 ≤ v ∧ v < 24) : TV z g 3 v := ⟨fun h => (by cases h), fun h => (by cases h), fun h => (by cases h), fun _ => h, fun h => absurd h (by decide), fun h => absurd h (by decide)⟩
theorem TV.ref {z : Nat → Int} {g : XS} {v : Int} {t : Nat} (h6 : 6 ≤ t) (h7 : t < 100) (h : 0 ≤ v ∧ ∃ c, g[v.toNat]? = some c ∧ c.1 = t) : TV z g t v := ⟨fun h => (by omega), fun h => (by omega), fun h => (by omega), fun h => (by omega), fun _ _ => h, fun h => (by omega)⟩
theorem in_bool {v : Int} (h : v = 0 ∨ v = 1) : InI v := by
  unfold InI
  omega
theorem TV.sub {z : Nat → Int} {g : XS} {a b : Nat} {v : Int} (h : t_sub a b = true) (hv : TV z g a v) : TV z g b v := by
  simp only [t_sub, Bool.or_eq_true, Bool.and_eq_true, beq_iff_eq] at h
  rcases h with (rfl | rfl) | ⟨rfl, rfl | h⟩
  · exact TV.zero
  · exact hv
  · exact TV.int (in_bool (hv.2.2.1 rfl))
  · exact TV.int (hv.2.2.2.2.2 (Nat.le_of_ble_eq_true h)).2
theorem VL.len {z : Nat → Int} {g : XS} : ∀ {ts : List Nat} {vs : List Int}, VL z g ts vs → vs.length = ts.length
  | [], [], _ => rfl
  | _ :: _, _ :: _, h => by rw [List.length_cons, List.length_cons, VL.len h.2]
  | [], _ :: _, h => h.elim
  | _ :: _, [], h => h.elim
theorem VL.sub {z : Nat → Int} {g : XS} : ∀ {x y : List Nat} {vs : List Int}, t_subs x y = true → VL z g x vs → VL z g y vs
  | [], [], _, _, h => h
  | a :: x, b :: y, v :: vs, h, hv => ⟨TV.sub ((Bool.and_eq_true _ _).mp h).1 hv.1, VL.sub ((Bool.and_eq_true _ _).mp h).2 hv.2⟩
  | a :: x, b :: y, [], _, hv => hv.elim
  | [], _ :: _, _, h, _ => by cases h
  | _ :: _, [], _, h, _ => by cases h
theorem lub_l {a b : Nat} : t_sub a (t_lub a b) = true := by
  unfold t_lub
  cases h : t_sub a b with
  | true => exact h
  | false =>
    cases h2 : t_sub b a with
    | true =>
      show t_sub a a = true
      simp [t_sub]
    | false =>
      cases h3 : t_sub a 1 && t_sub b 1 with
      | true => exact ((Bool.and_eq_true _ _).mp h3).1
      | false => rfl
theorem lub_r {a b : Nat} : t_sub b (t_lub a b) = true := by
  unfold t_lub
  cases h : t_sub a b with
  | true =>
    show t_sub b b = true
    simp [t_sub]
  | false =>
    cases h2 : t_sub b a with
    | true => exact h2
    | false =>
      cases h3 : t_sub a 1 && t_sub b 1 with
      | true => exact ((Bool.and_eq_true _ _).mp h3).2
      | false => rfl
theorem lubs_l : ∀ {x y : List Nat}, x.length = y.length → t_subs x (t_lubs x y) = true
  | [], [], _ => rfl
  | a :: x, b :: y, h => (Bool.and_eq_true _ _).mpr ⟨lub_l, lubs_l (by simpa using h)⟩
  | [], _ :: _, h => by cases h
  | _ :: _, [], h => by cases h
theorem lubs_r : ∀ {x y : List Nat}, x.length = y.length → t_subs y (t_lubs x y) = true
  | [], [], _ => rfl
  | a :: x, b :: y, h => (Bool.and_eq_true _ _).mpr ⟨lub_r, lubs_r (by simpa using h)⟩
  | [], _ :: _, h => by cases h
  | _ :: _, [], h => by cases h
theorem VL.at {z : Nat → Int} {g : XS} : ∀ {ts : List Nat} {vs : List Int} (i : Nat), VL z g ts vs → TV z g (ts.getD i 0) (vs.getD i 0)
  | [], [], _, _ => TV.zero
  | _ :: _, _ :: _, 0, h => h.1
  | _ :: _, _ :: _, i + 1, h => VL.at i h.2
  | [], _ :: _, _, h => h.elim
  | _ :: _, [], _, h => h.elim
theorem VL.set {z : Nat → Int} {g : XS} {t : Nat} {v : Int} : ∀ {ts : List Nat} {vs : List Int} (i : Nat), VL z g ts vs → TV z g t v → VL z g (ts.set i t) (vs.set i v)
  | [], [], _, _, _ => trivial
  | _ :: _, _ :: _, 0, h, ht => ⟨ht, h.2⟩
  | _ :: _, _ :: _, i + 1, h, ht => ⟨h.1, VL.set i h.2 ht⟩
  | [], _ :: _, _, h, _ => h.elim
  | _ :: _, [], _, h, _ => h.elim
theorem VL.app {z : Nat → Int} {g : XS} : ∀ {x y : List Nat} {v w : List Int}, VL z g x v → VL z g y w → VL z g (x ++ y) (v ++ w)
  | [], _, [], _, _, h => h
  | _ :: _, _, _ :: _, _, h, h' => ⟨h.1, VL.app h.2 h'⟩
  | [], _, _ :: _, _, h, _ => h.elim
  | _ :: _, _, [], _, h, _ => h.elim
theorem VL.one {z : Nat → Int} {g : XS} {t : Nat} : ∀ {v : List Int}, VL z g [t] v → ∃ x, v = [x] ∧ TV z g t x
  | [x], h => ⟨x, rfl, h.1⟩
  | [], h => h.elim
  | _ :: _ :: _, h => h.2.elim
/-- the kind of a cell's place -/
def c_ty (fk : Nat → List Nat) (g : XS) (o k : Nat) : Nat := match g[o]? with
  | some (6, _) => 1
  | some (7, _) => 2
  | some (8, _) => 1
  | some (9, _) => 100
  | some (kd, _) => if 10 ≤ kd then (fk (kd - 10)).getD k 0 else 0
  | none => 0
def HT (fk : Nat → List Nat) (g : XS) (h : XH) : Prop := ∀ o k, (c_ty fk g o k = 1 → InI (h o k)) ∧ (c_ty fk g o k = 2 → InL (h o k)) ∧ (c_ty fk g o k = 100 → h o k = 0 ∨ h o k = 1)
theorem HT.up {fk : Nat → List Nat} {g : XS} {h : XH} {o k : Nat} {v : Int} (hh : HT fk g h) (h1 : c_ty fk g o k = 1 → InI v) (h2 : c_ty fk g o k = 2 → InL v) (h3 : c_ty fk g o k = 100 → v = 0 ∨ v = 1) : HT fk g (j_up h o k v) := by
  intro a b
  unfold j_up
  by_cases e : a = o ∧ b = k
  · obtain ⟨rfl, rfl⟩ := e
    rw [if_pos ⟨rfl, rfl⟩]
    exact ⟨h1, h2, h3⟩
  · rw [if_neg e]
    exact hh a b
/-- what is never written -/
def FR (ro : Nat → Nat → Bool) (h h' : XH) : Prop := ∀ o k, ro o k = true → h' o k = h o k
theorem FR.rf {ro : Nat → Nat → Bool} {h : XH} : FR ro h h := fun _ _ _ => rfl
theorem FR.tr {ro : Nat → Nat → Bool} {h h1 h2 : XH} (a : FR ro h h1) (b : FR ro h1 h2) : FR ro h h2 := fun o k e => (b o k e).trans (a o k e)
theorem FR.up {ro : Nat → Nat → Bool} {h : XH} {o k : Nat} {v : Int} (e : ro o k = false) : FR ro h (j_up h o k v) := fun a b hab => by
  refine up_ne (fun z => ?_)
  obtain ⟨rfl, rfl⟩ := z
  rw [e] at hab
  cases hab
theorem o_ty {fk : Nat → List Nat} {g : XS} {o k ci : Nat} {c : XC} (h : g[o]? = some c) (e : c.1 = 10 + ci) : c_ty fk g o k = (fk ci).getD k 0 := by
  obtain ⟨kd, n, sl⟩ := c
  dsimp only at e
  subst e
  unfold c_ty
  rw [h]
  split
  · rename_i e; simp only [Option.some.injEq, Prod.mk.injEq] at e; omega
  · rename_i e; simp only [Option.some.injEq, Prod.mk.injEq] at e; omega
  · rename_i e; simp only [Option.some.injEq, Prod.mk.injEq] at e; omega
  · rename_i e; simp only [Option.some.injEq, Prod.mk.injEq] at e; omega
  · rename_i kd' _ _ _ _ _ e
    simp only [Option.some.injEq, Prod.mk.injEq] at e
    obtain ⟨rfl, -⟩ := e
    rw [if_pos (by omega)]
    congr 2
    omega
  · rename_i e; cases e
end
section
/-! ===== the third reading of values ===== -/
def isI (t : Nat) : Bool := t == 1 || t == 100
def sx_c (a b c : SX) : Int := if sx_n c = 0 then (sx_n a : Int) else -(sx_n a : Int)
def t_one (x : Option (List Nat)) : Nat := match x with
  | some [t] => t
  | _ => 0
def okI (v : Int) : Bool := decide (-2147483648 ≤ v ∧ v < 2147483648)
def okL (v : Int) : Bool := decide (-9223372036854775808 ≤ v ∧ v < 9223372036854775808)
/-- the tables of the third reading: kinds of fields, of what methods take and give; which methods may be called; which fields may be written -/
abbrev TT : Type := (Nat → List Nat) × (Nat → List Nat) × (Nat → List Nat) × (Nat → Bool) × (Nat → Nat → Bool)
def tyN (T : TT) (τ : List Nat) (t : Nat) (a b c : SX) (A B C : Option (List Nat)) : Option (List Nat) := match t with
  | 1 => match sx_n b with
    | 1 => if sx_c a b c = 0 ∨ sx_c a b c = 1 then some [100] else if okI (sx_c a b c) then some [1] else none
    | 2 => if okL (sx_c a b c) then some [2] else none
    | 3 => if 0 ≤ sx_c a b c ∧ sx_c a b c < 24 then some [3] else none
    | _ => none
  | 3 => let u := τ.getD (sx_n a) 0
    if u = 0 then none else if 300 ≤ u then some [1] else some [u]
  | 4 => let ci := t_one A - 10
    let kd := (T.1 ci).getD (sx_n b) 0
    if 10 ≤ t_one A ∧ t_one A < 100 ∧ (kd = 1 ∨ kd = 2 ∨ kd = 100) then some [kd] else none
  | 5 => let ci := t_one A - 10
    let kd := (T.1 ci).getD (sx_n b) 0
    if 10 ≤ t_one A ∧ t_one A < 100 ∧ 6 ≤ kd ∧ kd < 100 then some [kd] else none
  | 10 => match sx_n c with
    | 0 => if 6 ≤ t_one A ∧ t_one A < 10 then some [1] else none
    | _ => none
  | 13 => if t_one A = 3 then (match sx_n c with
    | 0 => some [2]
    | 1 => some [1]
    | _ => none) else none
  | 14 => if isI (t_one A) ∧ isI (t_one B) then some [1] else none
  | 15 => if t_one A = 2 ∧ t_one B = 2 then some [2] else none
  | 16 => if t_one A = 2 ∧ isI (t_one B) then some [2] else none
  | 17 => match b with
    | .op (.var 1) (.op a' (.op b' c')) => if sx_c a' b' c' ≠ 0 then (if sx_n c < 2 then (if isI (t_one A) ∧ isI (t_one B) then some [1] else none) else if t_one A = 2 ∧ t_one B = 2 then some [2] else none) else none
    | _ => none
  | 18 => match sx_n c with
    | 0 => if isI (t_one A) then some [1] else none
    | 1 => if t_one A = 2 then some [2] else none
    | 2 => if isI (t_one A) then some [2] else none
    | 3 => if t_one A = 2 then some [1] else none
    | _ => if isI (t_one A) then some [1] else none
  | 20 => if isI (t_one A) ∧ isI (t_one B) then some [100] else none
  | 21 => if isI (t_one A) then some [100] else none
  | 22 => if t_one A = 2 ∧ t_one B = 2 then some [100] else none
  | 23 => if t_one A = 3 ∧ t_one B = 3 then some [100] else none
  | 24 => A
  | 25 => if isI (t_one A) ∧ isI (t_one B) then some [100] else none
  | 26 => if isI (t_one A) ∧ isI (t_one B) then some [100] else none
  | 27 => if isI (t_one A) then some [100] else none
  | 28 => let u := t_lub (t_one B) (t_one C)
    if isI (t_one A) ∧ t_one B ≠ 0 ∧ t_one C ≠ 0 ∧ u ≠ 0 then some [u] else none
  | 30 => match A, B with
    | some x, some y => some (x ++ y)
    | _, _ => none
  | 31 => some []
  | 32 => match A with
    | some x => if t_subs x (T.2.1 (sx_n b)) = true ∧ T.2.2.2.1 (sx_n b) = true then some (T.2.2.1 (sx_n b)) else none
    | none => none
  | _ => none
def tyE (T : TT) (τ : List Nat) : SX → Option (List Nat)
  | .op (.var t) (.op a (.op b c)) => tyN T τ t a b c (tyE T τ a) (tyE T τ b) (tyE T τ c)
  | _ => none
/-- what a method that may be called is known to do: it ends, within the kinds, and writes nothing that isn't to be written -/
def TotF (T : TT) (g : XS × Nat × Nat) (ro : Nat → Nat → Bool) (F : XP) (f : Nat) : Prop :=
  ∀ (av : List Int) (h : XH), HT T.1 g.1 h → VL (fun _ => 0) g.1 (T.2.1 f) av → ∃ r h', F f av (g, h) = some (1, r, (g, h')) ∧ HT T.1 g.1 h' ∧ FR ro h h' ∧ VL (fun _ => 0) g.1 (T.2.2.1 f) r
/-- what is said of the shape: no reference is null, each leads to its kind; lengths are ints -/
def GG (fk : Nat → List Nat) (g : XS) : Prop := (∀ (o : Nat) (c : XC), g[o]? = some c → c.1 < 100 ∧ c.2.1 < 2147483648) ∧
  ∀ (o : Nat) (c : XC) (ci k kd : Nat), g[o]? = some c → c.1 = 10 + ci → (fk ci)[k]? = some kd → 6 ≤ kd → kd < 100 → ∃ r, j_rf g o k = some r ∧ 0 ≤ r ∧ ∃ c' : XC, g[r.toNat]? = some c' ∧ c'.1 = kd
def TotE (T : TT) (g : XS × Nat × Nat) (ro : Nat → Nat → Bool) (z : Nat → Int) (τ ts : List Nat) (A : XE) : Prop :=
  ∀ (en : List Int) (h : XH), VL z g.1 τ en → HT T.1 g.1 h → ∃ r h', A en (g, h) = some (r, (g, h')) ∧ HT T.1 g.1 h' ∧ FR ro h h' ∧ VL z g.1 ts r
theorem isI_in {z : Nat → Int} {g : XS} {t : Nat} {v : Int} (h : isI t = true) (hv : TV z g t v) : InI v := by
  simp only [isI, Bool.or_eq_true, beq_iff_eq] at h
  rcases h with rfl | rfl
  · exact hv.1 rfl
  · exact in_bool (hv.2.2.1 rfl)
theorem t_one_some {x : Option (List Nat)} {t : Nat} (h : t_one x = t) (h0 : t ≠ 0) : x = some [t] := by
  unfold t_one at h
  split at h
  · rw [h]
  · exact absurd h.symm h0
theorem isI_sub {t : Nat} (h : isI t = true) : t_sub t 1 = true := by
  simp only [isI, Bool.or_eq_true, beq_iff_eq] at h
  rcases h with rfl | rfl <;> rfl
theorem isI_0 {t : Nat} (h : isI t = true) : t ≠ 0 := by
  rintro rfl
  cases h
theorem j_b01 (b : Bool) : j_b b = 0 ∨ j_b b = 1 := by
  cases b
  · exact Or.inl rfl
  · exact Or.inr rfl
theorem iop_in (k : Nat) (x y : Int) : InI (j_iop k x y) := by
  unfold j_iop
  split <;> first | exact in_i32 _
theorem lop_in (k : Nat) (x y : Int) : InL (j_lop k x y) := by
  unfold j_lop
  split <;> first | exact in_i64 _
theorem lsh_in (k : Nat) (x y : Int) : InL (j_lsh k x y) := by
  unfold j_lsh
  split <;> first | exact in_i64 _
theorem tmod_i {x y : Int} (h : InI x) : InI (x.tmod y) := by
  unfold InI at h ⊢
  rcases (show x < 0 ∨ 0 ≤ x by omega) with hx | hx
  · have h1 : x.tmod y = -((-x).tmod y) := by rw [Int.neg_tmod]; omega
    have h2 := Int.natAbs_tmod x y
    have h4 := Nat.mod_le x.natAbs y.natAbs
    have h3 : 0 ≤ (-x).tmod y := Int.tmod_nonneg _ (by omega)
    omega
  · have h2 := Int.natAbs_tmod x y
    have h4 := Nat.mod_le x.natAbs y.natAbs
    have h3 : 0 ≤ x.tmod y := Int.tmod_nonneg _ hx
    omega
theorem tmod_l {x y : Int} (h : InL x) : InL (x.tmod y) := by
  unfold InL at h ⊢
  rcases (show x < 0 ∨ 0 ≤ x by omega) with hx | hx
  · have h1 : x.tmod y = -((-x).tmod y) := by rw [Int.neg_tmod]; omega
    have h2 := Int.natAbs_tmod x y
    have h4 := Nat.mod_le x.natAbs y.natAbs
    have h3 : 0 ≤ (-x).tmod y := Int.tmod_nonneg _ (by omega)
    omega
  · have h2 := Int.natAbs_tmod x y
    have h4 := Nat.mod_le x.natAbs y.natAbs
    have h3 : 0 ≤ x.tmod y := Int.tmod_nonneg _ hx
    omega
theorem okI_in {v : Int} (h : okI v = true) : InI v := by
  simp only [okI, decide_eq_true_eq] at h
  exact h
theorem okL_in {v : Int} (h : okL v = true) : InL v := by
  simp only [okL, decide_eq_true_eq] at h
  exact h
section TYE
variable {xs : Nat → Int} {L : Nat} {ck : Nat → List Nat} {F : XP} {cW : Nat → Nat → Int} {T : TT} {g : XS × Nat × Nat} {ro : Nat → Nat → Bool} {z : Nat → Int} {τ ts : List Nat}
theorem te_one {A : XE} {t : Nat} (hA : TotE T g ro z τ [t] A) {en : List Int} {h : XH} (h1 : VL z g.1 τ en) (h2 : HT T.1 g.1 h) : ∃ v h', A en (g, h) = some ([v], (g, h')) ∧ HT T.1 g.1 h' ∧ FR ro h h' ∧ TV z g.1 t v := by
  obtain ⟨r, h', e1, e2, e3, e4⟩ := hA en h h1 h2
  obtain ⟨v, rfl, e5⟩ := VL.one e4
  exact ⟨v, h', e1, e2, e3, e5⟩
theorem te_un {A B : XE} {t u : Nat} {f : Int → Int} (hB : ∀ en st, B en st = (A en st).bind fun x => some ([f (j_hd x.1)], x.2)) (hA : TotE T g ro z τ [t] A) (hf : ∀ v, TV z g.1 t v → TV z g.1 u (f v)) : TotE T g ro z τ [u] B := by
  intro en h h1 h2
  obtain ⟨v, h', e1, e2, e3, e4⟩ := te_one hA h1 h2
  refine ⟨[f v], h', ?_, e2, e3, hf v e4, trivial⟩
  rw [hB, e1]
  rfl
theorem te_bin {A B : XE} {op : Int → Int → Int} {t u w : Nat} (hA : TotE T g ro z τ [t] A) (hB : TotE T g ro z τ [u] B) (hf : ∀ v v', TV z g.1 t v → TV z g.1 u v' → TV z g.1 w (op v v')) : TotE T g ro z τ [w] (n_bin op A B) := by
  intro en h h1 h2
  obtain ⟨v, h', e1, e2, e3, e4⟩ := te_one hA h1 h2
  obtain ⟨v', h3, f1, f2, f3, f4⟩ := te_one hB h1 e2
  refine ⟨[op v v'], h3, ?_, f2, e3.tr f3, hf v v' e4 f4, trivial⟩
  unfold n_bin
  rw [e1, Option.bind_some, f1]
  rfl
theorem te_cmp {A B : XE} {op : Int → Int → Bool} {t u : Nat} (hA : TotE T g ro z τ [t] A) (hB : TotE T g ro z τ [u] B) : TotE T g ro z τ [100] (n_cmp op A B) := by
  intro en h h1 h2
  obtain ⟨v, h', e1, e2, e3, e4⟩ := te_one hA h1 h2
  obtain ⟨v', h3, f1, f2, f3, f4⟩ := te_one hB h1 e2
  refine ⟨[j_b (op v v')], h3, ?_, f2, e3.tr f3, TV.bool (j_b01 _), trivial⟩
  unfold n_cmp
  rw [e1, Option.bind_some, f1]
  rfl
theorem te_ife {A B C : XE} {t : Nat} {us : List Nat} (hA : TotE T g ro z τ [t] A) (hB : TotE T g ro z τ us B) (hC : TotE T g ro z τ us C) : TotE T g ro z τ us (n_ife A B C) := by
  intro en h h1 h2
  obtain ⟨v, h', e1, e2, e3, e4⟩ := te_one hA h1 h2
  unfold n_ife
  rw [e1, Option.bind_some]
  dsimp only
  by_cases hv : j_hd [v] = 0
  · rw [if_pos hv]
    obtain ⟨r, h3, f1, f2, f3, f4⟩ := hC en h' h1 e2
    exact ⟨r, h3, f1, f2, e3.tr f3, f4⟩
  · rw [if_neg hv]
    obtain ⟨r, h3, f1, f2, f3, f4⟩ := hB en h' h1 e2
    exact ⟨r, h3, f1, f2, e3.tr f3, f4⟩
theorem te_nz {A : XE} {t : Nat} (hA : TotE T g ro z τ [t] A) : TotE T g ro z τ [100] (n_nz A) := te_un (f := fun v => j_b (decide (v ≠ 0))) (fun _ _ => rfl) hA (fun _ _ => TV.bool (j_b01 _))
theorem te_c {v : Int} {t : Nat} (hv : TV z g.1 t v) : TotE T g ro z τ [t] (fun _ st => some ([v], st)) := fun en h _ h2 => ⟨[v], h, rfl, h2, FR.rf, hv, trivial⟩
theorem te_sub {A : XE} {us : List Nat} (hs : t_subs ts us = true) (hA : TotE T g ro z τ ts A) : TotE T g ro z τ us A := fun en h h1 h2 => by
  obtain ⟨r, h', e1, e2, e3, e4⟩ := hA en h h1 h2
  exact ⟨r, h', e1, e2, e3, VL.sub hs e4⟩
theorem VL.z0 {z' : Nat → Int} : ∀ {ts : List Nat} {vs : List Int}, ts.all (fun t => Nat.blt t 300) = true → VL z g.1 ts vs → VL z' g.1 ts vs
  | [], [], _, _ => trivial
  | t :: ts, v :: vs, h, hv => by
    rw [List.all_cons, Bool.and_eq_true] at h
    have h3 : t < 300 := by
      have h4 := h.1
      simp [Nat.blt] at h4
      omega
    exact ⟨⟨hv.1.1, hv.1.2.1, hv.1.2.2.1, hv.1.2.2.2.1, hv.1.2.2.2.2.1, fun e => absurd e (by omega)⟩, VL.z0 h.2 hv.2⟩
  | [], _ :: _, _, h => h.elim
  | _ :: _, [], _, h => h.elim
theorem getD_s {l : List Nat} {k v : Nat} (h : l.getD k 0 = v) (h0 : v ≠ 0) : l[k]? = some v := by
  rw [List.getD_eq_getElem?_getD] at h
  cases hk : l[k]? with
  | none => rw [hk] at h; exact absurd h.symm h0
  | some x => rw [hk] at h; exact congrArg some h
/-- what the tables are to hold by themselves -/
def TG (T : TT) : Prop := ∀ f, T.2.2.2.1 f = true → (T.2.1 f).all (fun t => Nat.blt t 300) = true ∧ (T.2.2.1 f).all (fun t => Nat.blt t 300) = true
theorem ty_node (hg : GG T.1 g.1) (hTG : TG T) (hcW : ∀ k, k < 24 → InL (cW 0 k) ∧ InI (cW 1 k)) (hF : ∀ f, T.2.2.2.1 f = true → TotF T g ro F f) {t : Nat} {a b c : SX} {A B C : Option (List Nat)} {A' B' C' : XE}
    (hA : ∀ us, A = some us → TotE T g ro z τ us A') (hB : ∀ us, B = some us → TotE T g ro z τ us B') (hC : ∀ us, C = some us → TotE T g ro z τ us C') (hb : ∀ a' b' c', b = .op (.var 1) (.op a' (.op b' c')) → B' = fun _ st => some ([sx_c a' b' c'], st)) (h : tyN T τ t a b c A B C = some ts) : TotE T g ro z τ ts (nodeE xs L ck F cW t a b c A' B' C') := by
  have one : ∀ {X : Option (List Nat)} {X' : XE} {t : Nat}, (∀ us, X = some us → TotE T g ro z τ us X') → t_one X = t → t ≠ 0 → TotE T g ro z τ [t] X' := fun hX e h0 => hX _ (t_one_some e h0)
  unfold tyN at h
  split at h
  · -- constants
    show TotE T g ro z τ ts (fun _ st => some ([sx_c a b c], st))
    split at h
    · by_cases h1 : sx_c a b c = 0 ∨ sx_c a b c = 1
      · rw [if_pos h1] at h; cases h; exact te_c (TV.bool h1)
      · rw [if_neg h1] at h
        obtain ⟨h2, h⟩ := j_if h
        cases h
        exact te_c (TV.int (okI_in h2))
    · obtain ⟨h2, h⟩ := j_if h
      cases h
      exact te_c (TV.long (okL_in h2))
    · obtain ⟨h2, h⟩ := j_if h
      cases h
      exact te_c (TV.word h2)
    · cases h
  · -- locals
    dsimp only at h
    have key : ∀ (en : List Int), VL z g.1 τ en → TV z g.1 (τ.getD (sx_n a) 0) (en.getD (sx_n a) 0) := fun en hv => VL.at (sx_n a) hv
    split at h
    · cases h
    · split at h
      · rename_i h3
        cases h
        exact fun en hh hv hH => ⟨_, hh, rfl, hH, FR.rf, TV.int ((key en hv).2.2.2.2.2 h3).2, trivial⟩
      · cases h
        exact fun en hh hv hH => ⟨_, hh, rfl, hH, FR.rf, key en hv, trivial⟩
  · -- a number of an object
    dsimp only at h
    obtain ⟨⟨h1, h2, h3⟩, h⟩ := j_if h
    cases h
    intro en hh hv hH
    obtain ⟨v, h', e1, e2, e3, e4⟩ := te_one (one hA rfl (by omega)) hv hH
    obtain ⟨v0, cc, hc, hk⟩ := e4.2.2.2.2.1 (by omega) h2
    have ht := o_ty (fk := T.1) (k := sx_n b) (ci := t_one A - 10) hc (by omega)
    refine ⟨[h' v.toNat (sx_n b)], h', ?_, e2, e3, ?_, trivial⟩
    · show (A' en (g, hh)).bind _ = _
      rw [e1]
      rfl
    · have hx := e2 v.toNat (sx_n b)
      rw [ht] at hx
      rcases h3 with h3 | h3 | h3
      · rw [h3] at hx ⊢
        exact TV.int (hx.1 rfl)
      · rw [h3] at hx ⊢
        exact TV.long (hx.2.1 rfl)
      · rw [h3] at hx ⊢
        exact TV.bool (hx.2.2 rfl)
  · -- a reference of an object
    dsimp only at h
    obtain ⟨⟨h1, h2, h3, h4⟩, h⟩ := j_if h
    cases h
    intro en hh hv hH
    obtain ⟨v, h', e1, e2, e3, e4⟩ := te_one (one hA rfl (by omega)) hv hH
    obtain ⟨v0, cc, hc, hk⟩ := e4.2.2.2.2.1 (by omega) h2
    obtain ⟨r, hr, r0, c', hc', hk'⟩ := hg.2 _ cc (t_one A - 10) (sx_n b) _ hc (by omega) (getD_s rfl (by omega)) h3 h4
    refine ⟨[r], h', ?_, e2, e3, TV.ref h3 h4 ⟨r0, c', hc', hk'⟩, trivial⟩
    show (A' en (g, hh)).bind _ = _
    rw [e1, Option.bind_some]
    show (j_rf g.1 v.toNat (sx_n b)).bind _ = _
    rw [hr]
    rfl
  · -- lengths
    split at h
    · rename_i hc0
      obtain ⟨⟨h1, h2⟩, h⟩ := j_if h
      cases h
      intro en hh hv hH
      obtain ⟨v, h', e1, e2, e3, e4⟩ := te_one (one hA rfl (by omega)) hv hH
      obtain ⟨v0, cc, hc, hk⟩ := e4.2.2.2.2.1 (by omega) (by omega)
      have hl : j_len g.1 v.toNat = (cc.2.1 : Int) := by
        unfold j_len
        rw [hc]
      have hl2 := (hg.1 _ cc hc).2
      refine ⟨[j_len g.1 v.toNat], h', ?_, e2, e3, TV.int ?_, trivial⟩
      · show n_alen L (sx_n c) A' en (g, hh) = _
        unfold n_alen
        rw [e1, Option.bind_some, hc0]
        rfl
      · rw [hl]
        unfold InI
        omega
    · cases h
  · -- a Word's own
    obtain ⟨h1, h⟩ := j_ifx h
    have hA3 := one hA h1 (by decide)
    intro en hh hv hH
    obtain ⟨v, h', e1, e2, e3, e4⟩ := te_one hA3 hv hH
    have hw := e4.2.2.2.1 rfl
    have hw2 := hcW v.toNat (by omega)
    have hE : nodeE xs L ck F cW 13 a b c A' B' C' en (g, hh) = some ([cW (sx_n c) v.toNat], (g, h')) := by
      show n_wf cW (sx_n c) A' en (g, hh) = _
      unfold n_wf
      rw [e1]
      rfl
    split at h
    · rename_i hc0
      cases h
      rw [hc0] at hE
      exact ⟨_, h', hE, e2, e3, TV.long hw2.1, trivial⟩
    · rename_i hc0
      cases h
      rw [hc0] at hE
      exact ⟨_, h', hE, e2, e3, TV.int hw2.2, trivial⟩
    · cases h
  · obtain ⟨⟨h1, h2⟩, h⟩ := j_if h
    cases h
    exact te_bin (one hA rfl (isI_0 h1)) (one hB rfl (isI_0 h2)) (fun _ _ _ _ => TV.int (iop_in _ _ _))
  · obtain ⟨⟨h1, h2⟩, h⟩ := j_if h
    cases h
    exact te_bin (one hA h1 (by decide)) (one hB h2 (by decide)) (fun _ _ _ _ => TV.long (lop_in _ _ _))
  · obtain ⟨⟨h1, h2⟩, h⟩ := j_if h
    cases h
    exact te_bin (one hA h1 (by decide)) (one hB rfl (isI_0 h2)) (fun _ _ _ _ => TV.long (lsh_in _ _ _))
  · -- division
    split at h
    · rename_i a' b' c'
      obtain ⟨h0, h⟩ := j_ifx h
      have hB' := hb a' b' c' rfl
      subst hB'
      have key : ∀ {u : Nat}, TotE T g ro z τ [u] A' → (∀ v, TV z g.1 u v → TV z g.1 u (j_div (sx_n c) v (sx_c a' b' c'))) → TotE T g ro z τ [u] (nodeE xs L ck F cW 17 a (.op (.var 1) (.op a' (.op b' c'))) c A' (fun _ st => some ([sx_c a' b' c'], st)) C') := fun {u} hu hf en hh hv hH => by
        obtain ⟨v, h', e1, e2, e3, e4⟩ := te_one hu hv hH
        refine ⟨[j_div (sx_n c) v (sx_c a' b' c')], h', ?_, e2, e3, hf v e4, trivial⟩
        show (A' en (g, hh)).bind _ = _
        rw [e1, Option.bind_some]
        exact if_neg h0
      split at h
      · rename_i hk
        obtain ⟨⟨h1, h2⟩, h⟩ := j_if h
        cases h
        refine key (te_sub (ts := [t_one A]) ((Bool.and_eq_true _ _).mpr ⟨isI_sub h1, rfl⟩) (one hA rfl (isI_0 h1))) (fun v hv => TV.int ?_)
        match sx_n c, hk with
        | 0, _ => exact in_j32 _
        | 1, _ => exact tmod_i (hv.1 rfl)
        | _ + 2, hk => exact absurd hk (by omega)
      · rename_i hk
        obtain ⟨⟨h1, h2⟩, h⟩ := j_if h
        cases h
        refine key (one hA h1 (by decide)) (fun v hv => TV.long ?_)
        match sx_n c, hk with
        | 0, hk => exact absurd (by decide) hk
        | 1, hk => exact absurd (by decide) hk
        | 2, _ => exact in_j64 _
        | _ + 3, _ => exact tmod_l (hv.2.1 rfl)
    · cases h
  · -- one number
    split at h
    · rename_i hk
      obtain ⟨h1, h⟩ := j_if h
      cases h
      exact te_un (f := j_un (sx_n c)) (fun _ _ => rfl) (one hA rfl (isI_0 h1)) (fun v _ => by rw [hk]; exact TV.int (in_j32 _))
    · rename_i hk
      obtain ⟨h1, h⟩ := j_if h
      cases h
      exact te_un (f := j_un (sx_n c)) (fun _ _ => rfl) (one hA h1 (by decide)) (fun v _ => by rw [hk]; exact TV.long (in_j64 _))
    · rename_i hk
      obtain ⟨h1, h⟩ := j_if h
      cases h
      exact te_un (f := j_un (sx_n c)) (fun _ _ => rfl) (one hA rfl (isI_0 h1)) (fun v hv => by
        rw [hk]
        have := isI_in h1 hv
        unfold InI at this
        refine TV.long ?_
        show InL v
        unfold InL
        omega)
    · rename_i hk
      obtain ⟨h1, h⟩ := j_if h
      cases h
      exact te_un (f := j_un (sx_n c)) (fun _ _ => rfl) (one hA h1 (by decide)) (fun v _ => by rw [hk]; exact TV.int (in_j32 _))
    · rename_i k0 k1 k2 k3
      obtain ⟨h1, h⟩ := j_if h
      cases h
      refine te_un (f := j_un (sx_n c)) (fun _ _ => rfl) (one hA rfl (isI_0 h1)) (fun v _ => TV.int ?_)
      unfold j_un
      split
      · exact absurd (by assumption) k0
      · exact absurd (by assumption) k1
      · exact absurd (by assumption) k2
      · exact absurd (by assumption) k3
      · exact in_i32 _
  · obtain ⟨⟨h1, h2⟩, h⟩ := j_if h
    cases h
    exact te_cmp (one hA rfl (isI_0 h1)) (one hB rfl (isI_0 h2))
  · obtain ⟨h1, h⟩ := j_if h
    cases h
    exact te_un (f := fun v => j_b (j_cmp (sx_n c) v 0)) (fun _ _ => rfl) (one hA rfl (isI_0 h1)) (fun _ _ => TV.bool (j_b01 _))
  · obtain ⟨⟨h1, h2⟩, h⟩ := j_if h
    cases h
    exact te_cmp (one hA h1 (by decide)) (one hB h2 (by decide))
  · obtain ⟨⟨h1, h2⟩, h⟩ := j_if h
    cases h
    exact te_cmp (one hA h1 (by decide)) (one hB h2 (by decide))
  · exact hA _ h
  · obtain ⟨⟨h1, h2⟩, h⟩ := j_if h
    cases h
    exact te_ife (one hA rfl (isI_0 h1)) (te_nz (one hB rfl (isI_0 h2))) (te_c (TV.bool (Or.inl rfl)))
  · obtain ⟨⟨h1, h2⟩, h⟩ := j_if h
    cases h
    exact te_ife (one hA rfl (isI_0 h1)) (te_c (TV.bool (Or.inr rfl))) (te_nz (one hB rfl (isI_0 h2)))
  · obtain ⟨h1, h⟩ := j_if h
    cases h
    exact te_un (f := fun v => j_b (decide (v = 0))) (fun _ _ => rfl) (one hA rfl (isI_0 h1)) (fun _ _ => TV.bool (j_b01 _))
  · dsimp only at h
    obtain ⟨⟨h1, h2, h3, h4⟩, h⟩ := j_if h
    cases h
    exact te_ife (one hA rfl (isI_0 h1)) (te_sub (ts := [t_one B]) ((Bool.and_eq_true _ _).mpr ⟨lub_l, rfl⟩) (one hB rfl h2)) (te_sub (ts := [t_one C]) ((Bool.and_eq_true _ _).mpr ⟨lub_r, rfl⟩) (one hC rfl h3))
  · split at h
    · rename_i x y
      cases h
      intro en hh hv hH
      obtain ⟨r, h', e1, e2, e3, e4⟩ := hA x rfl en hh hv hH
      obtain ⟨q, h3, f1, f2, f3, f4⟩ := hB y rfl en h' hv e2
      refine ⟨r ++ q, h3, ?_, f2, e3.tr f3, VL.app e4 f4⟩
      show (A' en (g, hh)).bind _ = _
      rw [e1, Option.bind_some]
      dsimp only
      rw [f1]
      rfl
    · cases h
  · cases h
    exact fun en hh hv hH => ⟨[], hh, rfl, hH, FR.rf, trivial⟩
  · split at h
    · rename_i x
      obtain ⟨⟨h1, h2⟩, h⟩ := j_if h
      cases h
      intro en hh hv hH
      obtain ⟨r, h', e1, e2, e3, e4⟩ := te_sub h1 (hA x rfl) en hh hv hH
      obtain ⟨t1, t2⟩ := hTG _ h2
      obtain ⟨q, h3, f1, f2, f3, f4⟩ := hF _ h2 r h' e2 (VL.z0 t1 e4)
      refine ⟨q, h3, ?_, f2, e3.tr f3, VL.z0 t2 f4⟩
      show n_call F (sx_n b) A' en (g, hh) = _
      unfold n_call
      rw [e1, Option.bind_some]
      dsimp only
      rw [f1, Option.bind_some]
      exact if_pos rfl
    · cases h
  · cases h
end TYE
/-! ===== a division behind a test that its divisor isn't 0 or less ===== -/
def dv_x : SX → Option Nat
  | .op (.var 21) (.op (.op (.var 3) (.op (.var x) (.op _ _))) (.op _ (.var 5))) => some x
  | .op (.var 22) (.op (.op (.var 3) (.op (.var x) (.op _ _))) (.op (.op (.var 1) (.op a' (.op b' c'))) (.var 5))) => if sx_c a' b' c' = 0 then some x else none
  | _ => none
def dv_d (x : Nat) : SX → Bool
  | .op (.var 3) (.op (.var y) (.op _ _)) => y == x
  | .op (.var 18) (.op (.op (.var 3) (.op (.var y) (.op _ _))) (.op _ (.var 2))) => y == x
  | _ => false
def dv_k (T : TT) (τ : List Nat) (k : Nat) (P D : SX) : Nat := if k < 2 then (if isI (t_one (tyE T τ P)) = true ∧ isI (t_one (tyE T τ D)) = true then 1 else 0) else if t_one (tyE T τ P) = 2 ∧ t_one (tyE T τ D) = 2 then 2 else 0
def dv_c (T : TT) (τ : List Nat) (x : Nat) : SX → Nat
  | .op (.var 17) (.op P (.op D (.var k))) => if dv_d x D = true then dv_k T τ k P D else 0
  | .op (.var 18) (.op (.op (.var 17) (.op P (.op D (.var k)))) (.op _ (.var 3))) => if dv_d x D = true ∧ dv_k T τ k P D = 2 then 1 else 0
  | _ => 0
def dv_t (T : TT) (τ : List Nat) (a c : SX) (B : Option (List Nat)) : Option (List Nat) := match dv_x a with
  | some x => let u := t_lub (t_one B) (dv_c T τ x c)
    if isI (t_one (tyE T τ a)) = true ∧ dv_c T τ x c ≠ 0 ∧ t_one B ≠ 0 ∧ u ≠ 0 then some [u] else none
  | none => none
def tyF (T : TT) (τ : List Nat) : SX → Option (List Nat)
  | .op (.var t) (.op a (.op b c)) => if t = 28 then (match tyN T τ 28 a b c (tyF T τ a) (tyF T τ b) (tyF T τ c) with
    | some r => some r
    | none => dv_t T τ a c (tyF T τ b)) else tyN T τ t a b c (tyF T τ a) (tyF T τ b) (tyF T τ c)
  | _ => none
section TYG
variable {xs : Nat → Int} {L : Nat} {ck : Nat → List Nat} {F : XP} {cW : Nat → Nat → Int} {T : TT} {g : XS × Nat × Nat} {ro : Nat → Nat → Bool} {z : Nat → Int} {τ ts : List Nat}
theorem ty_all0 (hg : GG T.1 g.1) (hTG : TG T) (hcW : ∀ k, k < 24 → InL (cW 0 k) ∧ InI (cW 1 k)) (hF : ∀ f, T.2.2.2.1 f = true → TotF T g ro F f) : ∀ (t : SX) (z : Nat → Int) (τ us : List Nat), tyE T τ t = some us → TotE T g ro z τ us (evE xs L ck F cW t)
  | .op (.var t) (.op a (.op b c)), z, τ, us, h => ty_node hg hTG hcW hF (fun us h => ty_all0 hg hTG hcW hF a z τ us h) (fun us h => ty_all0 hg hTG hcW hF b z τ us h) (fun us h => ty_all0 hg hTG hcW hF c z τ us h) (fun a' b' c' e => by subst e; rfl) h
  | .var _, _, _, _, h => by cases h
  | .op (.op _ _) _, _, _, _, h => by cases h
  | .op (.var _) (.var _), _, _, _, h => by cases h
  | .op (.var _) (.op _ (.var _)), _, _, _, h => by cases h
theorem jb_pos {v : Int} (h : j_b (decide (v ≤ 0)) = 0) : 0 < v := by
  by_cases hv : v ≤ 0
  · rw [decide_eq_true hv] at h; cases h
  · omega
/-- the test leaves the counter above 0 -/
theorem dv_x_ok {a : SX} {x : Nat} (h : dv_x a = some x) {en : List Int} {st st' : XT} {v : Int} (e : evE xs L ck F cW a en st = some ([v], st')) (h0 : v = 0) : 0 < en.getD x 0 := by
  unfold dv_x at h
  split at h
  · cases h
    have e2 : some ([j_b (j_cmp 5 (en.getD x 0) 0)], st) = some ([v], st') := e
    have e3 := (Prod.mk.inj (Option.some.inj e2)).1
    have e4 : j_b (j_cmp 5 (en.getD x 0) 0) = v := List.cons.inj e3 |>.1
    rw [h0] at e4
    exact jb_pos e4
  · obtain ⟨h1, h⟩ := j_if h
    cases h
    rename_i a' b' c'
    have e2 : some ([j_b (j_cmp 5 (en.getD x 0) (sx_c a' b' c'))], st) = some ([v], st') := e
    rw [h1] at e2
    have e3 := (Prod.mk.inj (Option.some.inj e2)).1
    have e4 : j_b (j_cmp 5 (en.getD x 0) 0) = v := List.cons.inj e3 |>.1
    rw [h0] at e4
    exact jb_pos e4
  · cases h
theorem dv_d_ok {D : SX} {x : Nat} (h : dv_d x D = true) (en : List Int) (st : XT) : evE xs L ck F cW D en st = some ([en.getD x 0], st) := by
  unfold dv_d at h
  split at h
  · have := beq_iff_eq.mp h
    subst this
    rfl
  · have := beq_iff_eq.mp h
    subst this
    rfl
  · cases h
theorem dv_k_ok (hg : GG T.1 g.1) (hTG : TG T) (hcW : ∀ k, k < 24 → InL (cW 0 k) ∧ InI (cW 1 k)) (hF : ∀ f, T.2.2.2.1 f = true → TotF T g ro F f) {x k : Nat} {P D : SX} (hd : dv_d x D = true) (hk : dv_k T τ k P D ≠ 0) {en : List Int} {h : XH} (hv : VL z g.1 τ en) (hH : HT T.1 g.1 h) (hx : 0 < en.getD x 0) :
    ∃ v h', ((evE xs L ck F cW P en (g, h)).bind fun x => (evE xs L ck F cW D en x.2).bind fun y => if j_hd y.1 = 0 then none else some ([j_div k (j_hd x.1) (j_hd y.1)], y.2)) = some ([v], (g, h')) ∧ HT T.1 g.1 h' ∧ FR ro h h' ∧ TV z g.1 (dv_k T τ k P D) v := by
  have go : ∀ {u : Nat}, TotE T g ro z τ [u] (evE xs L ck F cW P) → ∃ w h', evE xs L ck F cW P en (g, h) = some ([w], (g, h')) ∧ HT T.1 g.1 h' ∧ FR ro h h' ∧ TV z g.1 u w ∧ ((evE xs L ck F cW P en (g, h)).bind fun x => (evE xs L ck F cW D en x.2).bind fun y => if j_hd y.1 = 0 then none else some ([j_div k (j_hd x.1) (j_hd y.1)], y.2)) = some ([j_div k w (en.getD x 0)], (g, h')) := fun hP => by
    obtain ⟨w, h', e1, e2, e3, e4⟩ := te_one hP hv hH
    refine ⟨w, h', e1, e2, e3, e4, ?_⟩
    rw [e1, Option.bind_some]
    dsimp only
    rw [dv_d_ok hd, Option.bind_some]
    refine (if_neg ?_).trans rfl
    show ¬ en.getD x 0 = 0
    omega
  unfold dv_k at hk ⊢
  by_cases h2 : k < 2
  · rw [if_pos h2] at hk ⊢
    by_cases h3 : isI (t_one (tyE T τ P)) = true ∧ isI (t_one (tyE T τ D)) = true
    · rw [if_pos h3] at hk ⊢
      obtain ⟨w, h', e1, e2, e3, e4, e5⟩ := go (te_sub (ts := [t_one (tyE T τ P)]) ((Bool.and_eq_true _ _).mpr ⟨isI_sub h3.1, rfl⟩) (ty_all0 (xs := xs) (L := L) (ck := ck) hg hTG hcW hF P z τ _ (t_one_some rfl (isI_0 h3.1))))
      refine ⟨_, h', e5, e2, e3, TV.int ?_⟩
      match k, h2 with
      | 0, _ => exact in_j32 _
      | 1, _ => exact tmod_i (e4.1 rfl)
      | _ + 2, h => exact absurd h (by omega)
    · rw [if_neg h3] at hk; exact absurd rfl hk
  · rw [if_neg h2] at hk ⊢
    by_cases h3 : t_one (tyE T τ P) = 2 ∧ t_one (tyE T τ D) = 2
    · rw [if_pos h3] at hk ⊢
      obtain ⟨w, h', e1, e2, e3, e4, e5⟩ := go (ty_all0 (xs := xs) (L := L) (ck := ck) hg hTG hcW hF P z τ _ (t_one_some h3.1 (by decide)))
      refine ⟨_, h', e5, e2, e3, TV.long ?_⟩
      match k, h2 with
      | 0, h => exact absurd (by decide) h
      | 1, h => exact absurd (by decide) h
      | 2, _ => exact in_j64 _
      | _ + 3, _ => exact tmod_l (e4.2.1 rfl)
    · rw [if_neg h3] at hk; exact absurd rfl hk
theorem dv_c_ok (hg : GG T.1 g.1) (hTG : TG T) (hcW : ∀ k, k < 24 → InL (cW 0 k) ∧ InI (cW 1 k)) (hF : ∀ f, T.2.2.2.1 f = true → TotF T g ro F f) {x : Nat} {c : SX} (hk : dv_c T τ x c ≠ 0) {en : List Int} {h : XH} (hv : VL z g.1 τ en) (hH : HT T.1 g.1 h) (hx : 0 < en.getD x 0) :
    ∃ v h', evE xs L ck F cW c en (g, h) = some ([v], (g, h')) ∧ HT T.1 g.1 h' ∧ FR ro h h' ∧ TV z g.1 (dv_c T τ x c) v := by
  unfold dv_c at hk ⊢
  split at hk
  · rename_i P D k
    by_cases hd : dv_d x D = true
    · rw [if_pos hd] at hk
      rw [if_pos hd]
      exact dv_k_ok (xs := xs) (L := L) (ck := ck) hg hTG hcW hF hd hk hv hH hx
    · rw [if_neg hd] at hk; exact absurd rfl hk
  · rename_i P D k w
    by_cases hd : dv_d x D = true ∧ dv_k T τ k P D = 2
    · rw [if_pos hd]
      obtain ⟨v, h', e1, e2, e3, e4⟩ := dv_k_ok (xs := xs) (L := L) (ck := ck) hg hTG hcW hF hd.1 (by rw [hd.2]; decide) hv hH hx
      refine ⟨j32 v, h', ?_, e2, e3, TV.int (in_j32 _)⟩
      show ((evE xs L ck F cW P en (g, h)).bind fun x => (evE xs L ck F cW D en x.2).bind fun y => if j_hd y.1 = 0 then none else some ([j_div k (j_hd x.1) (j_hd y.1)], y.2)).bind _ = _
      rw [e1]
      rfl
    · rw [if_neg hd] at hk; exact absurd rfl hk
  · exact absurd rfl hk
theorem ty_all (hg : GG T.1 g.1) (hTG : TG T) (hcW : ∀ k, k < 24 → InL (cW 0 k) ∧ InI (cW 1 k)) (hF : ∀ f, T.2.2.2.1 f = true → TotF T g ro F f) : ∀ (t : SX) (z : Nat → Int) (τ us : List Nat), tyF T τ t = some us → TotE T g ro z τ us (evE xs L ck F cW t)
  | .op (.var t) (.op a (.op b c)), z, τ, us, h => by
    have hA := fun us h => ty_all hg hTG hcW hF a z τ us h
    have hB := fun us h => ty_all hg hTG hcW hF b z τ us h
    have hC := fun us h => ty_all hg hTG hcW hF c z τ us h
    unfold tyF at h
    by_cases h28 : t = 28
    · rw [if_pos h28] at h
      subst h28
      split at h
      · rename_i r hr
        cases h
        exact ty_node hg hTG hcW hF hA hB hC (fun a' b' c' e => by subst e; rfl) hr
      · unfold dv_t at h
        split at h
        · rename_i x hx
          dsimp only at h
          obtain ⟨⟨h1, h2, h3, h4⟩, h⟩ := j_if h
          cases h
          intro en hh hv hH
          obtain ⟨v, h', e1, e2, e3, e4⟩ := te_one (ty_all0 (xs := xs) (L := L) (ck := ck) hg hTG hcW hF a z τ _ (t_one_some rfl (isI_0 h1))) hv hH
          show ∃ r h', n_ife (evE xs L ck F cW a) (evE xs L ck F cW b) (evE xs L ck F cW c) en (g, hh) = some (r, (g, h')) ∧ _
          unfold n_ife
          rw [e1, Option.bind_some]
          dsimp only
          by_cases hv0 : j_hd [v] = 0
          · rw [if_pos hv0]
            obtain ⟨w, h3', f1, f2, f3, f4⟩ := dv_c_ok (xs := xs) (L := L) (ck := ck) hg hTG hcW hF h2 hv e2 (dv_x_ok hx e1 hv0)
            exact ⟨[w], h3', f1, f2, e3.tr f3, TV.sub lub_r f4, trivial⟩
          · rw [if_neg hv0]
            obtain ⟨w, h3', f1, f2, f3, f4⟩ := te_one (hB _ (t_one_some rfl h3)) hv e2
            exact ⟨[w], h3', f1, f2, e3.tr f3, TV.sub lub_l f4, trivial⟩
        · cases h
    · rw [if_neg h28] at h
      exact ty_node hg hTG hcW hF hA hB hC (fun a' b' c' e => by subst e; rfl) h
  | .var _, _, _, _, h => by cases h
  | .op (.op _ _) _, _, _, _, h => by cases h
  | .op (.var _) (.var _), _, _, _, h => by cases h
  | .op (.var _) (.op _ (.var _)), _, _, _, h => by cases h
end TYG
end
section
/-! ===== the third reading of statements ===== -/
abbrev TO : Type := Option (List Nat) × Option (List Nat) × Option (List Nat)
def t_join (x y : Option (List Nat)) : Option (Option (List Nat)) := match x, y with
  | none, y => some y
  | x, none => some x
  | some a, some b => if a.length = b.length then some (some (t_lubs a b)) else none
def t_joins (x y : TO) : Option TO := (t_join x.1 y.1).bind fun a => (t_join x.2.1 y.2.1).bind fun b => (t_join x.2.2 y.2.2).bind fun c => some (a, b, c)
def t_no (i : Nat) (τ : List Nat) : Bool := τ.all fun t => !(t == 300 + i)
/-- a loop's counter: where it lies, does it go up -/
def lp_up (i : Nat) : SX → Bool
  | .op (.var 25) (.op a (.op b _)) => lp_up i a || lp_up i b
  | .op (.var 20) (.op (.op (.var 3) (.op (.var j) (.op _ _))) (.op b (.var k))) => j == i && (k == 2 || (k == 5 && (match b with
    | .op (.var 1) (.op a' (.op b' c')) => sx_n b' == 1 && decide (sx_c a' b' c' < 2147483647)
    | _ => false)))
  | _ => false
def lp_dn (i : Nat) : SX → Bool
  | .op (.var 25) (.op a (.op b _)) => lp_dn i a || lp_dn i b
  | .op (.var 21) (.op (.op (.var 3) (.op (.var j) (.op _ _))) (.op _ (.var k))) => j == i && k == 3
  | _ => false
def lp_inc : SX → Option (Nat × Bool)
  | .op (.var 4) (.op (.var i) (.op (.var 1) (.var c))) => some (i, c == 0)
  | _ => none
/-- the counter's step: behind the body, or the body itself -/
def lp_step (b c : SX) : Option (Nat × Bool × Bool) := match lp_inc c with
  | some (i, u) => some (i, u, true)
  | none => match c with
    | .op (.var 1) (.op _ (.op _ _)) => (match b with
      | .op (.var 20) (.op b' (.op _ _)) => (lp_inc b').map fun q => (q.1, q.2, false)
      | _ => none)
    | _ => none
/-- a loop's body from the kinds at its head: what stands behind it, and where it breaks -/
def ty_lp (T : TT) (i : Nat) (c3 : Bool) (A : List Nat → Option (List Nat)) (B : List Nat → Option TO) : Nat → List Nat → Option TO
  | 0, _ => none
  | n + 1, τ => let τ1 := τ.set i 1
    let th := τ1.set i (300 + i)
    if i < τ.length ∧ t_no i τ1 = true ∧ isI (t_one (A th)) = true ∧ t_sub (τ.getD i 0) 1 = true then
      (if c3 then B th else some (some th, none, none)).bind fun ob => (t_join ob.1 ob.2.2).bind fun e =>
        (t_join (some τ1) ob.2.1).bind fun ex => match ex with
        | none => none
        | some x => if t_no i x = true then match e with
            | none => some (some x, none, none)
            | some w => if w.getD i 0 = 300 + i then
                (if t_subs (w.set i 1) τ1 = true then some (some x, none, none) else if τ1.length = (w.set i 1).length then ty_lp T i c3 A B n (t_lubs τ1 (w.set i 1)) else none) else none
          else none
    else none
def ty_first (A : Option (List Nat)) (x : Option TO) : Option TO := if isI (t_one A) = true then x else none
def tySN (T : TT) (rt : List Nat) (thr : Bool) (t : Nat) (a b c : SX) (A B C : (List Nat → Option TO) × (List Nat → Option TO)) : (List Nat → Option TO) × (List Nat → Option TO) :=
  (fun τ => match t with
  | 1 => some (some τ, none, none)
  | 22 => some (some τ, none, none)
  | 2 => (A.1 τ).bind fun o => match o.1 with
    | none => some o
    | some τ1 => (B.1 τ1).bind fun q => t_joins (none, o.2) q
  | 3 => let u := t_one (tyF T τ b)
    if u ≠ 0 ∧ sx_n a < τ.length then some (some (τ.set (sx_n a) u), none, none) else none
  | 4 => if isI (τ.getD (sx_n a) 0) = true ∨ 300 ≤ τ.getD (sx_n a) 0 then some (some (τ.set (sx_n a) 1), none, none) else none
  | 5 => let ta := t_one (tyF T τ a)
    let kd := (T.1 (ta - 10)).getD (sx_n c) 0
    if 10 ≤ ta ∧ ta < 100 ∧ T.2.2.2.2 (ta - 10) (sx_n c) = true ∧ ((kd = 1 ∧ isI (t_one (tyF T τ b)) = true) ∨ (kd = 2 ∧ t_one (tyF T τ b) = 2)) then some (some τ, none, none) else none
  | 6 => let ta := t_one (tyF T τ a)
    let kd := (T.1 (ta - 10)).getD (sx_n c / 16) 0
    if 10 ≤ ta ∧ ta < 100 ∧ T.2.2.2.2 (ta - 10) (sx_n c / 16) = true ∧ kd = 1 ∧ isI (t_one (tyF T τ b)) = true then some (some τ, none, none) else none
  | 23 => let ta := t_one (tyF T τ a)
    let kd := (T.1 (ta - 10)).getD (sx_n c) 0
    if 10 ≤ ta ∧ ta < 100 ∧ T.2.2.2.2 (ta - 10) (sx_n c) = true ∧ kd = 100 ∧ t_one (tyF T τ b) = 100 then some (some τ, none, none) else none
  | 9 => match tyF T τ a with
    | some _ => some (some τ, none, none)
    | none => none
  | 10 => ty_first (tyF T τ a) ((B.1 τ).bind fun o => t_joins o (some τ, none, none))
  | 11 => ty_first (tyF T τ a) ((B.1 τ).bind fun o => (C.1 τ).bind fun q => t_joins o q)
  | 28 => ty_first (tyF T τ a) ((B.1 τ).bind fun o => t_joins o (none, some τ, none))
  | 12 => match lp_step b c with
    | some (i, u, c3) => if (if u then lp_up i a else lp_dn i a) = true then ty_lp T i c3 (fun t => tyF T t a) B.1 6 τ else none
    | none => none
  | 14 => some (none, some τ, none)
  | 15 => some (none, none, some τ)
  | 16 => match tyF T τ a with
    | some x => if t_subs x rt = true then some (none, none, none) else none
    | none => none
  | 27 => if t_one (tyF T τ a) = 100 ∧ rt = [100] then some (none, none, none) else none
  | 17 => if rt = [] then some (none, none, none) else none
  | 18 => if thr = true then some (none, none, none) else none
  | 19 => ty_first (tyF T τ a) ((B.2 τ).bind fun o => (t_join o.1 o.2.1).bind fun e => some (e, none, o.2.2))
  | 20 => A.1 τ
  | _ => none,
  fun τ => match t with
  | 25 => (B.1 τ).bind fun o => if o.1 = none then (C.2 τ).bind fun q => t_joins o q else none
  | 26 => A.1 τ
  | _ => none)
def tyS (T : TT) (rt : List Nat) (thr : Bool) : SX → (List Nat → Option TO) × (List Nat → Option TO)
  | .op (.var t) (.op a (.op b c)) => tySN T rt thr t a b c (tyS T rt thr a) (tyS T rt thr b) (tyS T rt thr c)
  | _ => (fun _ => none, fun _ => none)
/-- a method by itself -/
def tyM (T : TT) (M : Nat → XM) (THR : Nat → Bool) (f : Nat) : Bool := match (tyS T (T.2.2.1 f) (THR f) (M f).2.2.2.2).1 (j_pad 0 (M f).2.1 (j_layT (T.2.1 f))) with
  | some (none, none, none) => (j_layT (T.2.1 f)).length ≤ (M f).2.1
  | _ => false
end
section
/-! ===== the third reading of statements is right ===== -/
def OutS (g g' : XS × Nat × Nat) (z : Nat → Int) (rt : List Nat) (thr : Bool) (o : TO) (c : Nat) (vals en' : List Int) : Prop :=
  (c = 0 ∧ g' = g ∧ ∃ τ', o.1 = some τ' ∧ VL z g.1 τ' en') ∨ (c = 1 ∧ g' = g ∧ VL z g.1 rt vals) ∨ (c = 2 ∧ g' = g ∧ ∃ τ', o.2.1 = some τ' ∧ VL z g.1 τ' en') ∨ (c = 3 ∧ g' = g ∧ ∃ τ', o.2.2 = some τ' ∧ VL z g.1 τ' en') ∨ (c = 4 ∧ thr = true ∧ g' = (g.1, g.2.1 + 1, g.2.2 + 6))
def TotS (T : TT) (g : XS × Nat × Nat) (ro : Nat → Nat → Bool) (z : Nat → Int) (rt : List Nat) (thr : Bool) (τ : List Nat) (o : TO) (A : XR) : Prop :=
  ∀ (en : List Int) (h : XH), VL z g.1 τ en → HT T.1 g.1 h → ∃ c vals en' g' h', A en (g, h) = some (c, vals, en', (g', h')) ∧ HT T.1 g.1 h' ∧ FR ro h h' ∧ OutS g g' z rt thr o c vals en'
theorem sub_rf : ∀ {x : List Nat}, t_subs x x = true
  | [] => rfl
  | a :: x => (Bool.and_eq_true _ _).mpr ⟨by simp [t_sub], sub_rf⟩
theorem join_l {x y r : Option (List Nat)} (h : t_join x y = some r) {τ : List Nat} (e : x = some τ) : ∃ τ', r = some τ' ∧ t_subs τ τ' = true := by
  subst e
  cases y with
  | none => cases h; exact ⟨τ, rfl, sub_rf⟩
  | some b =>
    obtain ⟨h1, h⟩ := j_if h
    cases h
    exact ⟨_, rfl, lubs_l h1⟩
theorem join_r {x y r : Option (List Nat)} (h : t_join x y = some r) {τ : List Nat} (e : y = some τ) : ∃ τ', r = some τ' ∧ t_subs τ τ' = true := by
  subst e
  cases x with
  | none => cases h; exact ⟨τ, rfl, sub_rf⟩
  | some b =>
    obtain ⟨h1, h⟩ := j_if h
    cases h
    exact ⟨_, rfl, lubs_r h1⟩
def leO (o o' : TO) : Prop := (∀ τ, o.1 = some τ → ∃ τ', o'.1 = some τ' ∧ t_subs τ τ' = true) ∧ (∀ τ, o.2.1 = some τ → ∃ τ', o'.2.1 = some τ' ∧ t_subs τ τ' = true) ∧ ∀ τ, o.2.2 = some τ → ∃ τ', o'.2.2 = some τ' ∧ t_subs τ τ' = true
theorem joins_l {x y r : TO} (h : t_joins x y = some r) : leO x r := by
  obtain ⟨a, h1, h⟩ := j_bd h
  obtain ⟨b, h2, h⟩ := j_bd h
  obtain ⟨c, h3, h⟩ := j_bd h
  cases h
  exact ⟨fun τ e => join_l h1 e, fun τ e => join_l h2 e, fun τ e => join_l h3 e⟩
theorem joins_r {x y r : TO} (h : t_joins x y = some r) : leO y r := by
  obtain ⟨a, h1, h⟩ := j_bd h
  obtain ⟨b, h2, h⟩ := j_bd h
  obtain ⟨c, h3, h⟩ := j_bd h
  cases h
  exact ⟨fun τ e => join_r h1 e, fun τ e => join_r h2 e, fun τ e => join_r h3 e⟩
theorem OutS.mono {g g' : XS × Nat × Nat} {z : Nat → Int} {rt : List Nat} {thr : Bool} {o o' : TO} {c : Nat} {vals en' : List Int} (hle : leO o o') (h : OutS g g' z rt thr o c vals en') : OutS g g' z rt thr o' c vals en' := by
  rcases h with ⟨h1, h2, τ, h3, h4⟩ | h | ⟨h1, h2, τ, h3, h4⟩ | ⟨h1, h2, τ, h3, h4⟩ | h
  · obtain ⟨τ', e1, e2⟩ := hle.1 τ h3
    exact Or.inl ⟨h1, h2, τ', e1, VL.sub e2 h4⟩
  · exact Or.inr (Or.inl h)
  · obtain ⟨τ', e1, e2⟩ := hle.2.1 τ h3
    exact Or.inr (Or.inr (Or.inl ⟨h1, h2, τ', e1, VL.sub e2 h4⟩))
  · obtain ⟨τ', e1, e2⟩ := hle.2.2 τ h3
    exact Or.inr (Or.inr (Or.inr (Or.inl ⟨h1, h2, τ', e1, VL.sub e2 h4⟩)))
  · exact Or.inr (Or.inr (Or.inr (Or.inr h)))
theorem sub_len : ∀ {x y : List Nat}, t_subs x y = true → x.length = y.length
  | [], [], _ => rfl
  | _ :: _, _ :: _, h => by rw [List.length_cons, List.length_cons, sub_len ((Bool.and_eq_true _ _).mp h).2]
  | [], _ :: _, h => by cases h
  | _ :: _, [], h => by cases h
theorem VL.put {z : Nat → Int} {g : XS} {t : Nat} : ∀ {ts : List Nat} {vs : List Int} (i : Nat), i < ts.length → VL z g ts vs → TV z g t (vs.getD i 0) → VL z g (ts.set i t) vs
  | _ :: _, _ :: _, 0, _, h, ht => ⟨ht, h.2⟩
  | _ :: _, _ :: _, i + 1, hl, h, ht => ⟨h.1, VL.put i (by simpa using hl) h.2 ht⟩
  | [], [], _, hl, _, _ => absurd hl (by simp)
  | [], _ :: _, _, _, h, _ => h.elim
  | _ :: _, [], _, _, h, _ => h.elim
/-- the numbers that kinds name may be named anew, but for those that are used -/
theorem VL.zch {z z' : Nat → Int} {g : XS} {i : Nat} (hz : ∀ k, k ≠ i → z' k = z k) : ∀ {ts : List Nat} {vs : List Int}, t_no i ts = true → VL z g ts vs → VL z' g ts vs
  | [], [], _, _ => trivial
  | t :: ts, v :: vs, h, hv => by
    rw [t_no, List.all_cons, Bool.and_eq_true] at h
    have h1 : t ≠ 300 + i := by simpa using h.1
    refine ⟨⟨hv.1.1, hv.1.2.1, hv.1.2.2.1, hv.1.2.2.2.1, hv.1.2.2.2.2.1, fun e => ?_⟩, VL.zch hz h.2 hv.2⟩
    have h2 := hv.1.2.2.2.2.2 e
    rw [hz (t - 300) (by omega)]
    exact h2
  | [], _ :: _, _, h => h.elim
  | _ :: _, [], _, h => h.elim
theorem t_setD {l : List Int} {i : Nat} {v : Int} (h : i < l.length) : (l.set i v).getD i 0 = v := by
  rw [List.getD_eq_getElem?_getD, List.getElem?_set]
  simp [h]
section TYS
variable {T : TT} {g : XS × Nat × Nat} {ro : Nat → Nat → Bool} {z : Nat → Int} {rt : List Nat} {thr : Bool} {τ : List Nat} {o : TO}
/-- how far the counter has to go -/
def mea (u : Bool) (v : Int) : Nat := if u then (2147483648 - v).toNat else (v + 1).toNat
def dir (u : Bool) : Int := if u then 1 else -1
theorem mea_lt {u : Bool} {v : Int} (hv : InI v) (h : if u = true then v < 2147483647 else 0 ≤ v) : mea u (j32 (v + dir u)) < mea u v := by
  unfold InI at hv
  unfold mea dir
  cases u with
  | true =>
    simp only [if_true] at h ⊢
    rw [j32_in ⟨by omega, by omega⟩]
    omega
  | false =>
    simp only [Bool.false_eq_true, if_false] at h ⊢
    rw [j32_in ⟨by omega, by omega⟩]
    omega
theorem mea_b {u : Bool} {v : Int} (hv : InI v) : mea u v < 4294967300 := by
  unfold InI at hv
  unfold mea
  cases u <;> simp <;> omega
/-- a loop whose head keeps its kinds and whose counter goes its way -/
theorem lp_run {i : Nat} {u : Bool} {τ1 x : List Nat} {C' : XE} {B' P' : XR} (hi : i < τ1.length) (h1 : τ1.getD i 0 = 1) (hx : t_subs τ1 x = true)
    (hC : ∀ en h, VL z g.1 τ1 en → HT T.1 g.1 h → ∃ v h', C' en (g, h) = some ([v], (g, h')) ∧ HT T.1 g.1 h' ∧ FR ro h h' ∧ (v ≠ 0 → if u = true then en.getD i 0 < 2147483647 else 0 ≤ en.getD i 0))
    (hB : ∀ en h, VL z g.1 τ1 en → HT T.1 g.1 h → ∃ c vals en' g' h', B' en (g, h) = some (c, vals, en', (g', h')) ∧ HT T.1 g.1 h' ∧ FR ro h h' ∧
      (((c = 0 ∨ c = 3) ∧ g' = g ∧ ∃ en2, P' en' (g, h') = some (0, [], en2, (g, h')) ∧ VL z g.1 τ1 en2 ∧ en2.getD i 0 = j32 (en.getD i 0 + dir u)) ∨ (c = 2 ∧ g' = g ∧ VL z g.1 x en') ∨ (c = 1 ∧ g' = g ∧ VL z g.1 rt vals) ∨ (c = 4 ∧ thr = true ∧ g' = (g.1, g.2.1 + 1, g.2.2 + 6)))) :
    ∀ (k m : Nat) (en : List Int) (h : XH), VL z g.1 τ1 en → HT T.1 g.1 h → mea u (en.getD i 0) ≤ m → m < k → ∃ c vals en' g' h', s_loop C' B' P' k en (g, h) = some (c, vals, en', (g', h')) ∧ HT T.1 g.1 h' ∧ FR ro h h' ∧ OutS g g' z rt thr (some x, none, none) c vals en' := by
  intro k
  induction k with
  | zero => exact fun m en h _ _ _ hk => absurd hk (by omega)
  | succ k ih =>
    intro m en h hv hH hm hk
    obtain ⟨v, h2, e1, e2, e3, e4⟩ := hC en h hv hH
    by_cases hv0 : v = 0
    · refine ⟨0, [], en, g, h2, ?_, e2, e3, Or.inl ⟨rfl, rfl, x, rfl, VL.sub hx hv⟩⟩
      unfold s_loop
      rw [e1, Option.bind_some]
      exact if_pos hv0
    · obtain ⟨c, vals, en', g', h3, f1, f2, f3, f4⟩ := hB en h2 hv e2
      have hs : s_loop C' B' P' (k + 1) en (g, h) = (if c = 0 ∨ c = 3 then (P' en' (g', h3)).bind fun q => if q.1 = 0 then s_loop C' B' P' k q.2.2.1 q.2.2.2 else none else if c = 2 then some (0, [], en', (g', h3)) else some (c, vals, en', (g', h3))) := by
        conv => lhs; unfold s_loop
        rw [e1, Option.bind_some]
        refine (if_neg hv0).trans ?_
        dsimp only
        rw [f1, Option.bind_some]
      rcases f4 with ⟨hc, rfl, en2, p1, p2, p3⟩ | ⟨rfl, rfl, p1⟩ | ⟨rfl, rfl, p1⟩ | ⟨rfl, p1, p2⟩
      · have hin : InI (en.getD i 0) := by
          have := VL.at i hv
          rw [h1] at this
          exact this.1 rfl
        have hml := mea_lt hin (e4 hv0)
        cases m with
        | zero => exact absurd hml (by omega)
        | succ m =>
          obtain ⟨c9, v9, n9, g9, h9, q1, q2, q3, q4⟩ := ih m en2 h3 p2 f2 (by rw [p3]; omega) (by omega)
          refine ⟨c9, v9, n9, g9, h9, ?_, q2, (e3.tr f3).tr q3, q4⟩
          rw [hs, if_pos hc, p1, Option.bind_some]
          exact q1
      · refine ⟨0, [], en', g', h3, ?_, f2, e3.tr f3, Or.inl ⟨rfl, rfl, x, rfl, p1⟩⟩
        rw [hs]
        rfl
      · refine ⟨1, vals, en', g', h3, ?_, f2, e3.tr f3, Or.inr (Or.inl ⟨rfl, rfl, p1⟩)⟩
        rw [hs]
        rfl
      · refine ⟨4, vals, en', g', h3, ?_, f2, e3.tr f3, Or.inr (Or.inr (Or.inr (Or.inr ⟨rfl, p1, p2⟩)))⟩
        rw [hs]
        rfl
theorem lp_ok {i : Nat} {u c3 : Bool} {K : Nat} {TA : List Nat → Option (List Nat)} {TB : List Nat → Option TO} {C' : XE} {B' P' : XR} (hK : 4294967300 ≤ K) (hrt : rt.all (fun t => Nat.blt t 300) = true)
    (hA : ∀ z τ us, TA τ = some us → TotE T g ro z τ us C')
    (hN : ∀ en h v h', C' en (g, h) = some ([v], (g, h')) → v ≠ 0 → HT T.1 g.1 h → InI (en.getD i 0) → ∀ z τ us, TA τ = some us → VL z g.1 τ en → if u = true then en.getD i 0 < 2147483647 else 0 ≤ en.getD i 0)
    (hB : c3 = true → ∀ z τ o, TB τ = some o → TotS T g ro z rt thr τ o B')
    (hP : c3 = true → ∀ en st, P' en st = some (0, [], en.set i (j32 (en.getD i 0 + dir u)), st))
    (hB2 : c3 = false → ∀ en st, B' en st = some (0, [], en.set i (j32 (en.getD i 0 + dir u)), st))
    (hP2 : c3 = false → ∀ en st, P' en st = some (0, [], en, st)) : ∀ (n : Nat) (τ : List Nat) (o : TO), ty_lp T i c3 TA TB n τ = some o → ∀ z, TotS T g ro z rt thr τ o (s_loop C' B' P' K)
  | 0, _, _, h, _ => by cases h
  | n + 1, τ, o, h, z => by
    unfold ty_lp at h
    dsimp only at h
    obtain ⟨⟨c1, c2, c4, c5⟩, h⟩ := j_ifx h
    obtain ⟨ob, b1, h⟩ := j_bd h
    obtain ⟨e, b2, h⟩ := j_bd h
    obtain ⟨ex, b3, h⟩ := j_bd h
    have hlen : i < (τ.set i 1).length := by rw [List.length_set]; exact c1
    have hone : (τ.set i 1).getD i 0 = 1 := by
      rw [List.getD_eq_getElem?_getD, List.getElem?_set]
      simp [c1]
    have hto : ∀ en, VL z g.1 τ en → VL z g.1 (τ.set i 1) en := fun en hv => VL.put i c1 hv (TV.sub c5 (VL.at i hv))
    obtain ⟨x, hx1, hx2⟩ := join_l b3 rfl
    subst hx1
    dsimp only at h
    obtain ⟨c6, h⟩ := j_ifx h
    -- at the head, with the counter named
    have hz : ∀ (en : List Int) (k : Nat), k ≠ i → (fun k => if k = i then en.getD i 0 else z k) k = z k := fun en k hk => if_neg hk
    have hth : ∀ en, VL z g.1 (τ.set i 1) en → VL (fun k => if k = i then en.getD i 0 else z k) g.1 ((τ.set i 1).set i (300 + i)) en := fun en hv => by
      have hin : InI (en.getD i 0) := by
        have := VL.at i hv
        rw [hone] at this
        exact this.1 rfl
      refine VL.put i hlen (VL.zch (hz en) c2 hv) ⟨fun e => absurd e (by omega), fun e => absurd e (by omega), fun e => absurd e (by omega), fun e => absurd e (by omega), fun _ e => absurd e (by omega), fun _ => ⟨?_, hin⟩⟩
      rw [Nat.add_sub_cancel_left]
      exact (if_pos rfl).symm
    have hC : ∀ en h, VL z g.1 (τ.set i 1) en → HT T.1 g.1 h → ∃ v h', C' en (g, h) = some ([v], (g, h')) ∧ HT T.1 g.1 h' ∧ FR ro h h' ∧ (v ≠ 0 → if u = true then en.getD i 0 < 2147483647 else 0 ≤ en.getD i 0) := fun en h hv hH => by
      have hA1 := t_one_some (x := TA ((τ.set i 1).set i (300 + i))) rfl (isI_0 c4)
      obtain ⟨v, h', e1, e2, e3, e4⟩ := te_one (hA _ _ _ hA1) (hth en hv) hH
      have hin : InI (en.getD i 0) := by
        have := VL.at i hv
        rw [hone] at this
        exact this.1 rfl
      exact ⟨v, h', e1, e2, e3, fun hv0 => hN en h v h' e1 hv0 hH hin _ _ _ hA1 (hth en hv)⟩
    have hrun : ∀ (w : Option (List Nat)), (∀ w', w = some w' → w'.getD i 0 = 300 + i ∧ t_subs (w'.set i 1) (τ.set i 1) = true) → e = w → TotS T g ro z rt thr τ (some x, none, none) (s_loop C' B' P' K) := fun w hw he en h hv hH => by
      have hv1 := hto en hv
      have hin0 : InI (en.getD i 0) := by
        have := VL.at i hv1
        rw [hone] at this
        exact this.1 rfl
      refine lp_run hlen hone hx2 hC (fun en hp hv hH => ?_) K _ en h hv1 hH (Nat.le_refl _) (Nat.lt_of_lt_of_le (mea_b hin0) hK)
      have hin : InI (en.getD i 0) := by
        have := VL.at i hv
        rw [hone] at this
        exact this.1 rfl
      -- what stands behind the body
      have hback : ∀ (w' : List Nat) (en1 : List Int), w = some w' → VL (fun k => if k = i then en.getD i 0 else z k) g.1 w' en1 → VL z g.1 (τ.set i 1) (en1.set i (j32 (en1.getD i 0 + dir u))) ∧ (en1.set i (j32 (en1.getD i 0 + dir u))).getD i 0 = j32 (en.getD i 0 + dir u) := fun w' en1 hw1 hv1 => by
        obtain ⟨a1, a2⟩ := hw w' hw1
        have hat := VL.at i hv1
        rw [a1] at hat
        have heq : en1.getD i 0 = en.getD i 0 := by
          have h9 := (hat.2.2.2.2.2 (by omega)).1
          rw [Nat.add_sub_cancel_left] at h9
          exact h9.trans (if_pos rfl)
        have hl1 : i < en1.length := by
          rw [VL.len hv1]
          have hl2 : (w'.set i 1).length = (τ.set i 1).length := sub_len a2
          rw [List.length_set] at hl2
          omega
        refine ⟨VL.zch (fun k hk => (if_neg hk).symm) c2 (VL.sub a2 (VL.set i hv1 (TV.int (in_j32 _)))), ?_⟩
        rw [t_setD hl1, heq]
      cases c3 with
      | true =>
        have hb1 : TB ((τ.set i 1).set i (300 + i)) = some ob := b1
        obtain ⟨c, vals, en', g', h', f1, f2, f3, f4⟩ := hB rfl _ _ _ hb1 en hp (hth en hv) hH
        refine ⟨c, vals, en', g', h', f1, f2, f3, ?_⟩
        rcases f4 with ⟨k1, k2, τ', k3, k4⟩ | ⟨k1, k2, k3⟩ | ⟨k1, k2, τ', k3, k4⟩ | ⟨k1, k2, τ', k3, k4⟩ | k
        · obtain ⟨w', j1, j2⟩ := join_l b2 k3
          obtain ⟨m1, m2⟩ := hback w' en' (he ▸ j1) (VL.sub j2 k4)
          exact Or.inl ⟨Or.inl k1, k2, _, hP rfl _ _, m1, m2⟩
        · exact Or.inr (Or.inr (Or.inl ⟨k1, k2, VL.z0 hrt k3⟩))
        · obtain ⟨x', j1, j2⟩ := join_r b3 k3
          cases j1
          exact Or.inr (Or.inl ⟨k1, k2, VL.zch (fun k hk => (if_neg hk).symm) c6 (VL.sub j2 k4)⟩)
        · obtain ⟨w', j1, j2⟩ := join_r b2 k3
          obtain ⟨m1, m2⟩ := hback w' en' (he ▸ j1) (VL.sub j2 k4)
          exact Or.inl ⟨Or.inr k1, k2, _, hP rfl _ _, m1, m2⟩
        · exact Or.inr (Or.inr (Or.inr k))
      | false =>
        have hb1 : some (some ((τ.set i 1).set i (300 + i)), none, none) = some ob := b1
        cases hb1
        obtain ⟨w', j1, j2⟩ := join_l b2 rfl
        obtain ⟨m1, m2⟩ := hback w' en (he ▸ j1) (VL.sub j2 (hth en hv))
        exact ⟨0, [], _, g, hp, hB2 rfl _ _, hH, FR.rf, Or.inl ⟨Or.inl rfl, rfl, _, hP2 rfl _ _, m1, m2⟩⟩
    cases e with
    | none =>
      cases h
      exact hrun none (fun w' hw => by cases hw) rfl
    | some w =>
      dsimp only at h
      obtain ⟨d1, h⟩ := j_ifx h
      by_cases d2 : t_subs (w.set i 1) (τ.set i 1) = true
      · rw [if_pos d2] at h
        cases h
        exact hrun (some w) (fun w' hw => by cases hw; exact ⟨d1, d2⟩) rfl
      · rw [if_neg d2] at h
        obtain ⟨d3, h⟩ := j_ifx h
        have ih := lp_ok hK hrt hA hN hB hP hB2 hP2 n _ _ h z
        exact fun en hh hv hH => ih en hh (VL.sub (lubs_l d3) (hto en hv)) hH
end TYS
end
section
/-! ===== the third reading: counters, statements, methods ===== -/
section TYT
variable {xs : Nat → Int} {L K : Nat} {ck : Nat → List Nat} {F : XP} {cW : Nat → Nat → Int} {T : TT} {g : XS × Nat × Nat} {ro : Nat → Nat → Bool} {rt : List Nat} {thr : Bool}
theorem j_b_ne {b : Bool} (h : j_b b ≠ 0) : b = true := by
  cases b
  · exact absurd rfl h
  · rfl
theorem some_one {α β : Type} {a b : α} {x y : β} (h : some ([a], x) = some ([b], y)) : a = b ∧ x = y := by
  cases h
  exact ⟨rfl, rfl⟩
/-- a conjunction that holds: both of its parts -/
theorem and_parts {z : Nat → Int} {τ : List Nat} {A B : XE} {ta tb : Nat} (hA : TotE T g ro z τ [ta] A) (hB : TotE T g ro z τ [tb] B) {en : List Int} {h h' : XH} {v : Int} (hv : VL z g.1 τ en) (hH : HT T.1 g.1 h) (e : n_ife A (n_nz B) (fun _ st => some ([0], st)) en (g, h) = some ([v], (g, h'))) (h0 : v ≠ 0) :
    ∃ va h1, A en (g, h) = some ([va], (g, h1)) ∧ va ≠ 0 ∧ HT T.1 g.1 h1 ∧ ∃ vb h2, B en (g, h1) = some ([vb], (g, h2)) ∧ vb ≠ 0 := by
  obtain ⟨va, h1, a1, a2, a3, a4⟩ := te_one hA hv hH
  obtain ⟨vb, h2, b1, b2, b3, b4⟩ := te_one hB hv a2
  unfold n_ife at e
  rw [a1, Option.bind_some] at e
  dsimp only at e
  by_cases hz : j_hd [va] = 0
  · rw [if_pos hz] at e
    exact absurd (some_one e).1.symm h0
  · rw [if_neg hz] at e
    unfold n_nz at e
    rw [b1, Option.bind_some] at e
    have e1 := (some_one e).1
    refine ⟨va, h1, a1, hz, a2, vb, h2, b1, ?_⟩
    rw [← e1] at h0
    exact of_decide_eq_true (j_b_ne h0)
theorem tyE_25 {τ us : List Nat} {a b c : SX} (h : tyF T τ (.op (.var 25) (.op a (.op b c))) = some us) : isI (t_one (tyF T τ a)) = true ∧ isI (t_one (tyF T τ b)) = true := (j_if h).1
theorem tyE_20 {τ us : List Nat} {a b c : SX} (h : tyF T τ (.op (.var 20) (.op a (.op b c))) = some us) : isI (t_one (tyF T τ a)) = true ∧ isI (t_one (tyF T τ b)) = true := (j_if h).1
theorem up_ok (hg : GG T.1 g.1) (hTG : TG T) (hcW : ∀ k, k < 24 → InL (cW 0 k) ∧ InI (cW 1 k)) (hF : ∀ f, T.2.2.2.1 f = true → TotF T g ro F f) {i : Nat} {z : Nat → Int} {τ : List Nat} {en : List Int} (hv : VL z g.1 τ en) : ∀ (t : SX) (h h' : XH) (v : Int) (us : List Nat), lp_up i t = true → tyF T τ t = some us → HT T.1 g.1 h → evE xs L ck F cW t en (g, h) = some ([v], (g, h')) → v ≠ 0 → en.getD i 0 < 2147483647
  | .op (.var t) (.op a (.op b c)), h, h', v, us, hu, hT, hH, e, h0 => by
    by_cases h25 : t = 25
    · subst h25
      obtain ⟨t1, t2⟩ := tyE_25 hT
      have hA := ty_all (xs := xs) (L := L) (ck := ck) hg hTG hcW hF a z τ _ (t_one_some rfl (isI_0 t1))
      have hB := ty_all (xs := xs) (L := L) (ck := ck) hg hTG hcW hF b z τ _ (t_one_some rfl (isI_0 t2))
      obtain ⟨va, h1, a1, a2, a3, vb, h2, b1, b2⟩ := and_parts hA hB hv hH e h0
      have hu2 : (lp_up i a || lp_up i b) = true := hu
      rcases (Bool.or_eq_true _ _).mp hu2 with q | q
      · exact up_ok hg hTG hcW hF hv a h h1 va _ q (t_one_some rfl (isI_0 t1)) hH a1 a2
      · exact up_ok hg hTG hcW hF hv b h1 h2 vb _ q (t_one_some rfl (isI_0 t2)) a3 b1 b2
    · unfold lp_up at hu
      split at hu
      · rename_i e9
        cases e9
        exact absurd rfl h25
      · rename_i j w w2 b9 k e9
        cases e9
        obtain ⟨t1, t2⟩ := tyE_20 hT
        have hB := ty_all (xs := xs) (L := L) (ck := ck) hg hTG hcW hF b z τ _ (t_one_some rfl (isI_0 t2))
        obtain ⟨vb, h2, b1, b2, b3, b4⟩ := te_one hB hv hH
        have hin := isI_in t2 b4
        have e2 : n_cmp (j_cmp k) (fun en st => some ([en.getD j 0], st)) (evE xs L ck F cW b) en (g, h) = some ([v], (g, h')) := e
        unfold n_cmp at e2
        rw [Option.bind_some] at e2
        dsimp only at e2
        rw [b1, Option.bind_some] at e2
        have e3 : j_b (j_cmp k (en.getD j 0) vb) = v := (some_one e2).1
        rw [← e3] at h0
        have e4 := j_b_ne h0
        simp only [Bool.and_eq_true, Bool.or_eq_true, beq_iff_eq] at hu
        obtain ⟨rfl, hk⟩ := hu
        unfold InI at hin
        rcases hk with rfl | ⟨rfl, hk⟩
        · have e5 : en.getD j 0 < vb := of_decide_eq_true e4
          omega
        · have e5 : en.getD j 0 ≤ vb := of_decide_eq_true e4
          split at hk
          · rename_i a' b' c'
            simp only [Bool.and_eq_true, beq_iff_eq, decide_eq_true_eq] at hk
            have e6 : evE xs L ck F cW (.op (.var 1) (.op a' (.op b' c'))) en (g, h) = some ([sx_c a' b' c'], (g, h)) := rfl
            have e7 := (some_one (b1.symm.trans e6)).1
            omega
          · cases hk
      · cases hu
  | .var _, _, _, _, _, _, hT, _, _, _ => by cases hT
  | .op (.op _ _) _, _, _, _, _, _, hT, _, _, _ => by cases hT
  | .op (.var _) (.var _), _, _, _, _, _, hT, _, _, _ => by cases hT
  | .op (.var _) (.op _ (.var _)), _, _, _, _, _, hT, _, _, _ => by cases hT
theorem dn_ok (hg : GG T.1 g.1) (hTG : TG T) (hcW : ∀ k, k < 24 → InL (cW 0 k) ∧ InI (cW 1 k)) (hF : ∀ f, T.2.2.2.1 f = true → TotF T g ro F f) {i : Nat} {z : Nat → Int} {τ : List Nat} {en : List Int} (hv : VL z g.1 τ en) : ∀ (t : SX) (h h' : XH) (v : Int) (us : List Nat), lp_dn i t = true → tyF T τ t = some us → HT T.1 g.1 h → evE xs L ck F cW t en (g, h) = some ([v], (g, h')) → v ≠ 0 → 0 ≤ en.getD i 0
  | .op (.var t) (.op a (.op b c)), h, h', v, us, hu, hT, hH, e, h0 => by
    by_cases h25 : t = 25
    · subst h25
      obtain ⟨t1, t2⟩ := tyE_25 hT
      have hA := ty_all (xs := xs) (L := L) (ck := ck) hg hTG hcW hF a z τ _ (t_one_some rfl (isI_0 t1))
      have hB := ty_all (xs := xs) (L := L) (ck := ck) hg hTG hcW hF b z τ _ (t_one_some rfl (isI_0 t2))
      obtain ⟨va, h1, a1, a2, a3, vb, h2, b1, b2⟩ := and_parts hA hB hv hH e h0
      have hu2 : (lp_dn i a || lp_dn i b) = true := hu
      rcases (Bool.or_eq_true _ _).mp hu2 with q | q
      · exact dn_ok hg hTG hcW hF hv a h h1 va _ q (t_one_some rfl (isI_0 t1)) hH a1 a2
      · exact dn_ok hg hTG hcW hF hv b h1 h2 vb _ q (t_one_some rfl (isI_0 t2)) a3 b1 b2
    · unfold lp_dn at hu
      split at hu
      · rename_i e9
        cases e9
        exact absurd rfl h25
      · rename_i j w w2 b9 k e9
        cases e9
        simp only [Bool.and_eq_true, beq_iff_eq] at hu
        obtain ⟨rfl, rfl⟩ := hu
        have e2 : some ([j_b (j_cmp 3 (en.getD j 0) 0)], (g, h)) = some ([v], (g, h')) := e
        have e3 := (some_one e2).1
        rw [← e3] at h0
        have e5 : en.getD j 0 ≥ 0 := of_decide_eq_true (j_b_ne h0)
        exact e5
      · cases hu
  | .var _, _, _, _, _, _, hT, _, _, _ => by cases hT
  | .op (.op _ _) _, _, _, _, _, _, hT, _, _, _ => by cases hT
  | .op (.var _) (.var _), _, _, _, _, _, hT, _, _, _ => by cases hT
  | .op (.var _) (.op _ (.var _)), _, _, _, _, _, hT, _, _, _ => by cases hT
end TYT
end
section
/-! ===== the third reading: all statements ===== -/
def TotC (T : TT) (g : XS × Nat × Nat) (ro : Nat → Nat → Bool) (z : Nat → Int) (rt : List Nat) (thr : Bool) (τ : List Nat) (o : TO) (A : XR) : Prop :=
  ∀ (v : Int) (en : List Int) (h : XH), VL z g.1 τ en → HT T.1 g.1 h → ∃ c vals en' g' h', A (v :: en) (g, h) = some (c, vals, en', (g', h')) ∧ HT T.1 g.1 h' ∧ FR ro h h' ∧ OutS g g' z rt thr o c vals en'
section TYU
variable {xs : Nat → Int} {L K : Nat} {ck : Nat → List Nat} {F : XP} {cW : Nat → Nat → Int} {T : TT} {g : XS × Nat × Nat} {ro : Nat → Nat → Bool} {z : Nat → Int} {rt : List Nat} {thr : Bool} {τ : List Nat} {o q r : TO}
theorem st_skip : TotS T g ro z rt thr τ (some τ, none, none) (fun en st => some (0, [], en, st)) := fun en h hv hH => ⟨0, [], en, g, h, rfl, hH, FR.rf, Or.inl ⟨rfl, rfl, τ, rfl, hv⟩⟩
theorem st_seq {A B : XR} (hA : TotS T g ro z rt thr τ o A) (hB : ∀ τ1, o.1 = some τ1 → TotS T g ro z rt thr τ1 q B) (hl : leO (none, o.2) r) (hr : o.1 ≠ none → leO q r) : TotS T g ro z rt thr τ r (s_seq A B) := by
  intro en h hv hH
  obtain ⟨c, vals, en', g', h', e1, e2, e3, e4⟩ := hA en h hv hH
  unfold s_seq
  rw [e1, Option.bind_some]
  dsimp only
  rcases e4 with ⟨rfl, rfl, τ1, k1, k2⟩ | ⟨rfl, k⟩ | ⟨rfl, k⟩ | ⟨rfl, k⟩ | ⟨rfl, k⟩
  · rw [if_pos rfl]
    obtain ⟨c, vals, en2, g2, h2, f1, f2, f3, f4⟩ := hB τ1 k1 en' h' k2 e2
    exact ⟨c, vals, en2, g2, h2, f1, f2, e3.tr f3, f4.mono (hr (by rw [k1]; exact fun e => by cases e))⟩
  · exact ⟨1, vals, en', g', h', rfl, e2, e3, OutS.mono hl (Or.inr (Or.inl ⟨rfl, k⟩))⟩
  · exact ⟨2, vals, en', g', h', rfl, e2, e3, OutS.mono hl (Or.inr (Or.inr (Or.inl ⟨rfl, k⟩)))⟩
  · exact ⟨3, vals, en', g', h', rfl, e2, e3, OutS.mono hl (Or.inr (Or.inr (Or.inr (Or.inl ⟨rfl, k⟩))))⟩
  · exact ⟨4, vals, en', g', h', rfl, e2, e3, OutS.mono hl (Or.inr (Or.inr (Or.inr (Or.inr ⟨rfl, k⟩))))⟩
theorem st_if {A : XE} {B C : XR} {t : Nat} (hA : TotE T g ro z τ [t] A) (hB : TotS T g ro z rt thr τ o B) (hC : TotS T g ro z rt thr τ q C) (h1 : leO o r) (h2 : leO q r) : TotS T g ro z rt thr τ r (s_if A B C) := by
  intro en h hv hH
  obtain ⟨v, h', e1, e2, e3, e4⟩ := te_one hA hv hH
  unfold s_if
  rw [e1, Option.bind_some]
  dsimp only
  by_cases h0 : j_hd [v] = 0
  · rw [if_pos h0]
    obtain ⟨c, vals, en2, g2, h2', f1, f2, f3, f4⟩ := hC en h' hv e2
    exact ⟨c, vals, en2, g2, h2', f1, f2, e3.tr f3, f4.mono h2⟩
  · rw [if_neg h0]
    obtain ⟨c, vals, en2, g2, h2', f1, f2, f3, f4⟩ := hB en h' hv e2
    exact ⟨c, vals, en2, g2, h2', f1, f2, e3.tr f3, f4.mono h1⟩
theorem st_brk : TotS T g ro z rt thr τ (none, some τ, none) (fun en st => some (2, [], en, st)) := fun en h hv hH => ⟨2, [], en, g, h, rfl, hH, FR.rf, Or.inr (Or.inr (Or.inl ⟨rfl, rfl, τ, rfl, hv⟩))⟩
theorem st_cnt : TotS T g ro z rt thr τ (none, none, some τ) (fun en st => some (3, [], en, st)) := fun en h hv hH => ⟨3, [], en, g, h, rfl, hH, FR.rf, Or.inr (Or.inr (Or.inr (Or.inl ⟨rfl, rfl, τ, rfl, hv⟩)))⟩
theorem first_some {A : Option (List Nat)} {x : Option TO} (h : ty_first A x = some o) : A = some [t_one A] ∧ x = some o := by
  obtain ⟨h1, h2⟩ := j_ifx h
  exact ⟨t_one_some rfl (isI_0 h1), h2⟩
/-- where a number may be written -/
def WK (T : TT) (g : XS) (ro : Nat → Nat → Bool) : Prop := ∀ ci k, T.2.2.2.2 ci k = true → ∀ (o : Nat) (c : XC), g[o]? = some c → c.1 = 10 + ci → ro o k = false
theorem st_put {A B : XE} {ta tb k : Nat} (hW : WK T g.1 ro) (hA : TotE T g ro z τ [ta] A) (hB : TotE T g ro z τ [tb] B) (h1 : 10 ≤ ta) (h2 : ta < 100) (h3 : T.2.2.2.2 (ta - 10) k = true) (f : XT → Int → Int → Int)
    (hf : ∀ (st : XT) v w, TV z g.1 tb w → ((T.1 (ta - 10)).getD k 0 = 1 → InI (f st v w)) ∧ ((T.1 (ta - 10)).getD k 0 = 2 → InL (f st v w)) ∧ ((T.1 (ta - 10)).getD k 0 = 100 → f st v w = 0 ∨ f st v w = 1)) {S : XR}
    (hS : ∀ en (st st1 st2 : XT) v w, A en st = some ([v], st1) → B en st1 = some ([w], st2) → TV z g.1 tb w → S en st = some (0, [], en, (st2.1, j_up st2.2 v.toNat k (f st1 v w)))) : TotS T g ro z rt thr τ (some τ, none, none) S := by
  intro en h hv hH
  obtain ⟨v, ha, a1, a2, a3, a4⟩ := te_one hA hv hH
  obtain ⟨w, hb, b1, b2, b3, b4⟩ := te_one hB hv a2
  obtain ⟨v0, cc, hc, hk⟩ := a4.2.2.2.2.1 (by omega) h2
  have ht := o_ty (fk := T.1) (k := k) (ci := ta - 10) hc (by omega)
  obtain ⟨q1, q2, q3⟩ := hf (g, ha) v w b4
  refine ⟨0, [], en, g, _, hS en _ _ _ v w a1 b1 b4, ?_, (a3.tr b3).tr (FR.up (hW _ _ h3 _ cc hc (by omega))), Or.inl ⟨rfl, rfl, τ, rfl, hv⟩⟩
  exact b2.up (by rw [ht]; exact q1) (by rw [ht]; exact q2) (by rw [ht]; exact q3)
theorem st_sw {A : XE} {B : XR} {t : Nat} {e : Option (List Nat)} (hA : TotE T g ro z τ [t] A) (hB : TotC T g ro z rt thr τ o B) (hj : t_join o.1 o.2.1 = some e) : TotS T g ro z rt thr τ (e, none, o.2.2) (s_sw A B) := by
  intro en h hv hH
  obtain ⟨v, h', e1, e2, e3, e4⟩ := te_one hA hv hH
  obtain ⟨c, vals, en2, g2, h2, f1, f2, f3, f4⟩ := hB v en h' hv e2
  unfold s_sw
  rw [e1, Option.bind_some]
  dsimp only
  have f1' : B (j_hd [v] :: en) (g, h') = some (c, vals, en2, (g2, h2)) := f1
  rw [f1', Option.bind_some]
  dsimp only
  rcases f4 with ⟨rfl, rfl, τ1, k1, k2⟩ | ⟨rfl, k⟩ | ⟨rfl, rfl, τ1, k1, k2⟩ | ⟨rfl, k⟩ | ⟨rfl, k⟩
  · obtain ⟨τ2, j1, j2⟩ := join_l hj k1
    exact ⟨0, vals, en2, g2, h2, rfl, f2, e3.tr f3, Or.inl ⟨rfl, rfl, τ2, j1, VL.sub j2 k2⟩⟩
  · exact ⟨1, vals, en2, g2, h2, rfl, f2, e3.tr f3, Or.inr (Or.inl ⟨rfl, k⟩)⟩
  · obtain ⟨τ2, j1, j2⟩ := join_r hj k1
    exact ⟨0, vals, en2, g2, h2, rfl, f2, e3.tr f3, Or.inl ⟨rfl, rfl, τ2, j1, VL.sub j2 k2⟩⟩
  · exact ⟨3, vals, en2, g2, h2, rfl, f2, e3.tr f3, Or.inr (Or.inr (Or.inr (Or.inl ⟨rfl, k⟩)))⟩
  · exact ⟨4, vals, en2, g2, h2, rfl, f2, e3.tr f3, Or.inr (Or.inr (Or.inr (Or.inr ⟨rfl, k⟩)))⟩
theorem st_case {l : List Nat} {B C : XR} (hB : TotS T g ro z rt thr τ o B) (h0 : o.1 = none) (hC : TotC T g ro z rt thr τ q C) (h1 : leO o r) (h2 : leO q r) : TotC T g ro z rt thr τ r (fun en st => if l.any (fun n => decide (en.headD 0 = sx_z n)) then (B en.tail st).bind fun r => if r.1 = 0 then none else some r else C en st) := by
  intro v en h hv hH
  dsimp only
  split
  · obtain ⟨c, vals, en2, g2, h2', f1, f2, f3, f4⟩ := hB en h hv hH
    have hc : c ≠ 0 := by
      rintro rfl
      rcases f4 with ⟨-, -, τ1, k1, -⟩ | ⟨k, -⟩ | ⟨k, -⟩ | ⟨k, -⟩ | ⟨k, -⟩
      · rw [h0] at k1; cases k1
      · cases k
      · cases k
      · cases k
      · cases k
    refine ⟨c, vals, en2, g2, h2', ?_, f2, f3, f4.mono h1⟩
    show ((B en (g, h)).bind _) = _
    rw [f1, Option.bind_some]
    exact if_neg hc
  · obtain ⟨c, vals, en2, g2, h2', f1, f2, f3, f4⟩ := hC v en h hv hH
    exact ⟨c, vals, en2, g2, h2', f1, f2, f3, f4.mono h2⟩
theorem inc_ok {c : SX} {i : Nat} {u : Bool} (h : lp_inc c = some (i, u)) : ∀ en st, evS xs L ck F K cW c en st = some (0, [], en.set i (j32 (en.getD i 0 + dir u)), st) := by
  unfold lp_inc at h
  split at h
  · rename_i j k
    cases h
    intro en st
    show some (0, [], en.set i (j32 (en.getD i 0 + (if k = 0 then ((1 : Nat) : Int) else -((1 : Nat) : Int)))), st) = _
    unfold dir
    by_cases hk : k = 0
    · rw [if_pos hk, if_pos (by simpa using hk)]
      rfl
    · rw [if_neg hk, if_neg (by simpa using hk)]
      rfl
  · cases h
theorem step_ok {b c : SX} {i : Nat} {u c3 : Bool} (h : lp_step b c = some (i, u, c3)) : (c3 = true → ∀ en st, evS xs L ck F K cW c en st = some (0, [], en.set i (j32 (en.getD i 0 + dir u)), st)) ∧ (c3 = false → ∀ en st, evS xs L ck F K cW b en st = some (0, [], en.set i (j32 (en.getD i 0 + dir u)), st)) ∧ (c3 = false → ∀ en st, evS xs L ck F K cW c en st = some (0, [], en, st)) := by
  unfold lp_step at h
  split at h
  · rename_i i' u' hi
    cases h
    exact ⟨fun _ => inc_ok hi, fun e => (by cases e), fun e => (by cases e)⟩
  · split at h
    · split at h
      · rename_i b' _ _
        obtain ⟨q, hq, h⟩ := Option.map_eq_some_iff.mp h
        obtain ⟨i', u'⟩ := q
        cases h
        exact ⟨fun e => (by cases e), fun _ en st => show evS xs L ck F K cW b' en st = _ from inc_ok hq en st, fun _ _ _ => rfl⟩
      · cases h
    · cases h
end TYU
end
section
/-! ===== the third reading: every statement, every method ===== -/
section TYV
variable {xs : Nat → Int} {L K : Nat} {ck : Nat → List Nat} {F : XP} {cW : Nat → Nat → Int} {T : TT} {g : XS × Nat × Nat} {ro : Nat → Nat → Bool} {rt : List Nat} {thr : Bool}
theorem ty_S (hg : GG T.1 g.1) (hTG : TG T) (hcW : ∀ k, k < 24 → InL (cW 0 k) ∧ InI (cW 1 k)) (hF : ∀ f, T.2.2.2.1 f = true → TotF T g ro F f) (hW : WK T g.1 ro) (hK : 4294967300 ≤ K) (hrt : rt.all (fun t => Nat.blt t 300) = true) : ∀ (t : SX),
    (∀ z τ o, (tyS T rt thr t).1 τ = some o → TotS T g ro z rt thr τ o (evS xs L ck F K cW t)) ∧ (∀ z τ o, (tyS T rt thr t).2 τ = some o → TotC T g ro z rt thr τ o (evS xs L ck F K cW t))
  | .op (.var t) (.op a (.op b c)) => by
    have iA := ty_S hg hTG hcW hF hW hK hrt a
    have iB := ty_S hg hTG hcW hF hW hK hrt b
    have iC := ty_S hg hTG hcW hF hW hK hrt c
    have e := fun t z τ us h => ty_all (xs := xs) (L := L) (ck := ck) hg hTG hcW hF t z τ us h
    have e1 : ∀ (t : SX) z τ u, t_one (tyF T τ t) = u → u ≠ 0 → TotE T g ro z τ [u] (evE xs L ck F cW t) := fun t z τ u h h0 => e t z τ _ (t_one_some h h0)
    constructor
    · intro z τ o h
      show TotS T g ro z rt thr τ o (nodeS xs L ck F K cW t a b c (evS xs L ck F K cW a) (evS xs L ck F K cW b) (evS xs L ck F K cW c))
      have h : (tySN T rt thr t a b c (tyS T rt thr a) (tyS T rt thr b) (tyS T rt thr c)).1 τ = some o := h
      unfold tySN at h
      dsimp only at h
      split at h
      · cases h; exact st_skip
      · cases h; exact st_skip
      · obtain ⟨o1, h1, h⟩ := j_bd h
        have hA := iA.1 z τ o1 h1
        split at h
        · rename_i hn
          cases h
          exact st_seq (q := o) hA (fun τ1 k => by rw [hn] at k; cases k) ⟨fun τ k => (by cases k), fun τ k => ⟨τ, k, sub_rf⟩, fun τ k => ⟨τ, k, sub_rf⟩⟩ (fun k => absurd hn k)
        · rename_i τ1 hn
          obtain ⟨q, h2, h⟩ := j_bd h
          exact st_seq hA (fun τ2 k => by rw [hn] at k; cases k; exact iB.1 z τ1 q h2) (joins_l h) (fun _ => joins_r h)
      · obtain ⟨⟨h1, h2⟩, h⟩ := j_if h
        cases h
        intro en hh hv hH
        obtain ⟨v, h', f1, f2, f3, f4⟩ := te_one (e1 b z τ _ rfl h1) hv hH
        refine ⟨0, [], en.set (sx_n a) v, g, h', ?_, f2, f3, Or.inl ⟨rfl, rfl, _, rfl, VL.set (sx_n a) hv f4⟩⟩
        show (evE xs L ck F cW b en (g, hh)).bind _ = _
        rw [f1]
        rfl
      · obtain ⟨h1, h⟩ := j_if h
        cases h
        exact fun en hh hv hH => ⟨0, [], _, g, hh, rfl, hH, FR.rf, Or.inl ⟨rfl, rfl, _, rfl, VL.set (sx_n a) hv (TV.int (in_j32 _))⟩⟩
      · skip
        obtain ⟨⟨h1, h2, h3, h4⟩, h⟩ := j_if h
        cases h
        rcases h4 with ⟨h4, h5⟩ | ⟨h4, h5⟩
        · refine st_put hW (e1 a z τ _ rfl (by omega)) (e1 b z τ _ rfl (isI_0 h5)) h1 h2 h3 (fun _ _ w => w) (fun st v w hw => ⟨fun _ => isI_in h5 hw, fun k => absurd (h4.symm.trans k) (by decide), fun k => absurd (h4.symm.trans k) (by decide)⟩) (fun en st st1 st2 v w k1 k2 _ => ?_)
          show s_putf _ _ _ en st = _
          unfold s_putf
          rw [k1, Option.bind_some, k2]
          rfl
        · refine st_put hW (e1 a z τ _ rfl (by omega)) (e1 b z τ 2 h5 (by decide)) h1 h2 h3 (fun _ _ w => w) (fun st v w hw => ⟨fun k => absurd (h4.symm.trans k) (by decide), fun _ => hw.2.1 rfl, fun k => absurd (h4.symm.trans k) (by decide)⟩) (fun en st st1 st2 v w k1 k2 _ => ?_)
          show s_putf _ _ _ en st = _
          unfold s_putf
          rw [k1, Option.bind_some, k2]
          rfl
      · skip
        obtain ⟨⟨h1, h2, h3, h4, h5⟩, h⟩ := j_if h
        cases h
        refine st_put hW (e1 a z τ _ rfl (by omega)) (e1 b z τ _ rfl (isI_0 h5)) h1 h2 h3 (fun st v w => j_iop (sx_n c % 16) (st.2 v.toNat (sx_n c / 16)) w) (fun st v w hw => ⟨fun _ => iop_in _ _ _, fun k => absurd (h4.symm.trans k) (by decide), fun k => absurd (h4.symm.trans k) (by decide)⟩) (fun en st st1 st2 v w k1 k2 _ => ?_)
        show s_putfC _ _ _ _ en st = _
        unfold s_putfC
        rw [k1, Option.bind_some, k2]
        rfl
      · skip
        obtain ⟨⟨h1, h2, h3, h4, h5⟩, h⟩ := j_if h
        cases h
        refine st_put hW (e1 a z τ _ rfl (by omega)) (e1 b z τ 100 h5 (by decide)) h1 h2 h3 (fun _ _ w => w) (fun st v w hw => ⟨fun k => absurd (h4.symm.trans k) (by decide), fun k => absurd (h4.symm.trans k) (by decide), fun _ => hw.2.2.1 rfl⟩) (fun en st st1 st2 v w k1 k2 hw => ?_)
        show (evE xs L ck F cW a en st).bind _ = _
        rw [k1, Option.bind_some]
        dsimp only
        rw [k2, Option.bind_some]
        exact if_pos (hw.2.2.1 rfl)
      · split at h
        · rename_i us hus
          cases h
          intro en hh hv hH
          obtain ⟨v, h', f1, f2, f3, f4⟩ := e a z τ us hus en hh hv hH
          refine ⟨0, [], en, g, h', ?_, f2, f3, Or.inl ⟨rfl, rfl, _, rfl, hv⟩⟩
          show (evE xs L ck F cW a en (g, hh)).bind _ = _
          rw [f1]
          rfl
        · cases h
      · obtain ⟨h1, h⟩ := first_some h
        obtain ⟨o1, h2, h⟩ := j_bd h
        exact st_if (e a z τ _ h1) (iB.1 z τ o1 h2) st_skip (joins_l h) (joins_r h)
      · obtain ⟨h1, h⟩ := first_some h
        obtain ⟨o1, h2, h⟩ := j_bd h
        obtain ⟨o2, h3, h⟩ := j_bd h
        exact st_if (e a z τ _ h1) (iB.1 z τ o1 h2) (iC.1 z τ o2 h3) (joins_l h) (joins_r h)
      · obtain ⟨h1, h⟩ := first_some h
        obtain ⟨o1, h2, h⟩ := j_bd h
        exact st_if (e a z τ _ h1) (iB.1 z τ o1 h2) st_brk (joins_l h) (joins_r h)
      · split at h
        · rename_i i u c3 hst
          obtain ⟨h1, h⟩ := j_ifx h
          obtain ⟨p1, p2, p3⟩ := step_ok (xs := xs) (L := L) (ck := ck) (F := F) (K := K) (cW := cW) hst
          refine lp_ok (u := u) hK hrt (fun z τ us k => e a z τ us k) (fun en hp v h' k1 k2 k3 k4 z τ us k5 k6 => ?_) (fun _ z τ o k => iB.1 z τ o k) p1 p2 p3 6 τ o h z
          cases u with
          | true =>
            have h1 : lp_up i a = true := h1
            exact up_ok hg hTG hcW hF k6 a hp h' v us h1 k5 k3 k1 k2
          | false =>
            have h1 : lp_dn i a = true := h1
            exact dn_ok hg hTG hcW hF k6 a hp h' v us h1 k5 k3 k1 k2
        · cases h
      · cases h; exact st_brk
      · cases h; exact st_cnt
      · split at h
        · rename_i us hus
          obtain ⟨h1, h⟩ := j_if h
          cases h
          intro en hh hv hH
          obtain ⟨v, h', f1, f2, f3, f4⟩ := e a z τ us hus en hh hv hH
          refine ⟨1, v, en, g, h', ?_, f2, f3, Or.inr (Or.inl ⟨rfl, rfl, VL.sub h1 f4⟩)⟩
          show (evE xs L ck F cW a en (g, hh)).bind _ = _
          rw [f1]
          rfl
        · cases h
      · obtain ⟨⟨h1, h2⟩, h⟩ := j_if h
        cases h
        intro en hh hv hH
        obtain ⟨v, h', f1, f2, f3, f4⟩ := te_one (e1 a z τ 100 h1 (by decide)) hv hH
        refine ⟨1, [v], en, g, h', ?_, f2, f3, Or.inr (Or.inl ⟨rfl, rfl, by rw [h2]; exact ⟨f4, trivial⟩⟩)⟩
        show (evE xs L ck F cW a en (g, hh)).bind _ = _
        rw [f1, Option.bind_some]
        exact if_pos (f4.2.2.1 rfl)
      · obtain ⟨h1, h⟩ := j_if h
        cases h
        exact fun en hh hv hH => ⟨1, [], en, g, hh, rfl, hH, FR.rf, Or.inr (Or.inl ⟨rfl, rfl, by rw [h1]; exact trivial⟩)⟩
      · obtain ⟨h1, h⟩ := j_if h
        cases h
        exact fun en hh hv hH => ⟨4, [], en, (g.1, g.2.1 + 1, g.2.2 + 6), hh, rfl, hH, FR.rf, Or.inr (Or.inr (Or.inr (Or.inr ⟨rfl, h1, rfl⟩)))⟩
      · obtain ⟨h1, h⟩ := first_some h
        obtain ⟨o1, h2, h⟩ := j_bd h
        obtain ⟨ex, h3, h⟩ := j_bd h
        cases h
        exact st_sw (e a z τ _ h1) (iB.2 z τ o1 h2) h3
      · exact iA.1 z τ o h
      · cases h
    · intro z τ o h
      show TotC T g ro z rt thr τ o (nodeS xs L ck F K cW t a b c (evS xs L ck F K cW a) (evS xs L ck F K cW b) (evS xs L ck F K cW c))
      have h : (tySN T rt thr t a b c (tyS T rt thr a) (tyS T rt thr b) (tyS T rt thr c)).2 τ = some o := h
      unfold tySN at h
      dsimp only at h
      split at h
      · obtain ⟨o1, h1, h⟩ := j_bd h
        obtain ⟨h2, h⟩ := j_ifx h
        obtain ⟨q, h3, h⟩ := j_bd h
        exact st_case (iB.1 z τ o1 h1) h2 (iC.2 z τ q h3) (joins_l h) (joins_r h)
      · exact fun v en hh hv hH => iA.1 z τ o h en hh hv hH
      · cases h
  | .var _ => ⟨fun _ _ _ h => (by cases h), fun _ _ _ h => (by cases h)⟩
  | .op (.op _ _) _ => ⟨fun _ _ _ h => (by cases h), fun _ _ _ h => (by cases h)⟩
  | .op (.var _) (.var _) => ⟨fun _ _ _ h => (by cases h), fun _ _ _ h => (by cases h)⟩
  | .op (.var _) (.op _ (.var _)) => ⟨fun _ _ _ h => (by cases h), fun _ _ _ h => (by cases h)⟩
end TYV
end
section
/-! ===== the third reading: methods ===== -/
def t_b1 (t : Nat) : Nat := if t = 100 then 1 else t
/-- what a method that may throw is known to do -/
def TotX (T : TT) (g : XS × Nat × Nat) (ro : Nat → Nat → Bool) (F : XP) (f : Nat) : Prop :=
  ∀ (av : List Int) (h : XH), HT T.1 g.1 h → VL (fun _ => 0) g.1 (T.2.1 f) av → ∃ c r g' h', F f av (g, h) = some (c, r, (g', h')) ∧ HT T.1 g.1 h' ∧ FR ro h h' ∧ ((c = 1 ∧ g' = g ∧ VL (fun _ => 0) g.1 (T.2.2.1 f) r) ∨ (c = 4 ∧ g' = (g.1, g.2.1 + 1, g.2.2 + 6)))
def tyMk (T : TT) (M : Nat → XM) (f : Nat) : Bool := decide ((M f).2.2.1 = (T.2.1 f).map t_b1) && (T.2.2.1 f).all (fun t => Nat.blt t 300)
section TYM
variable {xs : Nat → Int} {L K : Nat} {ck : Nat → List Nat} {cW : Nat → Nat → Int} {T : TT} {g : XS × Nat × Nat} {ro : Nat → Nat → Bool} {z : Nat → Int} {M : Nat → XM} {THR : Nat → Bool}
theorem VL_lay : ∀ {pk : List Nat} {av : List Int}, VL z g.1 pk av → VL z g.1 (j_layT pk) (j_lay (pk.map t_b1) av)
  | [], [], _ => trivial
  | k :: pk, v :: av, h => by
    by_cases h2 : k = 2
    · subst h2
      exact ⟨h.1, TV.zero, VL_lay h.2⟩
    · have h3 : t_b1 k ≠ 2 := by
        unfold t_b1
        split <;> omega
      show VL z g.1 (if k = 2 then 2 :: 0 :: j_layT pk else k :: j_layT pk) (if t_b1 k = 2 then v :: 0 :: j_lay (pk.map t_b1) av else v :: j_lay (pk.map t_b1) av)
      rw [if_neg h2, if_neg h3]
      exact ⟨h.1, VL_lay h.2⟩
  | [], _ :: _, h => h.elim
  | _ :: _, [], h => h.elim
theorem VL_rep : ∀ n, VL z g.1 (List.replicate n 0) (List.replicate n 0)
  | 0 => trivial
  | n + 1 => ⟨TV.zero, VL_rep n⟩
theorem VL_pad {n : Nat} {ts : List Nat} {vs : List Int} (h : VL z g.1 ts vs) : VL z g.1 (j_pad 0 n ts) (j_pad 0 n vs) := by
  unfold j_pad
  rw [VL.len h]
  exact VL.app h (VL_rep _)
theorem chk_1 {g : XS × Nat × Nat} {c : Nat} (hc : c = 1 ∨ c = 4) {g' : XS × Nat × Nat} (hg : g' = g ∨ g' = (g.1, g.2.1 + 1, g.2.2 + 6)) : (c = 1 ∨ c = 4) ∧ g.2.1 ≤ g'.2.1 ∧ g.2.2 ≤ g'.2.2 ∧ (g.1.map (·.1)).isPrefixOf (g'.1.map (·.1)) = true := by
  rcases hg with rfl | rfl
  · exact ⟨hc, Nat.le_refl _, Nat.le_refl _, List.isPrefixOf_iff_prefix.mpr (List.prefix_refl _)⟩
  · exact ⟨hc, Nat.le_succ _, Nat.le_add_right _ _, List.isPrefixOf_iff_prefix.mpr (List.prefix_refl _)⟩
theorem ty_X (hg : GG T.1 g.1) (hTG : TG T) (hcW : ∀ k, k < 24 → InL (cW 0 k) ∧ InI (cW 1 k)) (hW : WK T g.1 ro) (hK : 4294967300 ≤ K) {n f : Nat} (hF : ∀ f, T.2.2.2.1 f = true → TotF T g ro (evF xs L ck K cW M n) f) (h : tyM T M THR f = true) (hk : tyMk T M f = true) : TotX T g ro (evF xs L ck K cW M (n + 1)) f ∧ (THR f = false → TotF T g ro (evF xs L ck K cW M (n + 1)) f) := by
  simp only [tyMk, Bool.and_eq_true, decide_eq_true_eq] at hk
  have key : ∀ (av : List Int) (h : XH), HT T.1 g.1 h → VL (fun _ => 0) g.1 (T.2.1 f) av → ∃ c r g' h', evF xs L ck K cW M (n + 1) f av (g, h) = some (c, r, (g', h')) ∧ HT T.1 g.1 h' ∧ FR ro h h' ∧ ((c = 1 ∧ g' = g ∧ VL (fun _ => 0) g.1 (T.2.2.1 f) r) ∨ (c = 4 ∧ THR f = true ∧ g' = (g.1, g.2.1 + 1, g.2.2 + 6))) := by
    intro av hh hH hv
    unfold tyM at h
    split at h
    · rename_i ho
      have hS := (ty_S (xs := xs) (L := L) (ck := ck) hg hTG hcW hF hW hK hk.2 (M f).2.2.2.2).1 (fun _ => 0) _ _ ho
      obtain ⟨c, vals, en', g', h', e1, e2, e3, e4⟩ := hS _ hh (VL_pad (VL_lay hv)) hH
      rw [evF_s, hk.1, e1, Option.bind_some]
      rcases e4 with ⟨-, -, τ, k, -⟩ | ⟨rfl, rfl, k⟩ | ⟨-, -, τ, k, -⟩ | ⟨-, -, τ, k, -⟩ | ⟨rfl, k1, k2⟩
      · cases k
      · exact ⟨1, vals, g', h', if_pos (chk_1 (Or.inl rfl) (Or.inl rfl)), e2, e3, Or.inl ⟨rfl, rfl, k⟩⟩
      · cases k
      · cases k
      · exact ⟨4, vals, g', h', if_pos (chk_1 (Or.inr rfl) (Or.inr k2)), e2, e3, Or.inr ⟨rfl, k1, k2⟩⟩
    · cases h
  refine ⟨fun av hh hH hv => ?_, fun hn av hh hH hv => ?_⟩
  · obtain ⟨c, r, g', h', e1, e2, e3, e4⟩ := key av hh hH hv
    refine ⟨c, r, g', h', e1, e2, e3, e4.imp id (fun k => ⟨k.1, k.2.2⟩)⟩
  · obtain ⟨c, r, g', h', e1, e2, e3, e4⟩ := key av hh hH hv
    rcases e4 with ⟨rfl, rfl, k⟩ | ⟨-, k, -⟩
    · exact ⟨r, h', e1, e2, e3, k⟩
    · rw [hn] at k; cases k
end TYM
end
section
/-! ===== the third reading: this claim's tables (written by wip/tools/tytab.py) ===== -/
def g_fk : Nat → List Nat := fun c => [[16, 15, 15, 13, 13, 12, 12, 12, 12, 14, 18, 17, 17, 100, 100, 1], [17, 17, 17, 1, 1, 1], [17, 17, 17, 17, 17, 17, 17, 17, 17, 17, 1, 1], [17, 17, 17, 17, 1], [17, 1], [7, 17, 17, 17, 17, 17, 17, 17, 11, 1, 1, 1, 1], [19, 17, 1, 1, 1, 2, 1, 100, 100], [6], [17, 17, 17, 17, 17, 17, 17, 17, 17, 17, 1], [8, 1, 1, 1, 1, 1, 2], [1, 6, 1, 1, 6, 6, 7, 1, 1, 7, 6, 6, 1, 7, 6, 6, 6, 6, 1, 1, 9, 6, 6, 6, 6, 1, 7, 6, 7, 2]].getD c []
def g_PT : Nat → List Nat := t_at [[[10], [10, 2, 2, 2], [10], [10], [10], [10, 1, 1], [10, 1, 1], [10, 1, 1], [10, 1, 1, 1], [10, 1, 1, 1], [10, 1, 1], [10], [10], [10, 1], [10, 1, 1], [10, 1, 1]],
  [[10, 1, 1], [10, 1], [10, 1, 1], [10, 1, 1], [10, 1, 1], [10, 1], [10, 1], [10, 1, 1], [10, 1], [10], [10], [10, 1, 1, 1], [10, 1, 1, 1], [10, 1], [10], [10, 1, 1]],
  [[10, 1, 1], [10, 1, 1, 1, 1], [10, 1, 1], [10, 1], [10], [10], [10, 1], [10, 1], [10, 1, 1, 100], [10], [10], [10, 1, 1, 1], [10, 1, 1], [2], [2, 1], [10]],
  [[10, 1, 100], [10, 100], [10, 100], [10, 1], [10], [17, 1], [17, 1], [17, 1, 1], [17, 1, 1], [17, 1], [17, 17], [17, 1], [19], [19], [19, 2], [19]],
  [[19], [19], [19], [19, 1], [19, 1], [1], [1], [1], [19], [19], [19, 1], [19], [19], [19], [11], [11]],
  [[11, 11], [11, 19], [19], [19], [1], [11, 1], [11, 1], [11, 1], [11], [11, 1], [11], [11, 1], [11, 1, 1, 1, 1], [1, 1, 1, 1, 1], [1, 1, 1], [15]],
  [[15], [15, 15], [15, 2, 1, 17, 1], [15, 2], [15, 2, 1, 1, 1], [15, 1, 2], [15, 2], [15, 2], [15, 2], [15, 2, 1, 1], [15, 2], [15, 1], [15, 1], [15, 1], [15, 1], [15, 1, 1]],
  [[15, 1, 1, 1], [15, 1], [15, 1], [13], [13, 1, 1, 1, 1], [13, 13], [16], [16, 15], [16, 15, 13], [3], [16, 15], [16, 15], [16, 15], [16, 15], [16, 15], [3]],
  [[16, 15], [16, 15, 13], [16, 15, 13], [16, 15, 13], [16, 13], [16, 1], [16], [16, 3], [16, 1, 1], [16, 1], [16], [16, 1], [16, 15], [12], [12, 15], [12, 12]],
  [[12, 13, 1], [12], [12, 1, 1], [12, 1, 1, 1], [12, 1], [12, 1], [12, 1, 1], [12, 1, 1, 1], [12, 15, 1, 1], [12, 15, 1, 1], [12, 15, 1, 1, 1, 1], [12, 1, 1], [12, 1, 1, 1], [12, 1, 1, 1], [12, 1], [12, 1, 1, 1]],
  [[12, 1, 1, 1, 1], [12], [12, 1, 1, 1], [12, 15, 1], [12, 1, 1, 1], [12, 1, 1, 100], [12, 1, 1], [14], [14, 12, 1, 1, 1], [14, 12], [14, 12, 1, 1], [18], [18, 15, 12, 1], [18, 15, 1], [18, 15, 1], [18, 1, 17, 1, 17]],
  [[18, 15, 12, 17], [18, 15, 12], [18, 15, 12, 1], [18, 15, 12], [18, 15, 1], [18, 15, 12], [20], [20, 2, 2, 2], [20, 2], [20], [1], [1], [1], [1], [20], [20, 1]],
  [[20, 1], [20, 1], [20, 1], [20, 1], [20, 1], [20, 1], [1, 1, 1], [20, 1], [20, 1, 1], [20, 1, 1], [20, 1, 1], [20], [20, 1, 1], [20, 1, 1], [20], [20, 1]],
  [[20, 1, 1, 1], [20, 1], [20], [20, 1, 1], [20], [20], [20], [20, 1, 1], [20, 1, 1], [20, 1], [20, 1], [20, 1], [20, 1], [20, 1], [20, 1], [1, 1, 1]],
  [[20, 1, 1, 1], [20], [20], [20], [20], [20, 1], [20, 1], [20, 1], [20, 1, 1], [20, 1], [20, 1], [20, 1], [20, 1], [20, 1], [20, 1], [20, 1, 1]],
  [[20, 1], [20], [20], [20, 1, 1, 1], [20, 1, 1, 1], [20, 1, 1, 1], [1, 1, 1], [20, 1, 1, 1, 1], [20, 1, 1, 1, 1, 1], [20, 1, 1, 1], [20, 1, 1, 1], [20, 1, 1], [20, 1], [20, 1, 1], [20, 1, 1], [20, 1]],
  [[20, 1, 1, 1], [20, 1, 1, 1], [20, 1, 1], [20, 1], [20, 1], [20, 1, 1], [20, 1, 1], [20, 1, 1], [20, 1, 1, 1, 1], [20, 1, 1, 1], [20, 1, 1, 1, 1], [20, 1, 1, 1], [20, 1, 1], [20, 1, 1, 1, 1], [20, 1], [20]],
  [[20], [20, 1], [20, 100], [20, 1, 1], [20, 1, 1], [20, 1, 1], [20, 1], [20, 1, 1], [20, 1, 1], [20, 1, 1], [20, 1], [20, 1], [20, 1, 1], [20, 1, 1], [20, 1], [20, 1]],
  [[20], [20], [20, 1, 1, 1], [20, 1], [20, 1, 1, 1], [20, 1, 1, 1], [20, 1], [20], [20, 1, 1], [20, 1, 1], [20], [20, 1, 1, 1, 1], [20, 1, 1], [20, 1], [20, 1], [20]],
  [[20, 1, 1, 100], [20], [20], [20], [20, 1, 1], [20, 1], [20, 1, 1, 1], [20, 1, 100], [20], [20, 1], [10, 1, 7], [10, 1, 1, 7], [10, 1, 1, 7], [10, 1, 1, 7], [10, 1, 7], [10, 1, 1, 7]],
  [[10, 1, 1, 7], [10, 1, 1, 7], [10, 1, 7], [10, 1, 7], [10, 1, 1, 1, 7], [10, 1, 1, 1, 7], [10, 1, 7], [10, 1, 1, 7], [10, 1, 1, 7], [10, 1, 1, 1, 1, 7], [10, 1, 1, 7], [10, 1, 1, 1, 7], [], [2, 1], [1], [1]],
  [[1, 1], [1, 1], [], [], [], [], [], [], [], [], [], [], [], [], [], []]] []
def g_RY : Nat → List Nat := t_at [[[], [1], [1], [], [1], [1], [1], [1], [1], [1], [1], [1], [100], [1], [1], [1]],
  [[1], [1], [1], [1], [1], [1], [1], [1], [1], [1], [1], [1], [1], [1], [1], [1]],
  [[1], [1], [1], [1], [1], [], [1], [1], [100], [1], [1], [1], [], [2], [1], [1]],
  [[100], [100], [100], [1], [1], [], [1], [], [], [], [], [], [], [], [], []],
  [[], [], [], [1], [1], [100], [100], [100], [100], [100], [100], [1], [100], [3], [], []],
  [[], [1], [1], [1], [1], [100], [100], [100], [1], [], [], [], [1], [1], [1], []],
  [[], [], [], [], [], [], [1], [1], [1], [1], [100], [100], [100], [100], [100], [100]],
  [[100], [1], [1], [], [], [], [], [1], [1], [100], [100], [100], [100], [100], [100], [1]],
  [[100], [100], [100], [100], [100], [100], [100], [100], [100], [100], [100], [100], [100], [], [], []],
  [[100], [100], [1], [], [], [1], [1], [1], [100], [1], [1], [1], [], [], [100], [1]],
  [[], [1], [1], [], [], [100], [100], [], [], [100], [], [], [], [], [], []],
  [[], [1], [1], [1], [1], [], [1], [1], [], [], [100], [100], [1], [100], [], []],
  [[100], [100], [], [100], [100], [], [100], [], [1], [1], [1], [100], [1], [1], [1], [1]],
  [[], [100], [], [1], [], [], [1], [], [], [], [], [], [], [], [1], [1]],
  [[], [1], [1], [1], [1], [1], [1], [1], [1], [1], [1], [100], [100], [100], [100], [100]],
  [[], [], [], [1], [1], [1], [1], [1], [1], [1], [1], [], [1], [1], [], []],
  [[1], [1], [1], [1], [1], [1], [1], [1], [], [1], [], [1], [1], [], [], [1]],
  [[100], [1], [100], [1], [1], [1], [1], [1], [1], [1], [1], [1], [1], [1], [1], [1]],
  [[1], [1], [1], [100], [1], [1], [1], [1], [1], [1], [], [1], [1], [1], [1], [1]],
  [[100], [1], [1], [1], [1], [1], [1], [100], [1], [1], [1], [1], [1], [1], [1], [1]],
  [[1], [1], [1], [1], [1], [1], [1], [1], [1], [1], [1], [1], [], [2], [1], [1]],
  [[1], [1], [], [], [], [], [], [], [], [], [], [], [], [], [], []]] []
def g_dp : Nat → Nat := t_at [[99999, 99999, 99999, 3, 99999, 3, 2, 3, 4, 3, 3, 5, 4, 6, 4, 4],
  [4, 4, 4, 4, 4, 5, 3, 3, 5, 5, 4, 2, 2, 5, 2, 2],
  [2, 6, 6, 6, 6, 2, 5, 5, 2, 4, 5, 6, 2, 0, 0, 5],
  [3, 2, 2, 4, 3, 99999, 0, 0, 0, 0, 0, 0, 99999, 99999, 99999, 3],
  [2, 1, 1, 1, 0, 0, 0, 0, 0, 0, 0, 0, 1, 0, 99999, 1],
  [1, 3, 1, 1, 0, 1, 2, 2, 2, 1, 1, 1, 1, 0, 0, 99999],
  [2, 2, 1, 1, 1, 0, 1, 1, 1, 99999, 2, 0, 0, 0, 0, 2],
  [3, 1, 1, 99999, 1, 1, 99999, 5, 5, 0, 4, 4, 4, 4, 4, 0],
  [4, 4, 4, 4, 4, 0, 3, 3, 3, 3, 2, 3, 3, 99999, 2, 1],
  [2, 0, 1, 1, 2, 2, 1, 1, 2, 2, 1, 1, 1, 1, 0, 1],
  [1, 1, 1, 3, 2, 1, 1, 99999, 2, 3, 2, 99999, 3, 2, 1, 1],
  [4, 5, 4, 4, 1, 4, 99999, 99999, 99999, 99999, 99999, 99999, 99999, 99999, 99999, 99999],
  [99999, 99999, 99999, 99999, 99999, 99999, 99999, 99999, 99999, 99999, 99999, 99999, 99999, 99999, 99999, 99999],
  [99999, 99999, 99999, 99999, 99999, 99999, 99999, 99999, 99999, 99999, 99999, 99999, 99999, 99999, 99999, 99999],
  [99999, 99999, 99999, 99999, 99999, 99999, 99999, 99999, 99999, 99999, 99999, 99999, 99999, 99999, 99999, 99999],
  [99999, 99999, 99999, 99999, 99999, 99999, 99999, 99999, 99999, 99999, 99999, 99999, 99999, 99999, 99999, 99999],
  [99999, 99999, 99999, 99999, 99999, 99999, 99999, 99999, 99999, 99999, 99999, 99999, 99999, 99999, 99999, 99999],
  [99999, 99999, 99999, 99999, 99999, 99999, 99999, 99999, 99999, 99999, 99999, 99999, 99999, 99999, 99999, 99999],
  [99999, 99999, 99999, 99999, 99999, 99999, 99999, 99999, 99999, 99999, 99999, 99999, 99999, 99999, 99999, 99999],
  [99999, 99999, 99999, 99999, 99999, 99999, 99999, 99999, 99999, 99999, 99999, 99999, 99999, 99999, 99999, 99999],
  [99999, 99999, 99999, 99999, 99999, 99999, 99999, 99999, 99999, 99999, 99999, 99999, 99999, 0, 0, 0],
  [0, 0, 99999, 99999, 99999, 99999, 99999, 99999, 99999, 99999, 99999, 99999, 99999, 99999, 99999, 99999]] 99999
def g_hd (f : Nat) : Bool := [54, 55, 56, 57, 58, 59, 68, 77, 97, 98, 101, 102, 103, 104, 151].any (fun q => Nat.beq q f)
def g_wk (ci k : Nat) : Bool := Nat.blt ci 10 && !(Nat.beq ci 9 && Nat.beq k 1)
def g_T (d : Nat) : TT := (g_fk, g_PT, g_RY, fun f => Nat.blt (g_dp f) d && !g_THR f, g_wk)
/-- the tape's length, and all that is the reference's -/
def g_ro (o k : Nat) : Bool := (Nat.beq o 2 && Nat.beq k 1) || Nat.ble 182 o || Nat.beq o 3
def g_gg (fk : Nat → List Nat) (g : XS) : Bool := (List.range g.length).all fun o => match g[o]? with
  | some c => decide (c.1 < 100) && decide (c.2.1 < 2147483648) && (decide (c.1 < 10) || (List.range (fk (c.1 - 10)).length).all fun k => decide ((fk (c.1 - 10)).getD k 0 < 6) || decide (100 ≤ (fk (c.1 - 10)).getD k 0) || (match j_rf g o k with
    | some r => decide (0 ≤ r) && (match g[r.toNat]? with
      | some c' => decide (c'.1 = (fk (c.1 - 10)).getD k 0)
      | none => false)
    | none => false))
  | none => true
theorem g_gg_ok {fk : Nat → List Nat} {g : XS} (h : g_gg fk g = true) : GG fk g := by
  have key : ∀ (o : Nat) (c : XC), g[o]? = some c → _ := fun o c hc => by
    have h1 := List.all_eq_true.mp h o (List.mem_range.mpr (List.getElem?_eq_some_iff.mp hc).1)
    rw [hc] at h1
    exact h1
  refine ⟨fun o c hc => ?_, fun o c ci k kd hc e hk h6 h7 => ?_⟩
  · have h1 := key o c hc
    simp only [Bool.and_eq_true, decide_eq_true_eq] at h1
    exact h1.1
  · have h1 := key o c hc
    simp only [Bool.and_eq_true, Bool.or_eq_true, decide_eq_true_eq] at h1
    have eci : c.1 - 10 = ci := by omega
    rw [eci] at h1
    have h2 := List.all_eq_true.mp (h1.2.resolve_left (by omega)) k (List.mem_range.mpr (List.getElem?_eq_some_iff.mp hk).1)
    have ekd : (fk ci).getD k 0 = kd := by rw [List.getD_eq_getElem?_getD, hk]; rfl
    rw [ekd] at h2
    simp only [Bool.or_eq_true, decide_eq_true_eq] at h2
    have h3 := h2.resolve_left (by omega)
    split at h3
    · rename_i r hr
      rw [Bool.and_eq_true] at h3
      obtain ⟨h4, h5⟩ := h3
      split at h5
      · rename_i c' hc'
        exact ⟨r, hr, of_decide_eq_true h4, c', hc', of_decide_eq_true h5⟩
      · cases h5
    · cases h3
theorem g_GG : GG g_fk a_g3 := g_gg_ok (by decide +kernel)
theorem g_wk1 : (List.range a_g3.length).all (fun o => match a_g3[o]? with
  | some c => Nat.blt o 182 || decide (c.1 < 10) || decide (20 ≤ c.1)
  | none => true) = true := by decide +kernel
theorem g_wk2 : (a_g3[2]?).map (fun c => c.1) = some 19 := by decide +kernel
theorem g_wk3 : (a_g3[3]?).map (fun c => c.1) = some 8 := by decide +kernel
theorem g_WK (d : Nat) : WK (g_T d) a_g3 g_ro := by
  intro ci k hw o c hc e
  have hw : g_wk ci k = true := hw
  cases hr : g_ro o k with
  | false => rfl
  | true =>
    exfalso
    simp only [g_ro, Bool.or_eq_true, Bool.and_eq_true, Nat.beq_eq, Nat.ble_eq] at hr
    simp only [g_wk, Bool.and_eq_true, Bool.not_eq_true', Nat.blt_eq] at hw
    rcases hr with (⟨rfl, rfl⟩ | hr) | rfl
    · have h2 := g_wk2
      rw [hc] at h2
      have h3 : c.1 = 19 := Option.some.inj h2
      have h4 : ci = 9 := by omega
      subst h4
      exact absurd hw.2 (by decide)
    · have h1 := List.all_eq_true.mp g_wk1 o (List.mem_range.mpr (List.getElem?_eq_some_iff.mp hc).1)
      rw [hc] at h1
      simp only [Bool.or_eq_true, decide_eq_true_eq, Nat.blt_eq] at h1
      omega
    · have h2 := g_wk3
      rw [hc] at h2
      have h3 : c.1 = 8 := Option.some.inj h2
      omega
def g_tc (f : Nat) : Bool := tyM (g_T (g_dp f)) g_M g_THR f && tyMk (g_T 0) g_M f
def g_tk (f : Nat) : Bool := Nat.beq (g_dp f) 99999 || g_hd f || g_tc f
def g_tg (f : Nat) : Bool := (g_PT f).all (fun t => Nat.blt t 300) && (g_RY f).all (fun t => Nat.blt t 300)
theorem tk_0 : ∀ f, 0 ≤ f → f < 16 → g_tk f = true ∧ g_tg f = true := by
  have h : (List.range 16).all (fun k => g_tk (0 + k) && g_tg (0 + k)) = true := by decide +kernel
  intro f h1 h2
  have h3 := List.all_eq_true.mp h (f - 0) (List.mem_range.mpr (by omega))
  rw [show 0 + (f - 0) = f by omega, Bool.and_eq_true] at h3
  exact h3
theorem tk_1 : ∀ f, 16 ≤ f → f < 32 → g_tk f = true ∧ g_tg f = true := by
  have h : (List.range 16).all (fun k => g_tk (16 + k) && g_tg (16 + k)) = true := by decide +kernel
  intro f h1 h2
  have h3 := List.all_eq_true.mp h (f - 16) (List.mem_range.mpr (by omega))
  rw [show 16 + (f - 16) = f by omega, Bool.and_eq_true] at h3
  exact h3
theorem tk_2 : ∀ f, 32 ≤ f → f < 48 → g_tk f = true ∧ g_tg f = true := by
  have h : (List.range 16).all (fun k => g_tk (32 + k) && g_tg (32 + k)) = true := by decide +kernel
  intro f h1 h2
  have h3 := List.all_eq_true.mp h (f - 32) (List.mem_range.mpr (by omega))
  rw [show 32 + (f - 32) = f by omega, Bool.and_eq_true] at h3
  exact h3
theorem tk_3 : ∀ f, 48 ≤ f → f < 64 → g_tk f = true ∧ g_tg f = true := by
  have h : (List.range 16).all (fun k => g_tk (48 + k) && g_tg (48 + k)) = true := by decide +kernel
  intro f h1 h2
  have h3 := List.all_eq_true.mp h (f - 48) (List.mem_range.mpr (by omega))
  rw [show 48 + (f - 48) = f by omega, Bool.and_eq_true] at h3
  exact h3
theorem tk_4 : ∀ f, 64 ≤ f → f < 80 → g_tk f = true ∧ g_tg f = true := by
  have h : (List.range 16).all (fun k => g_tk (64 + k) && g_tg (64 + k)) = true := by decide +kernel
  intro f h1 h2
  have h3 := List.all_eq_true.mp h (f - 64) (List.mem_range.mpr (by omega))
  rw [show 64 + (f - 64) = f by omega, Bool.and_eq_true] at h3
  exact h3
theorem tk_5 : ∀ f, 80 ≤ f → f < 96 → g_tk f = true ∧ g_tg f = true := by
  have h : (List.range 16).all (fun k => g_tk (80 + k) && g_tg (80 + k)) = true := by decide +kernel
  intro f h1 h2
  have h3 := List.all_eq_true.mp h (f - 80) (List.mem_range.mpr (by omega))
  rw [show 80 + (f - 80) = f by omega, Bool.and_eq_true] at h3
  exact h3
theorem tk_6 : ∀ f, 96 ≤ f → f < 112 → g_tk f = true ∧ g_tg f = true := by
  have h : (List.range 16).all (fun k => g_tk (96 + k) && g_tg (96 + k)) = true := by decide +kernel
  intro f h1 h2
  have h3 := List.all_eq_true.mp h (f - 96) (List.mem_range.mpr (by omega))
  rw [show 96 + (f - 96) = f by omega, Bool.and_eq_true] at h3
  exact h3
theorem tk_7 : ∀ f, 112 ≤ f → f < 128 → g_tk f = true ∧ g_tg f = true := by
  have h : (List.range 16).all (fun k => g_tk (112 + k) && g_tg (112 + k)) = true := by decide +kernel
  intro f h1 h2
  have h3 := List.all_eq_true.mp h (f - 112) (List.mem_range.mpr (by omega))
  rw [show 112 + (f - 112) = f by omega, Bool.and_eq_true] at h3
  exact h3
theorem tk_8 : ∀ f, 128 ≤ f → f < 144 → g_tk f = true ∧ g_tg f = true := by
  have h : (List.range 16).all (fun k => g_tk (128 + k) && g_tg (128 + k)) = true := by decide +kernel
  intro f h1 h2
  have h3 := List.all_eq_true.mp h (f - 128) (List.mem_range.mpr (by omega))
  rw [show 128 + (f - 128) = f by omega, Bool.and_eq_true] at h3
  exact h3
theorem tk_9 : ∀ f, 144 ≤ f → f < 160 → g_tk f = true ∧ g_tg f = true := by
  have h : (List.range 16).all (fun k => g_tk (144 + k) && g_tg (144 + k)) = true := by decide +kernel
  intro f h1 h2
  have h3 := List.all_eq_true.mp h (f - 144) (List.mem_range.mpr (by omega))
  rw [show 144 + (f - 144) = f by omega, Bool.and_eq_true] at h3
  exact h3
theorem tk_10 : ∀ f, 160 ≤ f → f < 176 → g_tk f = true ∧ g_tg f = true := by
  have h : (List.range 16).all (fun k => g_tk (160 + k) && g_tg (160 + k)) = true := by decide +kernel
  intro f h1 h2
  have h3 := List.all_eq_true.mp h (f - 160) (List.mem_range.mpr (by omega))
  rw [show 160 + (f - 160) = f by omega, Bool.and_eq_true] at h3
  exact h3
theorem tk_11 : ∀ f, 176 ≤ f → f < 192 → g_tk f = true ∧ g_tg f = true := by
  have h : (List.range 16).all (fun k => g_tk (176 + k) && g_tg (176 + k)) = true := by decide +kernel
  intro f h1 h2
  have h3 := List.all_eq_true.mp h (f - 176) (List.mem_range.mpr (by omega))
  rw [show 176 + (f - 176) = f by omega, Bool.and_eq_true] at h3
  exact h3
theorem tk_12 : ∀ f, 192 ≤ f → f < 208 → g_tk f = true ∧ g_tg f = true := by
  have h : (List.range 16).all (fun k => g_tk (192 + k) && g_tg (192 + k)) = true := by decide +kernel
  intro f h1 h2
  have h3 := List.all_eq_true.mp h (f - 192) (List.mem_range.mpr (by omega))
  rw [show 192 + (f - 192) = f by omega, Bool.and_eq_true] at h3
  exact h3
theorem tk_13 : ∀ f, 208 ≤ f → f < 224 → g_tk f = true ∧ g_tg f = true := by
  have h : (List.range 16).all (fun k => g_tk (208 + k) && g_tg (208 + k)) = true := by decide +kernel
  intro f h1 h2
  have h3 := List.all_eq_true.mp h (f - 208) (List.mem_range.mpr (by omega))
  rw [show 208 + (f - 208) = f by omega, Bool.and_eq_true] at h3
  exact h3
theorem tk_14 : ∀ f, 224 ≤ f → f < 240 → g_tk f = true ∧ g_tg f = true := by
  have h : (List.range 16).all (fun k => g_tk (224 + k) && g_tg (224 + k)) = true := by decide +kernel
  intro f h1 h2
  have h3 := List.all_eq_true.mp h (f - 224) (List.mem_range.mpr (by omega))
  rw [show 224 + (f - 224) = f by omega, Bool.and_eq_true] at h3
  exact h3
theorem tk_15 : ∀ f, 240 ≤ f → f < 256 → g_tk f = true ∧ g_tg f = true := by
  have h : (List.range 16).all (fun k => g_tk (240 + k) && g_tg (240 + k)) = true := by decide +kernel
  intro f h1 h2
  have h3 := List.all_eq_true.mp h (f - 240) (List.mem_range.mpr (by omega))
  rw [show 240 + (f - 240) = f by omega, Bool.and_eq_true] at h3
  exact h3
theorem tk_16 : ∀ f, 256 ≤ f → f < 272 → g_tk f = true ∧ g_tg f = true := by
  have h : (List.range 16).all (fun k => g_tk (256 + k) && g_tg (256 + k)) = true := by decide +kernel
  intro f h1 h2
  have h3 := List.all_eq_true.mp h (f - 256) (List.mem_range.mpr (by omega))
  rw [show 256 + (f - 256) = f by omega, Bool.and_eq_true] at h3
  exact h3
theorem tk_17 : ∀ f, 272 ≤ f → f < 288 → g_tk f = true ∧ g_tg f = true := by
  have h : (List.range 16).all (fun k => g_tk (272 + k) && g_tg (272 + k)) = true := by decide +kernel
  intro f h1 h2
  have h3 := List.all_eq_true.mp h (f - 272) (List.mem_range.mpr (by omega))
  rw [show 272 + (f - 272) = f by omega, Bool.and_eq_true] at h3
  exact h3
theorem tk_18 : ∀ f, 288 ≤ f → f < 304 → g_tk f = true ∧ g_tg f = true := by
  have h : (List.range 16).all (fun k => g_tk (288 + k) && g_tg (288 + k)) = true := by decide +kernel
  intro f h1 h2
  have h3 := List.all_eq_true.mp h (f - 288) (List.mem_range.mpr (by omega))
  rw [show 288 + (f - 288) = f by omega, Bool.and_eq_true] at h3
  exact h3
theorem tk_19 : ∀ f, 304 ≤ f → f < 320 → g_tk f = true ∧ g_tg f = true := by
  have h : (List.range 16).all (fun k => g_tk (304 + k) && g_tg (304 + k)) = true := by decide +kernel
  intro f h1 h2
  have h3 := List.all_eq_true.mp h (f - 304) (List.mem_range.mpr (by omega))
  rw [show 304 + (f - 304) = f by omega, Bool.and_eq_true] at h3
  exact h3
theorem tk_20 : ∀ f, 320 ≤ f → f < 336 → g_tk f = true ∧ g_tg f = true := by
  have h : (List.range 16).all (fun k => g_tk (320 + k) && g_tg (320 + k)) = true := by decide +kernel
  intro f h1 h2
  have h3 := List.all_eq_true.mp h (f - 320) (List.mem_range.mpr (by omega))
  rw [show 320 + (f - 320) = f by omega, Bool.and_eq_true] at h3
  exact h3
theorem tk_21 : ∀ f, 336 ≤ f → f < 352 → g_tk f = true ∧ g_tg f = true := by
  have h : (List.range 16).all (fun k => g_tk (336 + k) && g_tg (336 + k)) = true := by decide +kernel
  intro f h1 h2
  have h3 := List.all_eq_true.mp h (f - 336) (List.mem_range.mpr (by omega))
  rw [show 336 + (f - 336) = f by omega, Bool.and_eq_true] at h3
  exact h3
theorem tk_all : ∀ f, g_tk f = true ∧ g_tg f = true := fun f => by
  by_cases h : f < 352
  · exact (ab_two (b := 176) (ab_two (b := 80) (ab_two (b := 32) (ab_two (b := 16) (tk_0) (tk_1)) (ab_two (b := 48) (tk_2) (ab_two (b := 64) (tk_3) (tk_4)))) (ab_two (b := 128) (ab_two (b := 96) (tk_5) (ab_two (b := 112) (tk_6) (tk_7))) (ab_two (b := 144) (tk_8) (ab_two (b := 160) (tk_9) (tk_10))))) (ab_two (b := 256) (ab_two (b := 208) (ab_two (b := 192) (tk_11) (tk_12)) (ab_two (b := 224) (tk_13) (ab_two (b := 240) (tk_14) (tk_15)))) (ab_two (b := 304) (ab_two (b := 272) (tk_16) (ab_two (b := 288) (tk_17) (tk_18))) (ab_two (b := 320) (tk_19) (ab_two (b := 336) (tk_20) (tk_21))))) : ∀ f, 0 ≤ f → f < 352 → g_tk f = true ∧ g_tg f = true) f (Nat.zero_le f) h
  · have e1 : g_dp f = 99999 := by
      unfold g_dp
      exact t_out (by show 352 ≤ f; omega)
    have e2 : g_PT f = [] := by
      unfold g_PT
      exact t_out (by show 352 ≤ f; omega)
    have e3 : g_RY f = [] := by
      unfold g_RY
      exact t_out (by show 352 ≤ f; omega)
    unfold g_tk g_tg
    rw [e1, e2, e3]
    exact ⟨rfl, rfl⟩
theorem g_TG (d : Nat) : TG (g_T d) := fun f _ => by
  have h := (tk_all f).2
  rw [g_tg, Bool.and_eq_true] at h
  exact h
end
section
/-! ===== loops by an invariant; the class's leaves by hand ===== -/
/-- a loop: from each state of the invariant it ends, or goes on to one with a smaller measure -/
theorem lp_gen {g : XS × Nat × Nat} {C' : XE} {B' P' : XR} {Inv Done : List Int → XH → Prop} {Ret : List Int → XH → Prop} {mea : List Int → XH → Nat}
    (hs : ∀ en h, Inv en h → (∃ h', C' en (g, h) = some ([0], (g, h')) ∧ Done en h') ∨ ∃ v h1, v ≠ 0 ∧ C' en (g, h) = some ([v], (g, h1)) ∧ ∃ c vals en1 h2, B' en (g, h1) = some (c, vals, en1, (g, h2)) ∧
      (((c = 0 ∨ c = 3) ∧ ∃ en2 h3, P' en1 (g, h2) = some (0, [], en2, (g, h3)) ∧ Inv en2 h3 ∧ mea en2 h3 < mea en h) ∨ (c = 2 ∧ Done en1 h2) ∨ (c = 1 ∧ Ret vals h2))) :
    ∀ (k m : Nat) (en : List Int) (h : XH), Inv en h → mea en h ≤ m → m < k → (∃ en' h', s_loop C' B' P' k en (g, h) = some (0, [], en', (g, h')) ∧ Done en' h') ∨ ∃ vals en' h', s_loop C' B' P' k en (g, h) = some (1, vals, en', (g, h')) ∧ Ret vals h' := by
  intro k
  induction k with
  | zero => exact fun m en h _ _ hk => absurd hk (by omega)
  | succ k ih =>
    intro m en h hI hm hk
    rcases hs en h hI with ⟨h', e1, e2⟩ | ⟨v, h1, hv, e1, c, vals, en1, h2, f1, f2⟩
    · refine Or.inl ⟨en, h', ?_, e2⟩
      unfold s_loop
      rw [e1, Option.bind_some]
      exact if_pos rfl
    · have hl : s_loop C' B' P' (k + 1) en (g, h) = (if c = 0 ∨ c = 3 then (P' en1 (g, h2)).bind fun q => if q.1 = 0 then s_loop C' B' P' k q.2.2.1 q.2.2.2 else none else if c = 2 then some (0, [], en1, (g, h2)) else some (c, vals, en1, (g, h2))) := by
        conv => lhs; unfold s_loop
        rw [e1, Option.bind_some]
        refine (if_neg hv).trans ?_
        dsimp only
        rw [f1, Option.bind_some]
      rcases f2 with ⟨hc, en2, h3, p1, p2, p3⟩ | ⟨rfl, p⟩ | ⟨rfl, p⟩
      · have ih2 := ih (m - 1) en2 h3 p2 (by omega) (by omega)
        rw [hl, if_pos hc, p1, Option.bind_some]
        exact ih2
      · exact Or.inl ⟨en1, h2, by rw [hl]; rfl, p⟩
      · exact Or.inr ⟨vals, en1, h2, by rw [hl]; rfl, p⟩
section HAND
variable {xs : Nat → Int} {L K c d n : Nat} {h : XH}
/-- an object's row of numbers -/
theorem ref_at {ci k kd : Nat} {r : Int} {z : Nat → Int} (hr : TV z a_g3 (10 + ci) r) (hci : ci < 90) (hk : (g_fk ci)[k]? = some kd) (h6 : 6 ≤ kd) (h7 : kd < 100) : ∃ q : Int, j_rf a_g3 r.toNat k = some q ∧ 0 ≤ q ∧ ∃ c : XC, a_g3[q.toNat]? = some c ∧ c.1 = kd := by
  obtain ⟨r0, c, hc, e⟩ := hr.2.2.2.2.1 (by omega) (by omega)
  exact g_GG.2 _ c ci k kd hc e hk h6 h7
theorem len_at {q : Int} {c : XC} (hc : a_g3[q.toNat]? = some c) : j_len a_g3 q.toNat = (c.2.1 : Int) ∧ (c.2.1 : Int) < 2147483648 := by
  refine ⟨?_, ?_⟩
  · unfold j_len
    rw [hc]
  · have := (g_GG.1 _ c hc).2
    omega
/-- arrays of the class -/
theorem own_arr : (List.range a_g3.length).all (fun o => match a_g3[o]? with
  | some c => decide (c.1 < 10 ∨ 20 ≤ c.1) || (List.range c.2.2.length).all (fun k => match j_rf a_g3 o k with
    | some q => Nat.blt q.toNat 182
    | none => true)
  | none => true) = true := by decide +kernel
theorem own_at {o k : Nat} {c : XC} {q : Int} (hc : a_g3[o]? = some c) (h1 : 10 ≤ c.1) (h2 : c.1 < 20) (hq : j_rf a_g3 o k = some q) : q.toNat < 182 := by
  have h := List.all_eq_true.mp own_arr o (List.mem_range.mpr (List.getElem?_eq_some_iff.mp hc).1)
  rw [hc] at h
  simp only [Bool.or_eq_true, decide_eq_true_eq] at h
  have h3 := h.resolve_left (by omega)
  have hk : k < c.2.2.length := by
    obtain ⟨kd, l, sl⟩ := c
    unfold j_rf at hq
    rw [hc] at hq
    dsimp only at hq ⊢
    cases hs : sl[k]? with
    | none => rw [hs] at hq; cases hq
    | some z => exact (List.getElem?_eq_some_iff.mp hs).1
  have h4 := List.all_eq_true.mp h3 k (List.mem_range.mpr hk)
  rw [hq] at h4
  simpa [Nat.blt_eq] using h4
/-- an array of ints that an object of the class has may be written -/
theorem ro_arr {o k kd : Nat} {c c' : XC} {q : Int} (hc : a_g3[o]? = some c) (h1 : 10 ≤ c.1) (h2 : c.1 < 20) (hq : j_rf a_g3 o k = some q) (hc' : a_g3[q.toNat]? = some c') (he : c'.1 = kd) (hk : kd < 8) : ∀ j, g_ro q.toNat j = false := by
  intro j
  have h3 := own_at hc h1 h2 hq
  cases hr : g_ro q.toNat j with
  | false => rfl
  | true =>
    exfalso
    simp only [g_ro, Bool.or_eq_true, Bool.and_eq_true, Nat.beq_eq, Nat.ble_eq] at hr
    rcases hr with (⟨h4, -⟩ | h4) | h4
    · have h5 := g_wk2
      rw [← h4, hc'] at h5
      have h6 : c'.1 = 19 := Option.some.inj h5
      omega
    · omega
    · have h5 := g_wk3
      rw [← h4, hc'] at h5
      have h6 : c'.1 = 8 := Option.some.inj h5
      omega
theorem ty_arr {q : Nat} {c : XC} (hc : a_g3[q]? = some c) : ∀ k, (c.1 = 6 → c_ty g_fk a_g3 q k = 1) ∧ (c.1 = 7 → c_ty g_fk a_g3 q k = 2) ∧ (c.1 = 8 → c_ty g_fk a_g3 q k = 1) := by
  intro k
  obtain ⟨kd, l, sl⟩ := c
  unfold c_ty
  rw [hc]
  refine ⟨fun e => ?_, fun e => ?_, fun e => ?_⟩ <;> (dsimp only at e; subst e; rfl)
end HAND
end
section
/-! ===== rows of numbers ===== -/
section ROW
variable {xs : Nat → Int} {L K c d n : Nat} {h : XH} {ck : Nat → List Nat} {F : XP} {cW : Nat → Nat → Int} {a b e : SX}
theorem ee_28 : evE xs L ck F cW (sx 28 a b e) = n_ife (evE xs L ck F cW a) (evE xs L ck F cW b) (evE xs L ck F cW e) := rfl
theorem es_8 {op : Nat} : evS xs L ck F K cW (sx 8 a b (so op e)) = s_astC op (evE xs L ck F cW a) (evE xs L ck F cW b) (evE xs L ck F cW e) := rfl
theorem gm_54 : g_M 54 = (0, 2, [17, 1], [1], bb_54) := rfl
theorem gm_55 : g_M 55 = (0, 3, [17, 1, 1], [], bb_55) := rfl
theorem gm_56 : g_M 56 = (0, 3, [17, 1, 1], [], bb_56) := rfl
theorem row_at {z : Nat → Int} {r : Int} (hr : TV z a_g3 17 r) : ∃ (q : Int) (len : Int), j_rf a_g3 r.toNat 0 = some q ∧ j_len a_g3 q.toNat = len ∧ 0 ≤ len ∧ len < 2147483648 ∧ (∀ j, c_ty g_fk a_g3 q.toNat j = 1) ∧ ∀ j, g_ro q.toNat j = false := by
  obtain ⟨r0, c, hc, he⟩ := hr.2.2.2.2.1 (by decide) (by decide)
  obtain ⟨q, hq, q0, c', hc', he'⟩ := ref_at (ci := 7) (k := 0) (kd := 6) hr (by decide) rfl (by decide) (by decide)
  obtain ⟨h1, h2⟩ := len_at hc'
  exact ⟨q, _, hq, h1, by omega, h2, fun j => (ty_arr hc' j).1 he', ro_arr hc (by omega) (by omega) hq hc' he' (by decide)⟩
theorem row_get {r i q len : Int} (hq : j_rf a_g3 r.toNat 0 = some q) (hl : j_len a_g3 q.toNat = len) : evF xs L ck K cW g_M (n + 1) 54 [r, i] ((a_g3, c, d), h) = some (1, [if 0 ≤ i ∧ i < len then h q.toNat i.toNat else 0], ((a_g3, c, d), h)) := by
  rw [evF_s, gm_54]
  have k1 : evS xs L ck (evF xs L ck K cW g_M n) K cW bb_54 [r, i] ((a_g3, c, d), h) = some (1, [if 0 ≤ i ∧ i < len then h q.toNat i.toNat else 0], [r, i], ((a_g3, c, d), h)) := by
    generalize evF xs L ck K cW g_M n = F
    unfold bb_54
    simp only [es_16, ee_28, ee_25, ee_21, ee_20, ee_10, ee_7, ee_5, ee_3, ee_1, n_ife, n_nz, n_cmp, n_alen, n_aload, Option.bind_some, j_hd, List.headD_cons, n_sv, n_z0, List.getD_cons_zero, List.getD_cons_succ, hq, hl, j_cmp, if_true]
    by_cases h1 : 0 ≤ i <;> by_cases h2 : i < len <;> simp [h1, h2, j_b, hq, hl]
  show (evS xs L ck (evF xs L ck K cW g_M n) K cW bb_54 [r, i] ((a_g3, c, d), h)).bind _ = _
  rw [k1, Option.bind_some]
  exact if_pos chk_self
theorem row_set {r i v q len : Int} (hq : j_rf a_g3 r.toNat 0 = some q) (hl : j_len a_g3 q.toNat = len) : evF xs L ck K cW g_M (n + 1) 55 [r, i, v] ((a_g3, c, d), h) = some (1, [], ((a_g3, c, d), if 0 ≤ i ∧ i < len then j_up h q.toNat i.toNat v else h)) := by
  rw [evF_s, gm_55]
  have k1 : evS xs L ck (evF xs L ck K cW g_M n) K cW bb_55 [r, i, v] ((a_g3, c, d), h) = some (1, [], [r, i, v], ((a_g3, c, d), if 0 ≤ i ∧ i < len then j_up h q.toNat i.toNat v else h)) := by
    generalize evF xs L ck K cW g_M n = F
    unfold bb_55
    simp only [es_2, es_10, es_20, es_7, es_17, s_seq, s_if, s_ast, ee_25, ee_21, ee_20, ee_10, ee_5, ee_3, ee_1, n_ife, n_nz, n_cmp, n_alen, Option.bind_some, j_hd, List.headD_cons, n_sv, n_z0, List.getD_cons_zero, List.getD_cons_succ, hq, hl, j_cmp, if_true]
    by_cases h1 : 0 ≤ i <;> by_cases h2 : i < len <;> simp [h1, h2, j_b, hq, hl]
  show (evS xs L ck (evF xs L ck K cW g_M n) K cW bb_55 [r, i, v] ((a_g3, c, d), h)).bind _ = _
  rw [k1, Option.bind_some]
  exact if_pos chk_self
theorem row_add {r i v q len : Int} (hq : j_rf a_g3 r.toNat 0 = some q) (hl : j_len a_g3 q.toNat = len) : evF xs L ck K cW g_M (n + 1) 56 [r, i, v] ((a_g3, c, d), h) = some (1, [], ((a_g3, c, d), if 0 ≤ i ∧ i < len then j_up h q.toNat i.toNat (j_iop 0 (h q.toNat i.toNat) v) else h)) := by
  rw [evF_s, gm_56]
  have k1 : evS xs L ck (evF xs L ck K cW g_M n) K cW bb_56 [r, i, v] ((a_g3, c, d), h) = some (1, [], [r, i, v], ((a_g3, c, d), if 0 ≤ i ∧ i < len then j_up h q.toNat i.toNat (j_iop 0 (h q.toNat i.toNat) v) else h)) := by
    generalize evF xs L ck K cW g_M n = F
    unfold bb_56
    simp only [es_2, es_10, es_20, es_8, es_17, s_seq, s_if, s_astC, ee_25, ee_21, ee_20, ee_10, ee_5, ee_3, ee_1, n_ife, n_nz, n_cmp, n_alen, Option.bind_some, j_hd, List.headD_cons, n_sv, n_z0, List.getD_cons_zero, List.getD_cons_succ, hq, hl, j_cmp, if_true]
    by_cases h1 : 0 ≤ i <;> by_cases h2 : i < len <;> simp [h1, h2, j_b, hq, hl]
  show (evS xs L ck (evF xs L ck K cW g_M n) K cW bb_56 [r, i, v] ((a_g3, c, d), h)).bind _ = _
  rw [k1, Option.bind_some]
  exact if_pos chk_self
theorem VL2 {z : Nat → Int} {g : XS} {s t : Nat} {av : List Int} (h : VL z g [s, t] av) : ∃ v w, av = [v, w] ∧ TV z g s v ∧ TV z g t w := by
  match av, h with
  | [v, w], h => exact ⟨v, w, rfl, h.1, h.2.1⟩
theorem VL3 {z : Nat → Int} {g : XS} {s t u : Nat} {av : List Int} (h : VL z g [s, t, u] av) : ∃ v w x, av = [v, w, x] ∧ TV z g s v ∧ TV z g t w ∧ TV z g u x := by
  match av, h with
  | [v, w, x], h => exact ⟨v, w, x, rfl, h.1, h.2.1, h.2.2.1⟩
theorem up_i {q k : Nat} {v : Int} {hh : XH} (ht : ∀ j, c_ty g_fk a_g3 q j = 1) (hH : HT g_fk a_g3 hh) (hv : InI v) : HT g_fk a_g3 (j_up hh q k v) := hH.up (fun _ => hv) (fun e => absurd ((ht _).symm.trans e) (by decide)) (fun e => absurd ((ht _).symm.trans e) (by decide))
theorem tot_54 : TotF (g_T 0) (a_g3, c, d) g_ro (evF xs L ck K cW g_M (n + 1)) 54 := by
  intro av hh hH hv
  obtain ⟨r, i, rfl, hr, hi⟩ := VL2 (s := 17) (t := 1) hv
  obtain ⟨q, len, hq, hl, l0, l1, ht, hro⟩ := row_at hr
  refine ⟨_, hh, row_get hq hl, hH, FR.rf, ?_, trivial⟩
  refine TV.int ?_
  split
  · exact (hH q.toNat i.toNat).1 (ht _)
  · exact in_0
theorem tot_55 : TotF (g_T 0) (a_g3, c, d) g_ro (evF xs L ck K cW g_M (n + 1)) 55 := by
  intro av hh hH hv
  obtain ⟨r, i, v, rfl, hr, hi, hv2⟩ := VL3 (s := 17) (t := 1) (u := 1) hv
  obtain ⟨q, len, hq, hl, l0, l1, ht, hro⟩ := row_at hr
  refine ⟨_, _, row_set hq hl, ?_, ?_, trivial⟩
  · split
    · exact up_i ht hH (hv2.1 rfl)
    · exact hH
  · split
    · exact FR.up (hro _)
    · exact FR.rf
theorem tot_56 : TotF (g_T 0) (a_g3, c, d) g_ro (evF xs L ck K cW g_M (n + 1)) 56 := by
  intro av hh hH hv
  obtain ⟨r, i, v, rfl, hr, hi, hv2⟩ := VL3 (s := 17) (t := 1) (u := 1) hv
  obtain ⟨q, len, hq, hl, l0, l1, ht, hro⟩ := row_at hr
  refine ⟨_, _, row_add hq hl, ?_, ?_, trivial⟩
  · split
    · exact up_i ht hH (iop_in _ _ _)
    · exact hH
  · split
    · exact FR.up (hro _)
    · exact FR.rf
end ROW
end
section
/-! ===== loops of the class's leaves (written by wip/tools/hand.py) ===== -/
def lc_57 : SX := (sx 20 (sx 3 (sv 2) z0 z0) (sx 10 (sx 5 (sx 3 z0 z0 z0) z0 z0) z0 z0) (sv 2))
def lb_57 : SX := (sx 20 (sx 7 (sx 5 (sx 3 z0 z0 z0) z0 z0) (sx 3 (sv 2) z0 z0) (so 6 (sx 3 (sv 1) z0 z0))) z0 z0)
def ls_57 : SX := (sx 4 (sv 2) (sv 1) z0)
theorem lq_57 : bb_57 = sx 2 (sx 20 (sx 2 (sx 3 (sv 2) (sx 1 z0 (sv 1) z0) z0) (sx 12 lc_57 lb_57 ls_57) z0) z0 z0) (sx 17 z0 z0 z0) z0 := rfl
theorem gm_57 : g_M 57 = (0, 3, [17, 1], [], bb_57) := rfl
def lc_58 : SX := (sx 25 (sx 20 (sx 3 (sv 2) z0 z0) (sx 10 (sx 5 (sx 3 z0 z0 z0) z0 z0) z0 z0) (sv 2)) (sx 20 (sx 3 (sv 2) z0 z0) (sx 10 (sx 5 (sx 3 (sv 1) z0 z0) z0 z0) z0 z0) (sv 2)) z0)
def lb_58 : SX := (sx 20 (sx 7 (sx 5 (sx 3 z0 z0 z0) z0 z0) (sx 3 (sv 2) z0 z0) (so 6 (sx 7 (sx 5 (sx 3 (sv 1) z0 z0) z0 z0) (sx 3 (sv 2) z0 z0) z0))) z0 z0)
def ls_58 : SX := (sx 4 (sv 2) (sv 1) z0)
theorem lq_58 : bb_58 = sx 2 (sx 20 (sx 2 (sx 3 (sv 2) (sx 1 z0 (sv 1) z0) z0) (sx 12 lc_58 lb_58 ls_58) z0) z0 z0) (sx 17 z0 z0 z0) z0 := rfl
theorem gm_58 : g_M 58 = (0, 3, [17, 17], [], bb_58) := rfl
def lc_59 : SX := (sx 25 (sx 21 (sx 3 (sv 1) z0 z0) z0 (sv 3)) (sx 20 (sx 3 (sv 2) z0 z0) (sx 14 (sx 10 (sx 5 (sx 3 z0 z0 z0) z0 z0) z0 z0) (sx 3 (sv 1) z0 z0) (sv 1)) (sv 2)) z0)
def lb_59 : SX := (sx 20 (sx 7 (sx 5 (sx 3 z0 z0 z0) z0 z0) (sx 3 (sv 2) z0 z0) (so 6 (sx 7 (sx 5 (sx 3 z0 z0 z0) z0 z0) (sx 14 (sx 3 (sv 2) z0 z0) (sx 3 (sv 1) z0 z0) z0) z0))) z0 z0)
def ls_59 : SX := (sx 4 (sv 2) (sv 1) z0)
theorem lq_59 : bb_59 = sx 2 (sx 20 (sx 2 (sx 3 (sv 2) (sx 1 z0 (sv 1) z0) z0) (sx 12 lc_59 lb_59 ls_59) z0) z0 z0) (sx 17 z0 z0 z0) z0 := rfl
theorem gm_59 : g_M 59 = (0, 3, [17, 1], [], bb_59) := rfl
def lc_77 : SX := (sx 25 (sx 20 (sx 4 (sx 3 z0 z0 z0) (sv 3) z0) (sx 1 (sv 1) (sv 1) z0) z0) (sx 20 (sx 3 (sv 1) z0 z0) (sx 10 (sx 1 z0 (sv 4) z0) z0 (sv 2)) (sv 2)) z0)
def lb_77 : SX := (sx 20 (sx 10 (sx 22 (sx 13 (sx 7 (sx 1 z0 (sv 4) z0) (sx 3 (sv 1) z0 z0) (sv 2)) z0 z0) (sx 4 (sx 3 z0 z0 z0) (sv 6) z0) z0) (sx 20 (sx 16 (sx 7 (sx 1 z0 (sv 4) z0) (sx 3 (sv 1) z0 z0) (sv 2)) z0 z0) z0 z0) z0) z0 z0)
def ls_77 : SX := (sx 4 (sv 1) (sv 1) z0)
theorem lq_77 : bb_77 = sx 2 (sx 20 (sx 2 (sx 3 (sv 1) (sx 1 z0 (sv 1) z0) z0) (sx 12 lc_77 lb_77 ls_77) z0) z0 z0) (sx 16 (sx 1 (sv 23) (sv 3) z0) z0 z0) z0 := rfl
theorem gm_77 : g_M 77 = (0, 2, [19], [3], bb_77) := rfl
def lc_105 : SX := (sx 25 (sx 20 (sx 3 (sv 5) z0 z0) (sx 3 (sv 4) z0 z0) (sv 2)) (sx 20 (sx 14 (sx 3 (sv 3) z0 z0) (sx 3 (sv 5) z0 z0) z0) (sx 10 (sx 5 (sx 3 z0 z0 z0) z0 z0) z0 z0) (sv 2)) z0)
def lb_105 : SX := (sx 20 (sx 10 (sx 22 (sx 7 (sx 5 (sx 3 z0 z0 z0) z0 z0) (sx 14 (sx 3 (sv 3) z0 z0) (sx 3 (sv 5) z0 z0) z0) z0) (sx 3 (sv 1) z0 z0) z0) (sx 20 (sx 16 (sx 3 (sv 5) z0 z0) z0 z0) z0 z0) z0) z0 z0)
def ls_105 : SX := (sx 4 (sv 5) (sv 1) z0)
theorem lq_105 : bb_105 = sx 2 (sx 20 (sx 2 (sx 3 (sv 5) (sx 1 z0 (sv 1) z0) z0) (sx 12 lc_105 lb_105 ls_105) z0) z0 z0) (sx 16 (sx 1 (sv 1) (sv 1) (sv 1)) z0 z0) z0 := rfl
theorem gm_105 : g_M 105 = (0, 6, [15, 2, 1, 1], [1], bb_105) := rfl
def lc_151 : SX := (sx 20 (sx 3 (sv 4) z0 z0) (sx 3 (sv 3) z0 z0) (sv 5))
def lb_151 : SX := (sx 20 (sx 10 (sx 20 (sx 32 (sx 30 (sx 5 (sx 3 z0 z0 z0) z0 z0) (sx 30 (sx 14 (sx 14 (sx 3 (sv 1) z0 z0) (sx 1 (sv 13) (sv 1) z0) (sv 2)) (sx 3 (sv 4) z0 z0) z0) (sx 31 z0 z0 z0) z0) z0) (sv 54) z0) (sx 1 (sv 1) (sv 1) (sv 1)) (sv 1)) (sx 20 (sx 16 (sx 3 (sv 4) z0 z0) z0 z0) z0 z0) z0) z0 z0)
def ls_151 : SX := (sx 4 (sv 4) (sv 1) z0)
theorem lq_151 : bb_151 = sx 2 (sx 20 (sx 2 (sx 3 (sv 4) (sx 14 (sx 3 (sv 2) z0 z0) (sx 1 (sv 1) (sv 1) z0) z0) z0) (sx 12 lc_151 lb_151 ls_151) z0) z0 z0) (sx 16 (sx 1 (sv 1) (sv 1) (sv 1)) z0 z0) z0 := rfl
theorem gm_151 : g_M 151 = (0, 5, [12, 1, 1, 1], [1], bb_151) := rfl
section LEAF
variable {xs : Nat → Int} {L K c d n : Nat} {ck : Nat → List Nat} {cW : Nat → Nat → Int}
theorem j32_up {i l : Int} (h0 : 0 ≤ i) (h1 : i < l) (h2 : l < 2147483648) : j32 (i + 1) = i + 1 := j32_in ⟨by omega, by omega⟩
theorem tot_57 (hK : 4294967300 ≤ K) : TotF (g_T 0) (a_g3, c, d) g_ro (evF xs L ck K cW g_M (n + 1)) 57 := by
  intro av hh hH hv
  obtain ⟨r, v, rfl, hr, hvi⟩ := VL2 (s := 17) (t := 1) hv
  obtain ⟨q, len, hq, hl, l0, l1, ht, hro⟩ := row_at hr
  have hv1 := hvi.1 rfl
  have go := lp_gen (g := (a_g3, c, d)) (C' := evE xs L ck (evF xs L ck K cW g_M n) cW lc_57) (B' := evS xs L ck (evF xs L ck K cW g_M n) K cW lb_57) (P' := evS xs L ck (evF xs L ck K cW g_M n) K cW ls_57)
    (Inv := fun en h => ∃ i : Int, en = [r, v, i] ∧ 0 ≤ i ∧ i ≤ len ∧ HT g_fk a_g3 h ∧ FR g_ro hh h) (Done := fun _ h => HT g_fk a_g3 h ∧ FR g_ro hh h) (Ret := fun _ _ => False) (mea := fun en _ => (len - en.getD 2 0).toNat) (by
    rintro en h ⟨i, rfl, i0, i1, h1, h2⟩
    have hc : evE xs L ck (evF xs L ck K cW g_M n) cW lc_57 [r, v, i] ((a_g3, c, d), h) = some ([j_b (decide (i < len))], ((a_g3, c, d), h)) := by
      unfold lc_57
      simp only [ee_20, ee_10, ee_5, ee_3, n_cmp, n_alen, Option.bind_some, j_hd, List.headD_cons, n_sv, n_z0, List.getD_cons_zero, List.getD_cons_succ, hq, hl, j_cmp]
      rfl
    by_cases hi : i < len
    · refine Or.inr ⟨1, h, by decide, by rw [hc, decide_eq_true hi]; rfl, 0, [], [r, v, i], j_up h q.toNat i.toNat v, ?_, Or.inl ⟨Or.inl rfl, [r, v, i + 1], j_up h q.toNat i.toNat v, ?_, ⟨i + 1, rfl, by omega, by omega, up_i ht h1 hv1, h2.tr (FR.up (hro _))⟩, ?_⟩⟩
      · unfold lb_57
        simp only [es_20, es_7, s_ast, ee_5, ee_3, Option.bind_some, j_hd, List.headD_cons, n_sv, n_z0, List.getD_cons_zero, List.getD_cons_succ, hq]
        simp [hl, i0, hi]
      · show some (0, [], [r, v, j32 (i + 1)], _) = _
        rw [j32_up i0 hi l1]
      · show (len - (i + 1)).toNat < (len - i).toNat
        omega
    · exact Or.inl ⟨h, by rw [hc, decide_eq_false hi]; rfl, h1, h2⟩) K (len - 0).toNat [r, v, 0] hh ⟨0, rfl, Int.le_refl _, l0, hH, FR.rf⟩ (Nat.le_refl _) (by omega)
  obtain ⟨en', h', e1, e2, e3⟩ := go.resolve_right (fun ⟨_, _, _, _, k⟩ => k)
  refine ⟨[], h', ?_, e2, e3, trivial⟩
  rw [evF_s, gm_57]
  have k1 : evS xs L ck (evF xs L ck K cW g_M n) K cW bb_57 [r, v, 0] ((a_g3, c, d), hh) = some (1, [], en', ((a_g3, c, d), h')) := by
    rw [lq_57, es_2, es_20, es_2, es_3, es_12, es_17, ee_1]
    unfold s_seq
    dsimp only
    simp only [Option.bind_some, if_true]
    rw [show [r, v, 0].set (sx_n (sv 2)) (j_hd [if sx_n z0 = 0 then (sx_n z0 : Int) else -(sx_n z0 : Int)]) = [r, v, 0] from rfl, e1]
    rfl
  show (evS xs L ck (evF xs L ck K cW g_M n) K cW bb_57 [r, v, 0] ((a_g3, c, d), hh)).bind _ = _
  rw [k1, Option.bind_some]
  exact if_pos chk_self
theorem tot_58 (hK : 4294967300 ≤ K) : TotF (g_T 0) (a_g3, c, d) g_ro (evF xs L ck K cW g_M (n + 1)) 58 := by
  intro av hh hH hv
  obtain ⟨r, v, rfl, hr, hr2⟩ := VL2 (s := 17) (t := 17) hv
  obtain ⟨q, len, hq, hl, l0, l1, ht, hro⟩ := row_at hr
  obtain ⟨q2, len2, hq2, hl2, l02, l12, ht2, hro2⟩ := row_at hr2
  have go := lp_gen (g := (a_g3, c, d)) (C' := evE xs L ck (evF xs L ck K cW g_M n) cW lc_58) (B' := evS xs L ck (evF xs L ck K cW g_M n) K cW lb_58) (P' := evS xs L ck (evF xs L ck K cW g_M n) K cW ls_58)
    (Inv := fun en h => ∃ i : Int, en = [r, v, i] ∧ 0 ≤ i ∧ i ≤ len ∧ HT g_fk a_g3 h ∧ FR g_ro hh h) (Done := fun _ h => HT g_fk a_g3 h ∧ FR g_ro hh h) (Ret := fun _ _ => False) (mea := fun en _ => (len - en.getD 2 0).toNat) (by
    rintro en h ⟨i, rfl, i0, i1, h1, h2⟩
    have hc : evE xs L ck (evF xs L ck K cW g_M n) cW lc_58 [r, v, i] ((a_g3, c, d), h) = some ([j_b (decide (i < len) && decide (i < len2))], ((a_g3, c, d), h)) := by
      unfold lc_58
      simp only [ee_25, n_ife, n_nz, ee_20, ee_10, ee_5, ee_3, n_cmp, n_alen, Option.bind_some, j_hd, List.headD_cons, n_sv, n_z0, List.getD_cons_zero, List.getD_cons_succ, hq, hl, hq2, hl2, j_cmp]
      by_cases a1 : i < len <;> by_cases a2 : i < len2 <;> simp [a1, a2, j_b]
    by_cases hi : i < len ∧ i < len2
    · refine Or.inr ⟨1, h, by decide, by rw [hc, decide_eq_true hi.1, decide_eq_true hi.2]; rfl, 0, [], [r, v, i], j_up h q.toNat i.toNat (h q2.toNat i.toNat), ?_, Or.inl ⟨Or.inl rfl, [r, v, i + 1], j_up h q.toNat i.toNat (h q2.toNat i.toNat), ?_, ⟨i + 1, rfl, by omega, by omega, up_i ht h1 ((h1 q2.toNat i.toNat).1 (ht2 _)), h2.tr (FR.up (hro _))⟩, ?_⟩⟩
      · unfold lb_58
        simp only [es_20, es_7, s_ast, ee_7, n_aload, ee_5, ee_3, Option.bind_some, j_hd, List.headD_cons, n_sv, n_z0, List.getD_cons_zero, List.getD_cons_succ, hq, hq2]
        simp [hl, hl2, i0, hi]
      · show some (0, [], [r, v, j32 (i + 1)], _) = _
        rw [j32_up i0 hi.1 l1]
      · show (len - (i + 1)).toNat < (len - i).toNat
        omega
    · refine Or.inl ⟨h, ?_, h1, h2⟩
      rw [hc]
      have : (decide (i < len) && decide (i < len2)) = false := by
        by_cases a1 : i < len
        · by_cases a2 : i < len2
          · exact absurd ⟨a1, a2⟩ hi
          · simp [a2]
        · simp [a1]
      rw [this]
      rfl) K (len - 0).toNat [r, v, 0] hh ⟨0, rfl, Int.le_refl _, l0, hH, FR.rf⟩ (Nat.le_refl _) (by omega)
  obtain ⟨en', h', e1, e2, e3⟩ := go.resolve_right (fun ⟨_, _, _, _, k⟩ => k)
  refine ⟨[], h', ?_, e2, e3, trivial⟩
  rw [evF_s, gm_58]
  have k1 : evS xs L ck (evF xs L ck K cW g_M n) K cW bb_58 [r, v, 0] ((a_g3, c, d), hh) = some (1, [], en', ((a_g3, c, d), h')) := by
    rw [lq_58, es_2, es_20, es_2, es_3, es_12, es_17, ee_1]
    unfold s_seq
    dsimp only
    simp only [Option.bind_some, if_true]
    rw [show [r, v, 0].set (sx_n (sv 2)) (j_hd [if sx_n z0 = 0 then (sx_n z0 : Int) else -(sx_n z0 : Int)]) = [r, v, 0] from rfl, e1]
    rfl
  show (evS xs L ck (evF xs L ck K cW g_M n) K cW bb_58 [r, v, 0] ((a_g3, c, d), hh)).bind _ = _
  rw [k1, Option.bind_some]
  exact if_pos chk_self
end LEAF
section LEAF2
variable {xs : Nat → Int} {L K c d n : Nat} {ck : Nat → List Nat} {cW : Nat → Nat → Int} {F : XP} {a b e : SX}
theorem tot_59 (hK : 4294967300 ≤ K) : TotF (g_T 0) (a_g3, c, d) g_ro (evF xs L ck K cW g_M (n + 1)) 59 := by
  intro av hh hH hv
  obtain ⟨r, v, rfl, hr, hvi⟩ := VL2 (s := 17) (t := 1) hv
  obtain ⟨q, len, hq, hl, l0, l1, ht, hro⟩ := row_at hr
  have hv1 := hvi.1 rfl
  unfold InI at hv1
  have go := lp_gen (g := (a_g3, c, d)) (C' := evE xs L ck (evF xs L ck K cW g_M n) cW lc_59) (B' := evS xs L ck (evF xs L ck K cW g_M n) K cW lb_59) (P' := evS xs L ck (evF xs L ck K cW g_M n) K cW ls_59)
    (Inv := fun en h => ∃ i : Int, en = [r, v, i] ∧ 0 ≤ i ∧ i ≤ len ∧ HT g_fk a_g3 h ∧ FR g_ro hh h) (Done := fun _ h => HT g_fk a_g3 h ∧ FR g_ro hh h) (Ret := fun _ _ => False) (mea := fun en _ => (len - en.getD 2 0).toNat) (by
    rintro en h ⟨i, rfl, i0, i1, h1, h2⟩
    by_cases hi : 0 ≤ v ∧ i < len - v
    · have e9 : j_iop 1 len v = len - v := j32_in ⟨by omega, by omega⟩
      have e8 : j_iop 0 i v = i + v := j32_in ⟨by omega, by omega⟩
      have hc : evE xs L ck (evF xs L ck K cW g_M n) cW lc_59 [r, v, i] ((a_g3, c, d), h) = some ([1], ((a_g3, c, d), h)) := by
        unfold lc_59
        simp only [ee_25, ee_21, n_ife, n_nz, ee_20, ee_14, n_bin, ee_10, ee_5, ee_3, n_cmp, n_alen, Option.bind_some, j_hd, List.headD_cons, n_sv, n_z0, List.getD_cons_zero, List.getD_cons_succ, hq, hl, j_cmp, e9]
        simp [hi.1, hi.2, j_b]
      refine Or.inr ⟨1, h, by decide, hc, 0, [], [r, v, i], j_up h q.toNat i.toNat (h q.toNat (i + v).toNat), ?_, Or.inl ⟨Or.inl rfl, [r, v, i + 1], j_up h q.toNat i.toNat (h q.toNat (i + v).toNat), ?_, ⟨i + 1, rfl, by omega, by omega, up_i ht h1 ((h1 q.toNat (i + v).toNat).1 (ht _)), h2.tr (FR.up (hro _))⟩, ?_⟩⟩
      · unfold lb_59
        simp only [es_20, es_7, s_ast, ee_7, n_aload, ee_14, n_bin, ee_5, ee_3, Option.bind_some, j_hd, List.headD_cons, n_sv, n_z0, List.getD_cons_zero, List.getD_cons_succ, hq, hl, e8]
        have a1 : 0 ≤ i + v ∧ i + v < len := by omega
        have a2 : 0 ≤ i ∧ i < len := by omega
        simp [hl, a1, a2]
      · show some (0, [], [r, v, j32 (i + 1)], _) = _
        rw [j32_up i0 (by omega : i < len) l1]
      · show (len - (i + 1)).toNat < (len - i).toNat
        omega
    · have hc : evE xs L ck (evF xs L ck K cW g_M n) cW lc_59 [r, v, i] ((a_g3, c, d), h) = some ([0], ((a_g3, c, d), h)) := by
        unfold lc_59
        simp only [ee_25, ee_21, n_ife, n_nz, ee_20, ee_14, n_bin, ee_10, ee_5, ee_3, n_cmp, n_alen, Option.bind_some, j_hd, List.headD_cons, n_sv, n_z0, List.getD_cons_zero, List.getD_cons_succ, hq, hl, j_cmp]
        by_cases hv0 : 0 ≤ v
        · have e9 : j_iop 1 len v = len - v := j32_in ⟨by omega, by omega⟩
          have hn : ¬ i < len - v := fun k => hi ⟨hv0, k⟩
          simp [hv0, e9, hn, j_b]
        · simp [hv0, j_b]
      exact Or.inl ⟨h, hc, h1, h2⟩) K (len - 0).toNat [r, v, 0] hh ⟨0, rfl, Int.le_refl _, l0, hH, FR.rf⟩ (Nat.le_refl _) (by omega)
  obtain ⟨en', h', e1, e2, e3⟩ := go.resolve_right (fun ⟨_, _, _, _, k⟩ => k)
  refine ⟨[], h', ?_, e2, e3, trivial⟩
  rw [evF_s, gm_59]
  have k1 : evS xs L ck (evF xs L ck K cW g_M n) K cW bb_59 [r, v, 0] ((a_g3, c, d), hh) = some (1, [], en', ((a_g3, c, d), h')) := by
    rw [lq_59, es_2, es_20, es_2, es_3, es_12, es_17, ee_1]
    unfold s_seq
    dsimp only
    simp only [Option.bind_some, if_true]
    rw [show [r, v, 0].set (sx_n (sv 2)) (j_hd [if sx_n z0 = 0 then (sx_n z0 : Int) else -(sx_n z0 : Int)]) = [r, v, 0] from rfl, e1]
    rfl
  show (evS xs L ck (evF xs L ck K cW g_M n) K cW bb_59 [r, v, 0] ((a_g3, c, d), hh)).bind _ = _
  rw [k1, Option.bind_some]
  exact if_pos chk_self
theorem gm_68 : g_M 68 = (0, 2, [19, 1], [1], bb_68) := rfl
theorem gm_101 : g_M 101 = (0, 4, [15, 1, 2], [], bb_101) := rfl
theorem tot_68 : TotF (g_T 0) (a_g3, c, d) g_ro (evF xs L ck K cW g_M (n + 1)) 68 := by
  intro av hh hH hv
  obtain ⟨r, i, rfl, hr, hi⟩ := VL2 (s := 19) (t := 1) hv
  obtain ⟨q, hq, q0, c', hc', he'⟩ := ref_at (ci := 9) (k := 0) (kd := 8) hr (by decide) rfl (by decide) (by decide)
  obtain ⟨hl, hl2⟩ := len_at hc'
  have ht := fun j => (ty_arr hc' j).2.2 he'
  generalize (c'.2.1 : Int) = len at hl hl2
  have hv1 : ∀ b : Bool, InI (if b = true then hh q.toNat i.toNat else -1) := fun b => by
    cases b
    · show InI (-1)
      exact ⟨by decide, by decide⟩
    · exact (hH q.toNat i.toNat).1 (ht _)
  refine ⟨[if (decide (0 ≤ i) && decide (i < hh r.toNat 1) && decide (i < len)) = true then hh q.toNat i.toNat else -1], hh, ?_, hH, FR.rf, TV.int (hv1 _), trivial⟩
  rw [evF_s, gm_68]
  have k1 : evS xs L ck (evF xs L ck K cW g_M n) K cW bb_68 [r, i] ((a_g3, c, d), hh) = some (1, [if (decide (0 ≤ i) && decide (i < hh r.toNat 1) && decide (i < len)) = true then hh q.toNat i.toNat else -1], [r, i], ((a_g3, c, d), hh)) := by
    generalize evF xs L ck K cW g_M n = F
    unfold bb_68
    simp only [es_16, ee_28, ee_25, ee_21, ee_20, ee_10, ee_7, ee_5, ee_4, ee_3, ee_1, n_ife, n_nz, n_cmp, n_alen, n_aload, Option.bind_some, j_hd, List.headD_cons, n_sv, n_z0, List.getD_cons_zero, List.getD_cons_succ, hq, hl, j_cmp, if_true]
    by_cases h1 : 0 ≤ i <;> by_cases h2 : i < hh r.toNat 1 <;> by_cases h3 : i < len <;> simp [h1, h2, h3, j_b, hq, hl]
  show (evS xs L ck (evF xs L ck K cW g_M n) K cW bb_68 [r, i] ((a_g3, c, d), hh)).bind _ = _
  rw [k1, Option.bind_some]
  exact if_pos chk_self
theorem tot_101 : TotF (g_T 0) (a_g3, c, d) g_ro (evF xs L ck K cW g_M (n + 1)) 101 := by
  intro av hh hH hv
  obtain ⟨r, i, v, rfl, hr, hi, hvv⟩ := VL3 (s := 15) (t := 1) (u := 2) hv
  obtain ⟨r0, c1, hc1, he1⟩ := hr.2.2.2.2.1 (by decide) (by decide)
  obtain ⟨q, hq, q0, c', hc', he'⟩ := ref_at (ci := 5) (k := 0) (kd := 7) hr (by decide) rfl (by decide) (by decide)
  obtain ⟨hl, hl2⟩ := len_at hc'
  have ht := fun j => (ty_arr hc' j).2.1 he'
  have hro := ro_arr hc1 (by omega) (by omega) hq hc' he' (by decide)
  generalize (c'.2.1 : Int) = len at hl hl2
  refine ⟨[], if 0 ≤ i ∧ i < len then j_up hh q.toNat i.toNat v else hh, ?_, ?_, ?_, trivial⟩
  · rw [evF_s, gm_101]
    have k1 : evS xs L ck (evF xs L ck K cW g_M n) K cW bb_101 [r, i, v, 0] ((a_g3, c, d), hh) = some (1, [], [r, i, v, 0], ((a_g3, c, d), if 0 ≤ i ∧ i < len then j_up hh q.toNat i.toNat v else hh)) := by
      generalize evF xs L ck K cW g_M n = F
      unfold bb_101
      simp only [es_2, es_10, es_20, es_7, es_17, s_seq, s_if, s_ast, ee_25, ee_21, ee_20, ee_10, ee_5, ee_3, ee_1, n_ife, n_nz, n_cmp, n_alen, Option.bind_some, j_hd, List.headD_cons, n_sv, n_z0, List.getD_cons_zero, List.getD_cons_succ, hq, hl, j_cmp, if_true]
      by_cases h1 : 0 ≤ i <;> by_cases h2 : i < len <;> simp [h1, h2, j_b, hq, hl]
    show (evS xs L ck (evF xs L ck K cW g_M n) K cW bb_101 [r, i, v, 0] ((a_g3, c, d), hh)).bind _ = _
    rw [k1, Option.bind_some]
    exact if_pos chk_self
  · split
    · exact HT.up hH (fun e => absurd ((ht _).symm.trans e) (by decide)) (fun _ => hvv.2.1 rfl) (fun e => absurd ((ht _).symm.trans e) (by decide))
    · exact hH
  · split
    · exact FR.up (hro _)
    · exact FR.rf
end LEAF2
end
section
/-! ===== the class's leaves: words, names, the next reading ===== -/
section LEAF3
variable {xs : Nat → Int} {L K c d n : Nat} {ck : Nat → List Nat} {cW : Nat → Nat → Int} {F : XP} {a b e : SX}
theorem ee_13 : evE xs L ck F cW (sx 13 a b e) = n_wf cW (sx_n e) (evE xs L ck F cW a) := rfl
theorem ee_22 : evE xs L ck F cW (sx 22 a b e) = n_cmp (j_cmp (sx_n e)) (evE xs L ck F cW a) (evE xs L ck F cW b) := rfl
theorem ee_17 : evE xs L ck F cW (sx 17 a b e) = fun en st => (evE xs L ck F cW a en st).bind fun x => (evE xs L ck F cW b en x.2).bind fun y => if j_hd y.1 = 0 then none else some ([j_div (sx_n e) (j_hd x.1) (j_hd y.1)], y.2) := rfl
theorem arr_small : a_g3.all (fun c => decide (c.2.1 ≤ 10000)) = true := by decide +kernel
theorem len_small {q : Nat} {c : XC} (hc : a_g3[q]? = some c) : (c.2.1 : Int) ≤ 10000 := by
  have h := List.all_eq_true.mp arr_small c (List.mem_of_getElem? hc)
  have h2 : c.2.1 ≤ 10000 := of_decide_eq_true h
  omega
theorem VL1 {z : Nat → Int} {g : XS} {s : Nat} {av : List Int} (h : VL z g [s] av) : ∃ v, av = [v] ∧ TV z g s v := by
  match av, h with
  | [v], h => exact ⟨v, rfl, h.1⟩
theorem tot_77 (hK : 4294967300 ≤ K) : TotF (g_T 0) (a_g3, c, d) g_ro (evF xs L ck K cW g_M (n + 1)) 77 := by
  intro av hh hH hv
  obtain ⟨r, rfl, hr⟩ := VL1 (s := 19) hv
  have go := lp_gen (g := (a_g3, c, d)) (C' := evE xs L ck (evF xs L ck K cW g_M n) cW lc_77) (B' := evS xs L ck (evF xs L ck K cW g_M n) K cW lb_77) (P' := evS xs L ck (evF xs L ck K cW g_M n) K cW ls_77)
    (Inv := fun en h => ∃ i : Int, en = [r, i] ∧ 0 ≤ i ∧ i ≤ 24 ∧ h = hh) (Done := fun _ h => h = hh) (Ret := fun vs h => h = hh ∧ ∃ w : Int, vs = [w] ∧ 0 ≤ w ∧ w < 24) (mea := fun en _ => (24 - en.getD 1 0).toNat) (by
    rintro en h ⟨i, rfl, i0, i1, rfl⟩
    by_cases hi : h r.toNat 3 = 1 ∧ i < 24
    · have hc : evE xs L ck (evF xs L ck K cW g_M n) cW lc_77 [r, i] ((a_g3, c, d), h) = some ([1], ((a_g3, c, d), h)) := by
        unfold lc_77
        simp only [ee_25, n_ife, n_nz, ee_20, ee_10, ee_4, ee_3, ee_1, n_cmp, n_alen, Option.bind_some, j_hd, List.headD_cons, n_sv, n_z0, List.getD_cons_zero, List.getD_cons_succ, j_cmp, if_true]
        simp [hi.1, hi.2, j_b]
      by_cases hw : cW 0 i.toNat = h r.toNat 6
      · refine Or.inr ⟨1, h, by decide, hc, 1, [i], [r, i], h, ?_, Or.inr (Or.inr ⟨rfl, rfl, i, rfl, i0, hi.2⟩)⟩
        unfold lb_77
        simp only [es_20, es_10, es_16, s_if, ee_22, ee_13, n_wf, ee_7, n_aload, ee_4, ee_3, ee_1, n_cmp, Option.bind_some, j_hd, List.headD_cons, n_sv, n_z0, List.getD_cons_zero, List.getD_cons_succ, j_cmp, if_true]
        simp [i0, hi.2, hw, j_b]
      · refine Or.inr ⟨1, h, by decide, hc, 0, [], [r, i], h, ?_, Or.inl ⟨Or.inl rfl, [r, i + 1], h, ?_, ⟨i + 1, rfl, by omega, by omega, rfl⟩, ?_⟩⟩
        · unfold lb_77
          simp only [es_20, es_10, es_16, s_if, ee_22, ee_13, n_wf, ee_7, n_aload, ee_4, ee_3, ee_1, n_cmp, Option.bind_some, j_hd, List.headD_cons, n_sv, n_z0, List.getD_cons_zero, List.getD_cons_succ, j_cmp, if_true]
          simp [i0, hi.2, hw, j_b]
        · show some (0, [], [r, j32 (i + 1)], _) = _
          rw [j32_up i0 hi.2 (by decide)]
        · show (24 - (i + 1)).toNat < (24 - i).toNat
          omega
    · refine Or.inl ⟨h, ?_, rfl⟩
      unfold lc_77
      simp only [ee_25, n_ife, n_nz, ee_20, ee_10, ee_4, ee_3, ee_1, n_cmp, n_alen, Option.bind_some, j_hd, List.headD_cons, n_sv, n_z0, List.getD_cons_zero, List.getD_cons_succ, j_cmp, if_true]
      by_cases a1 : h r.toNat 3 = 1
      · have a2 : ¬ i < 24 := fun k => hi ⟨a1, k⟩
        simp [a1, a2, j_b]
      · simp [a1, j_b]) K (24 - 0) [r, 0] hh ⟨0, rfl, Int.le_refl _, by decide, rfl⟩ (Nat.le_refl _) (by omega)
  have fin : ∀ (w : Int), 0 ≤ w → w < 24 → (∃ en', evS xs L ck (evF xs L ck K cW g_M n) K cW bb_77 [r, 0] ((a_g3, c, d), hh) = some (1, [w], en', ((a_g3, c, d), hh))) → ∃ r' h', evF xs L ck K cW g_M (n + 1) 77 [r] ((a_g3, c, d), hh) = some (1, r', ((a_g3, c, d), h')) ∧ HT g_fk a_g3 h' ∧ FR g_ro hh h' ∧ VL (fun _ => 0) a_g3 [3] r' := fun w w0 w1 ⟨en', k1⟩ => by
    refine ⟨[w], hh, ?_, hH, FR.rf, TV.word ⟨w0, w1⟩, trivial⟩
    rw [evF_s, gm_77]
    show (evS xs L ck (evF xs L ck K cW g_M n) K cW bb_77 [r, 0] ((a_g3, c, d), hh)).bind _ = _
    rw [k1, Option.bind_some]
    exact if_pos chk_self
  rcases go with ⟨en', h', e1, rfl⟩ | ⟨vs, en', h', e1, rfl, w, rfl, w0, w1⟩
  · refine fin 23 (by decide) (by decide) ⟨en', ?_⟩
    rw [lq_77, es_2, es_20, es_2, es_3, es_12, es_16, ee_1, ee_1]
    unfold s_seq
    dsimp only
    simp only [Option.bind_some, if_true]
    rw [show [r, 0].set (sx_n (sv 1)) (j_hd [if sx_n z0 = 0 then (sx_n z0 : Int) else -(sx_n z0 : Int)]) = [r, 0] from rfl, e1]
    rfl
  · refine fin w w0 w1 ⟨en', ?_⟩
    rw [lq_77, es_2, es_20, es_2, es_3, es_12, es_16, ee_1, ee_1]
    unfold s_seq
    dsimp only
    simp only [Option.bind_some, if_true]
    rw [show [r, 0].set (sx_n (sv 1)) (j_hd [if sx_n z0 = 0 then (sx_n z0 : Int) else -(sx_n z0 : Int)]) = [r, 0] from rfl, e1]
    rfl
theorem find_ok (hK : 4294967300 ≤ K) {p name from0 many : Int} {hh : XH} (hp : TV (fun _ => 0) a_g3 15 p) (f0 : 0 ≤ from0) (f1 : from0 ≤ 8) : ∃ v : Int, InI v ∧ evF xs L ck K cW g_M (n + 1) 105 [p, name, from0, many] ((a_g3, c, d), hh) = some (1, [v], ((a_g3, c, d), hh)) := by
  obtain ⟨q, hq, q0, c', hc', he'⟩ := ref_at (ci := 5) (k := 0) (kd := 7) hp (by decide) rfl (by decide) (by decide)
  obtain ⟨hl, hl2⟩ := len_at hc'
  have hl3 := len_small hc'
  have hl0 : (0 : Int) ≤ (c'.2.1 : Int) := by omega
  generalize (c'.2.1 : Int) = len at hl hl2 hl3 hl0
  have go := lp_gen (g := (a_g3, c, d)) (C' := evE xs L ck (evF xs L ck K cW g_M n) cW lc_105) (B' := evS xs L ck (evF xs L ck K cW g_M n) K cW lb_105) (P' := evS xs L ck (evF xs L ck K cW g_M n) K cW ls_105)
    (Inv := fun en h => ∃ i : Int, en = [p, name, 0, from0, many, i] ∧ 0 ≤ i ∧ i ≤ len ∧ h = hh) (Done := fun _ h => h = hh) (Ret := fun vs h => h = hh ∧ ∃ w : Int, vs = [w] ∧ 0 ≤ w ∧ w < 2147483648) (mea := fun en _ => (len - en.getD 5 0).toNat) (by
    rintro en h ⟨i, rfl, i0, i1, rfl⟩
    have e8 : j_iop 0 from0 i = from0 + i := j32_in ⟨by omega, by omega⟩
    by_cases hi : i < many ∧ from0 + i < len
    · have hc : evE xs L ck (evF xs L ck K cW g_M n) cW lc_105 [p, name, 0, from0, many, i] ((a_g3, c, d), h) = some ([1], ((a_g3, c, d), h)) := by
        unfold lc_105
        simp only [ee_25, n_ife, n_nz, ee_20, ee_14, n_bin, ee_10, ee_5, ee_3, n_cmp, n_alen, Option.bind_some, j_hd, List.headD_cons, n_sv, n_z0, List.getD_cons_zero, List.getD_cons_succ, hq, hl, j_cmp, e8]
        simp [hi.1, hi.2, j_b]
      have a1 : 0 ≤ from0 + i ∧ from0 + i < len := by omega
      by_cases hw : h q.toNat (from0 + i).toNat = name
      · refine Or.inr ⟨1, h, by decide, hc, 1, [i], [p, name, 0, from0, many, i], h, ?_, Or.inr (Or.inr ⟨rfl, rfl, i, rfl, i0, by omega⟩)⟩
        unfold lb_105
        simp only [es_20, es_10, es_16, s_if, ee_22, ee_14, n_bin, ee_7, n_aload, ee_5, ee_3, n_cmp, Option.bind_some, j_hd, List.headD_cons, n_sv, n_z0, List.getD_cons_zero, List.getD_cons_succ, j_cmp, hq, hl, e8]
        simp [hl, a1, hw, j_b]
      · refine Or.inr ⟨1, h, by decide, hc, 0, [], [p, name, 0, from0, many, i], h, ?_, Or.inl ⟨Or.inl rfl, [p, name, 0, from0, many, i + 1], h, ?_, ⟨i + 1, rfl, by omega, by omega, rfl⟩, ?_⟩⟩
        · unfold lb_105
          simp only [es_20, es_10, es_16, s_if, ee_22, ee_14, n_bin, ee_7, n_aload, ee_5, ee_3, n_cmp, Option.bind_some, j_hd, List.headD_cons, n_sv, n_z0, List.getD_cons_zero, List.getD_cons_succ, j_cmp, hq, hl, e8]
          simp [hl, a1, hw, j_b]
        · show some (0, [], [p, name, 0, from0, many, j32 (i + 1)], _) = _
          rw [j32_up i0 (by omega : i < len) hl2]
        · show (len - (i + 1)).toNat < (len - i).toNat
          omega
    · refine Or.inl ⟨h, ?_, rfl⟩
      unfold lc_105
      simp only [ee_25, n_ife, n_nz, ee_20, ee_14, n_bin, ee_10, ee_5, ee_3, n_cmp, n_alen, Option.bind_some, j_hd, List.headD_cons, n_sv, n_z0, List.getD_cons_zero, List.getD_cons_succ, hq, hl, j_cmp, e8]
      by_cases a1 : i < many
      · have a2 : ¬ from0 + i < len := fun k => hi ⟨a1, k⟩
        simp [a1, a2, j_b]
      · simp [a1, j_b]) K (len - 0).toNat [p, name, 0, from0, many, 0] hh ⟨0, rfl, Int.le_refl _, hl0, rfl⟩ (Nat.le_refl _) (by omega)
  have fin : ∀ (w : Int), (∃ en', evS xs L ck (evF xs L ck K cW g_M n) K cW bb_105 [p, name, 0, from0, many, 0] ((a_g3, c, d), hh) = some (1, [w], en', ((a_g3, c, d), hh))) → evF xs L ck K cW g_M (n + 1) 105 [p, name, from0, many] ((a_g3, c, d), hh) = some (1, [w], ((a_g3, c, d), hh)) := fun w ⟨en', k1⟩ => by
    rw [evF_s, gm_105]
    show (evS xs L ck (evF xs L ck K cW g_M n) K cW bb_105 [p, name, 0, from0, many, 0] ((a_g3, c, d), hh)).bind _ = _
    rw [k1, Option.bind_some]
    exact if_pos chk_self
  rcases go with ⟨en', h', e1, rfl⟩ | ⟨vs, en', h', e1, rfl, w, rfl, w0, w1⟩
  · refine ⟨-1, ⟨by decide, by decide⟩, fin _ ⟨en', ?_⟩⟩
    rw [lq_105, es_2, es_20, es_2, es_3, es_12, es_16, ee_1, ee_1]
    unfold s_seq
    dsimp only
    simp only [Option.bind_some, if_true]
    rw [show [p, name, 0, from0, many, 0].set (sx_n (sv 5)) (j_hd [if sx_n z0 = 0 then (sx_n z0 : Int) else -(sx_n z0 : Int)]) = [p, name, 0, from0, many, 0] from rfl, e1]
    rfl
  · refine ⟨w, ⟨by omega, by omega⟩, fin _ ⟨en', ?_⟩⟩
    rw [lq_105, es_2, es_20, es_2, es_3, es_12, es_16, ee_1, ee_1]
    unfold s_seq
    dsimp only
    simp only [Option.bind_some, if_true]
    rw [show [p, name, 0, from0, many, 0].set (sx_n (sv 5)) (j_hd [if sx_n z0 = 0 then (sx_n z0 : Int) else -(sx_n z0 : Int)]) = [p, name, 0, from0, many, 0] from rfl, e1]
    rfl
end LEAF3
end
section
/-! ===== the class's leaves: those that call ===== -/
section LEAF4
variable {xs : Nat → Int} {L K c d n : Nat} {ck : Nat → List Nat} {cW : Nat → Nat → Int} {F : XP} {a b e : SX}
theorem gm_102 : g_M 102 = (0, 3, [15, 2], [1], bb_102) := rfl
theorem gm_103 : g_M 103 = (0, 3, [15, 2], [1], bb_103) := rfl
theorem gm_104 : g_M 104 = (0, 3, [15, 2], [1], bb_104) := rfl
theorem tot_102 (hK : 4294967300 ≤ K) : TotF (g_T 0) (a_g3, c, d) g_ro (evF xs L ck K cW g_M (n + 2)) 102 := by
  intro av hh hH hv
  obtain ⟨p, name, rfl, hp, hn⟩ := VL2 (s := 15) (t := 2) hv
  obtain ⟨v, hv1, e1⟩ := find_ok (xs := xs) (L := L) (ck := ck) (cW := cW) (c := c) (d := d) (n := n) hK (name := name) (from0 := 0) (many := hh p.toNat 10) (hh := hh) hp (by decide) (by decide)
  refine ⟨[v], hh, ?_, hH, FR.rf, TV.int hv1, trivial⟩
  rw [evF_s, gm_102]
  generalize evF xs L ck K cW g_M (n + 1) = F at e1
  have k1 : evS xs L ck F K cW bb_102 [p, name, 0] ((a_g3, c, d), hh) = some (1, [v], [p, name, 0], ((a_g3, c, d), hh)) := by
    unfold bb_102
    simp only [es_16, ee_32, n_call, ee_30, ee_31, ee_4, ee_3, ee_1, Option.bind_some, j_hd, List.headD_cons, n_sv, n_z0, List.getD_cons_zero, List.getD_cons_succ, List.cons_append, List.nil_append, if_true]
    have e2 : F 105 [p, name, ((0 : Nat) : Int), hh p.toNat 10] ((a_g3, c, d), hh) = some (1, [v], ((a_g3, c, d), hh)) := e1
    rw [e2]
    rfl
  show (evS xs L ck F K cW bb_102 [p, name, 0] ((a_g3, c, d), hh)).bind _ = _
  rw [k1, Option.bind_some]
  exact if_pos chk_self
theorem tot_103 (hK : 4294967300 ≤ K) : TotF (g_T 0) (a_g3, c, d) g_ro (evF xs L ck K cW g_M (n + 2)) 103 := by
  intro av hh hH hv
  obtain ⟨p, name, rfl, hp, hn⟩ := VL2 (s := 15) (t := 2) hv
  obtain ⟨v, hv1, e1⟩ := find_ok (xs := xs) (L := L) (ck := ck) (cW := cW) (c := c) (d := d) (n := n) hK (name := name) (from0 := 4) (many := hh p.toNat 11) (hh := hh) hp (by decide) (by decide)
  refine ⟨[v], hh, ?_, hH, FR.rf, TV.int hv1, trivial⟩
  rw [evF_s, gm_103]
  generalize evF xs L ck K cW g_M (n + 1) = F at e1
  have k1 : evS xs L ck F K cW bb_103 [p, name, 0] ((a_g3, c, d), hh) = some (1, [v], [p, name, 0], ((a_g3, c, d), hh)) := by
    unfold bb_103
    simp only [es_16, ee_32, n_call, ee_30, ee_31, ee_4, ee_3, ee_1, Option.bind_some, j_hd, List.headD_cons, n_sv, n_z0, List.getD_cons_zero, List.getD_cons_succ, List.cons_append, List.nil_append, if_true]
    have e2 : F 105 [p, name, ((4 : Nat) : Int), hh p.toNat 11] ((a_g3, c, d), hh) = some (1, [v], ((a_g3, c, d), hh)) := e1
    rw [e2]
    rfl
  show (evS xs L ck F K cW bb_103 [p, name, 0] ((a_g3, c, d), hh)).bind _ = _
  rw [k1, Option.bind_some]
  exact if_pos chk_self
theorem tot_104 (hK : 4294967300 ≤ K) : TotF (g_T 0) (a_g3, c, d) g_ro (evF xs L ck K cW g_M (n + 2)) 104 := by
  intro av hh hH hv
  obtain ⟨p, name, rfl, hp, hn⟩ := VL2 (s := 15) (t := 2) hv
  obtain ⟨v, hv1, e1⟩ := find_ok (xs := xs) (L := L) (ck := ck) (cW := cW) (c := c) (d := d) (n := n) hK (name := name) (from0 := 8) (many := hh p.toNat 12) (hh := hh) hp (by decide) (by decide)
  refine ⟨[v], hh, ?_, hH, FR.rf, TV.int hv1, trivial⟩
  rw [evF_s, gm_104]
  generalize evF xs L ck K cW g_M (n + 1) = F at e1
  have k1 : evS xs L ck F K cW bb_104 [p, name, 0] ((a_g3, c, d), hh) = some (1, [v], [p, name, 0], ((a_g3, c, d), hh)) := by
    unfold bb_104
    simp only [es_16, ee_32, n_call, ee_30, ee_31, ee_4, ee_3, ee_1, Option.bind_some, j_hd, List.headD_cons, n_sv, n_z0, List.getD_cons_zero, List.getD_cons_succ, List.cons_append, List.nil_append, if_true]
    have e2 : F 105 [p, name, ((8 : Nat) : Int), hh p.toNat 12] ((a_g3, c, d), hh) = some (1, [v], ((a_g3, c, d), hh)) := e1
    rw [e2]
    rfl
  show (evS xs L ck F K cW bb_104 [p, name, 0] ((a_g3, c, d), hh)).bind _ = _
  rw [k1, Option.bind_some]
  exact if_pos chk_self
theorem j32_m (a b : Int) : j32 (a + j32 b) = j32 (a + b) := by
  show (Int32.ofInt (a + (Int32.ofInt b).toInt)).toInt = (Int32.ofInt (a + b)).toInt
  congr 1
  rw [Int32.ofInt_add, Int32.ofInt_toInt, ← Int32.ofInt_add]
theorem tot_151 (hK : 4294967300 ≤ K) : TotF (g_T 0) (a_g3, c, d) g_ro (evF xs L ck K cW g_M (n + 2)) 151 := by
  intro av hh hH hv
  obtain ⟨r, me, pl, la, rfl, hr, hme, hpl, hla⟩ : ∃ r me pl la, av = [r, me, pl, la] ∧ TV (fun _ => 0) a_g3 12 r ∧ TV (fun _ => 0) a_g3 1 me ∧ TV (fun _ => 0) a_g3 1 pl ∧ TV (fun _ => 0) a_g3 1 la := by
    have hv : VL (fun _ => 0) a_g3 [12, 1, 1, 1] av := hv
    match av, hv with
    | [r, me, pl, la], h => exact ⟨r, me, pl, la, rfl, h.1, h.2.1, h.2.2.1, h.2.2.2.1⟩
  obtain ⟨ro, hro, ro0, cr, hcr, her⟩ := ref_at (ci := 2) (k := 0) (kd := 17) hr (by decide) rfl (by decide) (by decide)
  have hrow : TV (fun _ => 0) a_g3 17 ro := TV.ref (by decide) (by decide) ⟨ro0, cr, hcr, her⟩
  obtain ⟨q, len, hq, hl, l0, l1, ht, hwr⟩ := row_at hrow
  -- where the row is looked at
  have e8 : ∀ i : Int, j_iop 0 (j_iop 2 me 13) i = j32 (j_iop 2 me 13 + i) := fun i => rfl
  generalize hm13 : j_iop 2 me 13 = m13 at e8
  have hstep : ∀ i : Int, 0 ≤ j32 (m13 + i) → j32 (m13 + i) < len → j32 (m13 + j32 (i + 1)) = j32 (m13 + i) + 1 := fun i h0 h1 => by
    rw [j32_m, ← Int.add_assoc]
    have : j32 (m13 + i + 1) = j32 (1 + j32 (m13 + i)) := by rw [j32_m, Int.add_comm]
    rw [this, j32_in ⟨by omega, by omega⟩]
    omega
  have hget : ∀ i : Int, evF xs L ck K cW g_M (n + 1) 54 [ro, j32 (m13 + i)] ((a_g3, c, d), hh) = some (1, [if 0 ≤ j32 (m13 + i) ∧ j32 (m13 + i) < len then hh q.toNat (j32 (m13 + i)).toNat else 0], ((a_g3, c, d), hh)) := fun i => row_get hq hl
  generalize hF : evF xs L ck K cW g_M (n + 1) = F at hget
  have go := lp_gen (g := (a_g3, c, d)) (C' := evE xs L ck F cW lc_151) (B' := evS xs L ck F K cW lb_151) (P' := evS xs L ck F K cW ls_151)
    (Inv := fun en h => ∃ i : Int, en = [r, me, pl, la, i] ∧ InI i ∧ h = hh) (Done := fun _ h => h = hh) (Ret := fun vs h => h = hh ∧ ∃ w : Int, vs = [w] ∧ InI w) (mea := fun en _ => if 0 ≤ j32 (m13 + en.getD 4 0) ∧ j32 (m13 + en.getD 4 0) < len then (len - j32 (m13 + en.getD 4 0)).toNat else 0) (by
    rintro en h ⟨i, rfl, hi, rfl⟩
    by_cases hla2 : i ≤ la
    · have hc : evE xs L ck F cW lc_151 [r, me, pl, la, i] ((a_g3, c, d), h) = some ([1], ((a_g3, c, d), h)) := by
        unfold lc_151
        simp only [ee_20, ee_3, n_cmp, Option.bind_some, j_hd, List.headD_cons, n_sv, n_z0, List.getD_cons_zero, List.getD_cons_succ, j_cmp]
        simp [hla2, j_b]
      have hb : ∀ w : Int, F 54 [ro, j32 (m13 + i)] ((a_g3, c, d), h) = some (1, [w], ((a_g3, c, d), h)) → evS xs L ck F K cW lb_151 [r, me, pl, la, i] ((a_g3, c, d), h) = if w = -1 then some (0, [], [r, me, pl, la, i], ((a_g3, c, d), h)) else some (1, [i], [r, me, pl, la, i], ((a_g3, c, d), h)) := fun w hw => by
        unfold lb_151
        simp only [es_20, es_10, es_16, s_if, ee_32, n_call, ee_30, ee_31, ee_20, ee_14, n_bin, ee_5, ee_3, ee_1, n_cmp, Option.bind_some, j_hd, List.headD_cons, n_sv, n_z0, List.getD_cons_zero, List.getD_cons_succ, List.cons_append, List.nil_append, hro]
        have e13 : j_iop 2 me ((13 : Nat) : Int) = m13 := hm13
        simp only [if_true, e13, e8, hw, Option.bind_some, j_cmp]
        by_cases h1 : w = -1 <;> simp [h1, j_b]
      by_cases hin : 0 ≤ j32 (m13 + i) ∧ j32 (m13 + i) < len
      · have hw := hget i
        rw [if_pos hin] at hw
        have hbb := hb _ hw
        by_cases h1 : h q.toNat (j32 (m13 + i)).toNat = -1
        · rw [if_pos h1] at hbb
          refine Or.inr ⟨1, h, by decide, hc, 0, [], _, h, hbb, Or.inl ⟨Or.inl rfl, [r, me, pl, la, j32 (i + 1)], h, rfl, ⟨j32 (i + 1), rfl, in_j32 _, rfl⟩, ?_⟩⟩
          show (if 0 ≤ j32 (m13 + j32 (i + 1)) ∧ j32 (m13 + j32 (i + 1)) < len then (len - j32 (m13 + j32 (i + 1))).toNat else 0) < (if 0 ≤ j32 (m13 + i) ∧ j32 (m13 + i) < len then (len - j32 (m13 + i)).toNat else 0)
          rw [if_pos hin, hstep i hin.1 hin.2]
          split <;> omega
        · rw [if_neg h1] at hbb
          exact Or.inr ⟨1, h, by decide, hc, 1, [i], _, h, hbb, Or.inr (Or.inr ⟨rfl, rfl, i, rfl, hi⟩)⟩
      · have hw := hget i
        rw [if_neg hin] at hw
        have hbb := hb _ hw
        rw [if_neg (by decide)] at hbb
        exact Or.inr ⟨1, h, by decide, hc, 1, [i], _, h, hbb, Or.inr (Or.inr ⟨rfl, rfl, i, rfl, hi⟩)⟩
    · refine Or.inl ⟨h, ?_, rfl⟩
      unfold lc_151
      simp only [ee_20, ee_3, n_cmp, Option.bind_some, j_hd, List.headD_cons, n_sv, n_z0, List.getD_cons_zero, List.getD_cons_succ, j_cmp]
      simp [hla2, j_b]) K len.toNat [r, me, pl, la, j_iop 0 pl 1] hh ⟨_, rfl, iop_in _ _ _, rfl⟩ (by
        show (if 0 ≤ j32 (m13 + j_iop 0 pl 1) ∧ j32 (m13 + j_iop 0 pl 1) < len then (len - j32 (m13 + j_iop 0 pl 1)).toNat else 0) ≤ _
        split <;> omega) (by omega)
  have fin : ∀ (w : Int), InI w → (∃ en', evS xs L ck F K cW bb_151 [r, me, pl, la, 0] ((a_g3, c, d), hh) = some (1, [w], en', ((a_g3, c, d), hh))) → ∃ r' h', evF xs L ck K cW g_M (n + 2) 151 [r, me, pl, la] ((a_g3, c, d), hh) = some (1, r', ((a_g3, c, d), h')) ∧ HT g_fk a_g3 h' ∧ FR g_ro hh h' ∧ VL (fun _ => 0) a_g3 [1] r' := fun w hw ⟨en', k1⟩ => by
    refine ⟨[w], hh, ?_, hH, FR.rf, TV.int hw, trivial⟩
    rw [evF_s, gm_151, hF]
    show (evS xs L ck F K cW bb_151 [r, me, pl, la, 0] ((a_g3, c, d), hh)).bind _ = _
    rw [k1, Option.bind_some]
    exact if_pos chk_self
  have e0 : evE xs L ck F cW (sx 14 (sx 3 (sv 2) z0 z0) (sx 1 (sv 1) (sv 1) z0) z0) [r, me, pl, la, 0] ((a_g3, c, d), hh) = some ([j_iop 0 pl 1], ((a_g3, c, d), hh)) := rfl
  rcases go with ⟨en', h', e1, rfl⟩ | ⟨vs, en', h', e1, rfl, w, rfl, hw⟩
  · refine fin (-1) ⟨by decide, by decide⟩ ⟨en', ?_⟩
    rw [lq_151, es_2, es_20, es_2, es_3, es_12, es_16, ee_1]
    unfold s_seq
    dsimp only
    rw [e0]
    simp only [Option.bind_some, if_true]
    rw [show [r, me, pl, la, 0].set (sx_n (sv 4)) (j_hd [j_iop 0 pl 1]) = [r, me, pl, la, j_iop 0 pl 1] from rfl, e1]
    rfl
  · refine fin w hw ⟨en', ?_⟩
    rw [lq_151, es_2, es_20, es_2, es_3, es_12, es_16, ee_1]
    unfold s_seq
    dsimp only
    rw [e0]
    simp only [Option.bind_some, if_true]
    rw [show [r, me, pl, la, 0].set (sx_n (sv 4)) (j_hd [j_iop 0 pl 1]) = [r, me, pl, la, j_iop 0 pl 1] from rfl, e1]
    rfl
end LEAF4
end
section
/-! ===== the class's two that loop and call ===== -/
def lJ_98 : SX := (sx 3 (sv 6) (sx 1 z0 (sv 1) z0) z0)
def lI_98 : SX := (sx 3 (sv 7) (sx 1 z0 (sv 1) z0) z0)
def lA_98 : SX := (sx 9 (sx 32 (sx 30 (sx 3 z0 z0 z0) (sx 30 (sx 14 (sx 1 z0 (sv 1) z0) (sx 4 (sx 3 z0 z0 z0) (sv 10) z0) z0) (sx 30 (sx 3 (sv 1) z0 z0) (sx 31 z0 z0 z0) z0) z0) z0) (sv 101) z0) z0 z0)
def lB_98 : SX := (sx 9 (sx 32 (sx 30 (sx 5 (sx 3 z0 z0 z0) (sv 2) z0) (sx 30 (sx 4 (sx 3 z0 z0 z0) (sv 10) z0) (sx 30 (sx 3 (sv 3) z0 z0) (sx 31 z0 z0 z0) z0) z0) z0) (sv 55) z0) z0 z0)
def lD_98 : SX := (sx 6 (sx 3 z0 z0 z0) (sx 1 (sv 1) (sv 1) z0) (sv 160))
def lc_98 : SX := (sx 25 (sx 21 (sx 3 (sv 5) z0 z0) z0 (sv 4)) (sx 20 (sx 3 (sv 7) z0 z0) (sx 1 (sv 13) (sv 1) z0) (sv 2)) z0)
def lb_98 : SX := (sx 20 (sx 2 (sx 9 (sx 32 (sx 30 (sx 5 (sx 3 z0 z0 z0) (sv 4) z0) (sx 30 (sx 14 (sx 14 (sx 4 (sx 3 z0 z0 z0) (sv 10) z0) (sx 1 (sv 13) (sv 1) z0) (sv 2)) (sx 3 (sv 7) z0 z0) z0) (sx 30 (sx 3 (sv 6) z0 z0) (sx 31 z0 z0 z0) z0) z0) z0) (sv 55) z0) z0 z0) (sx 3 (sv 6) (sx 14 (sx 3 (sv 6) z0 z0) (sx 32 (sx 30 (sx 3 (sv 4) z0 z0) (sx 30 (sx 17 (sx 3 (sv 7) z0 z0) (sx 3 (sv 5) z0 z0) (sv 1)) (sx 31 z0 z0 z0) z0) z0) (sv 54) z0) z0) z0) z0) z0 z0)
def ls_98 : SX := (sx 4 (sv 7) (sv 1) z0)
theorem lq_98 : bb_98 = sx 2 (sx 2 lA_98 (sx 2 lB_98 (sx 2 lJ_98 (sx 2 (sx 20 (sx 2 lI_98 (sx 12 lc_98 lb_98 ls_98) z0) z0 z0) lD_98 z0) z0) z0) z0) (sx 17 z0 z0 z0) z0 := rfl
theorem gm_98 : g_M 98 = (0, 8, [15, 2, 1, 17, 1], [], bb_98) := rfl
def lI_97 : SX := (sx 3 (sv 2) (sx 1 z0 (sv 1) z0) z0)
def lR_97 : SX := (sx 2 (sx 9 (sx 32 (sx 30 (sx 5 (sx 3 z0 z0 z0) (sv 1) z0) (sx 30 (sx 5 (sx 3 (sv 1) z0 z0) (sv 1) z0) (sx 31 z0 z0 z0) z0) z0) (sv 58) z0) z0 z0) (sx 2 (sx 9 (sx 32 (sx 30 (sx 5 (sx 3 z0 z0 z0) (sv 2) z0) (sx 30 (sx 5 (sx 3 (sv 1) z0 z0) (sv 2) z0) (sx 31 z0 z0 z0) z0) z0) (sv 58) z0) z0 z0) (sx 2 (sx 9 (sx 32 (sx 30 (sx 5 (sx 3 z0 z0 z0) (sv 3) z0) (sx 30 (sx 5 (sx 3 (sv 1) z0 z0) (sv 3) z0) (sx 31 z0 z0 z0) z0) z0) (sv 58) z0) z0 z0) (sx 2 (sx 9 (sx 32 (sx 30 (sx 5 (sx 3 z0 z0 z0) (sv 4) z0) (sx 30 (sx 5 (sx 3 (sv 1) z0 z0) (sv 4) z0) (sx 31 z0 z0 z0) z0) z0) (sv 58) z0) z0 z0) (sx 2 (sx 9 (sx 32 (sx 30 (sx 5 (sx 3 z0 z0 z0) (sv 5) z0) (sx 30 (sx 5 (sx 3 (sv 1) z0 z0) (sv 5) z0) (sx 31 z0 z0 z0) z0) z0) (sv 58) z0) z0 z0) (sx 2 (sx 9 (sx 32 (sx 30 (sx 5 (sx 3 z0 z0 z0) (sv 6) z0) (sx 30 (sx 5 (sx 3 (sv 1) z0 z0) (sv 6) z0) (sx 31 z0 z0 z0) z0) z0) (sv 58) z0) z0 z0) (sx 2 (sx 9 (sx 32 (sx 30 (sx 5 (sx 3 z0 z0 z0) (sv 7) z0) (sx 30 (sx 5 (sx 3 (sv 1) z0 z0) (sv 7) z0) (sx 31 z0 z0 z0) z0) z0) (sv 58) z0) z0 z0) (sx 2 (sx 9 (sx 32 (sx 30 (sx 5 (sx 3 z0 z0 z0) (sv 8) z0) (sx 30 (sx 5 (sx 3 (sv 1) z0 z0) (sv 8) z0) (sx 31 z0 z0 z0) z0) z0) (sv 80) z0) z0 z0) (sx 2 (sx 5 (sx 3 z0 z0 z0) (sx 4 (sx 3 (sv 1) z0 z0) (sv 9) z0) (sv 9)) (sx 2 (sx 5 (sx 3 z0 z0 z0) (sx 4 (sx 3 (sv 1) z0 z0) (sv 10) z0) (sv 10)) (sx 2 (sx 5 (sx 3 z0 z0 z0) (sx 4 (sx 3 (sv 1) z0 z0) (sv 11) z0) (sv 11)) (sx 5 (sx 3 z0 z0 z0) (sx 4 (sx 3 (sv 1) z0 z0) (sv 12) z0) (sv 12)) z0) z0) z0) z0) z0) z0) z0) z0) z0) z0) z0)
def lc_97 : SX := (sx 25 (sx 20 (sx 3 (sv 2) z0 z0) (sx 10 (sx 5 (sx 3 z0 z0 z0) z0 z0) z0 z0) (sv 2)) (sx 20 (sx 3 (sv 2) z0 z0) (sx 10 (sx 5 (sx 3 (sv 1) z0 z0) z0 z0) z0 z0) (sv 2)) z0)
def lb_97 : SX := (sx 20 (sx 7 (sx 5 (sx 3 z0 z0 z0) z0 z0) (sx 3 (sv 2) z0 z0) (so 7 (sx 7 (sx 5 (sx 3 (sv 1) z0 z0) z0 z0) (sx 3 (sv 2) z0 z0) z0))) z0 z0)
def ls_97 : SX := (sx 4 (sv 2) (sv 1) z0)
theorem lq_97 : bb_97 = sx 2 (sx 2 (sx 20 (sx 2 lI_97 (sx 12 lc_97 lb_97 ls_97) z0) z0 z0) lR_97 z0) (sx 17 z0 z0 z0) z0 := rfl
theorem gm_97 : g_M 97 = (0, 3, [15, 15], [], bb_97) := rfl
section LEAF5
variable {xs : Nat → Int} {L K c d n : Nat} {ck : Nat → List Nat} {cW : Nat → Nat → Int} {F : XP} {a b e : SX}
theorem k99 : a_g3.all (fun c => decide (c.1 ≠ 99)) = true := by decide +kernel
theorem no_99 {z : Nat → Int} {v : Int} (h : TV z a_g3 99 v) : False := by
  obtain ⟨-, c, hc, e⟩ := h.2.2.2.2.1 (by decide) (by decide)
  exact of_decide_eq_true (List.all_eq_true.mp k99 c (List.mem_of_getElem? hc)) e
/-- a statement that only goes on, by the third reading -/
theorem run_ty {D : Nat} (hK : 4294967300 ≤ K) (hF : ∀ q, (g_T D).2.2.2.1 q = true → TotF (g_T D) (a_g3, c, d) g_ro F q) {t : SX} {τ τ' : List Nat} (ht : (tyS (g_T D) [99] false t).1 τ = some (some τ', none, none)) {en : List Int} {hh : XH} (hv : VL (fun _ => 0) a_g3 τ en) (hH : HT g_fk a_g3 hh) :
    ∃ vals en' h', evS xs L g_ck F K g_cW t en ((a_g3, c, d), hh) = some (0, vals, en', ((a_g3, c, d), h')) ∧ HT g_fk a_g3 h' ∧ FR g_ro hh h' ∧ VL (fun _ => 0) a_g3 τ' en' := by
  obtain ⟨cc, vals, en', g', h', e1, e2, e3, e4⟩ := (ty_S (xs := xs) (L := L) (ck := g_ck) (g := (a_g3, c, d)) (rt := [99]) (thr := false) g_GG (g_TG D) nt_cW hF (g_WK D) hK rfl t).1 (fun _ => 0) _ _ ht en hh hv hH
  rcases e4 with ⟨rfl, rfl, τ1, k, k2⟩ | ⟨rfl, rfl, k⟩ | ⟨-, -, τ1, k, -⟩ | ⟨-, -, τ1, k, -⟩ | ⟨-, k, -⟩
  · cases k
    exact ⟨vals, en', h', e1, e2, e3, k2⟩
  · exfalso
    obtain ⟨x, -, hx⟩ := VL.one k
    exact no_99 hx
  · cases k
  · cases k
  · cases k
def RunT (xs : Nat → Int) (L : Nat) (ck : Nat → List Nat) (F : XP) (K : Nat) (cW : Nat → Nat → Int) (c d : Nat) (t : SX) (τ : List Nat) : Prop := ∀ (en : List Int) (hh : XH), VL (fun _ => 0) a_g3 τ en → HT g_fk a_g3 hh → ∃ vals en' h', evS xs L ck F K cW t en ((a_g3, c, d), hh) = some (0, vals, en', ((a_g3, c, d), h')) ∧ HT g_fk a_g3 h' ∧ FR g_ro hh h' ∧ VL (fun _ => 0) a_g3 τ en'
theorem tA_98 : (tyS (g_T 1) [99] false lA_98).1 [15, 2, 0, 1, 17, 1, 0, 0] = some (some [15, 2, 0, 1, 17, 1, 0, 0], none, none) := by decide +kernel
theorem tB_98 : (tyS (g_T 1) [99] false lB_98).1 [15, 2, 0, 1, 17, 1, 0, 0] = some (some [15, 2, 0, 1, 17, 1, 0, 0], none, none) := by decide +kernel
theorem tD_98 : (tyS (g_T 1) [99] false lD_98).1 [15, 0, 0, 0, 0, 0, 0, 0] = some (some [15, 0, 0, 0, 0, 0, 0, 0], none, none) := by decide +kernel
theorem tR_97 : (tyS (g_T 2) [99] false lR_97).1 [15, 15, 0] = some (some [15, 15, 0], none, none) := by decide +kernel
theorem gen_98 (hK : 4294967300 ≤ K) (hA : RunT xs L ck (evF xs L ck K cW g_M (n + 1)) K cW c d lA_98 [15, 2, 0, 1, 17, 1, 0, 0]) (hB : RunT xs L ck (evF xs L ck K cW g_M (n + 1)) K cW c d lB_98 [15, 2, 0, 1, 17, 1, 0, 0]) (hD : RunT xs L ck (evF xs L ck K cW g_M (n + 1)) K cW c d lD_98 [15, 0, 0, 0, 0, 0, 0, 0]) : TotF (g_T 0) (a_g3, c, d) g_ro (evF xs L ck K cW g_M (n + 2)) 98 := by
  intro av hh hH hv
  have hv0 : VL (fun _ => 0) a_g3 [15, 2, 0, 1, 17, 1, 0, 0] (j_pad 0 8 (j_lay [15, 2, 1, 17, 1] av)) := VL_pad (g := (a_g3, c, d)) (n := 8) (ts := [15, 2, 0, 1, 17, 1]) (VL_lay (g := (a_g3, c, d)) (pk := [15, 2, 1, 17, 1]) hv)
  have hget : ∀ (r i q len : Int) (h : XH), j_rf a_g3 r.toNat 0 = some q → j_len a_g3 q.toNat = len → evF xs L ck K cW g_M (n + 1) 54 [r, i] ((a_g3, c, d), h) = some (1, [if 0 ≤ i ∧ i < len then h q.toNat i.toNat else 0], ((a_g3, c, d), h)) := fun r i q len h h1 h2 => row_get h1 h2
  have hset : ∀ (r i v q len : Int) (h : XH), j_rf a_g3 r.toNat 0 = some q → j_len a_g3 q.toNat = len → evF xs L ck K cW g_M (n + 1) 55 [r, i, v] ((a_g3, c, d), h) = some (1, [], ((a_g3, c, d), if 0 ≤ i ∧ i < len then j_up h q.toNat i.toNat v else h)) := fun r i v q len h h1 h2 => row_set h1 h2
  generalize hF : evF xs L ck K cW g_M (n + 1) = F at hA hB hD hget hset
  generalize he0 : j_pad 0 8 (j_lay [15, 2, 1, 17, 1] av) = en0 at hv0
  obtain ⟨v1, e1, h1, a1, a2, a3, a4⟩ := hA _ _ hv0 hH
  obtain ⟨v2, e2, h2, b1, b2, b3, b4⟩ := hB _ _ a4 a2
  obtain ⟨p, nm, z, lo, s, m, u, i, rfl, hp, hs⟩ : ∃ p nm z lo s m u i, e2 = [p, nm, z, lo, s, m, u, i] ∧ TV (fun _ => 0) a_g3 15 p ∧ TV (fun _ => 0) a_g3 17 s := by
    match e2, b4 with
    | [p, nm, z, lo, s, m, u, i], k => exact ⟨p, nm, z, lo, s, m, u, i, rfl, k.1, k.2.2.2.2.1⟩
  obtain ⟨r4, hr4, r40, c4, hc4, he4⟩ := ref_at (ci := 5) (k := 4) (kd := 17) hp (by decide) rfl (by decide) (by decide)
  have hrow : TV (fun _ => 0) a_g3 17 r4 := TV.ref (by decide) (by decide) ⟨r40, c4, hc4, he4⟩
  obtain ⟨q, len, hq, hl, l0, l1, ht, hro⟩ := row_at hrow
  obtain ⟨q2, len2, hq2, hl2, l02, l12, ht2, hro2⟩ := row_at hs
  have go := lp_gen (g := (a_g3, c, d)) (C' := evE xs L ck F cW lc_98) (B' := evS xs L ck F K cW lb_98) (P' := evS xs L ck F K cW ls_98)
    (Inv := fun en h => ∃ u i : Int, en = [p, nm, z, lo, s, m, u, i] ∧ InI u ∧ 0 ≤ i ∧ i ≤ 13 ∧ HT g_fk a_g3 h ∧ FR g_ro hh h) (Done := fun en h => HT g_fk a_g3 h ∧ FR g_ro hh h ∧ ∃ u i : Int, en = [p, nm, z, lo, s, m, u, i]) (Ret := fun _ _ => False) (mea := fun en _ => (13 - en.getD 7 0).toNat) (by
    rintro en h ⟨u, i, rfl, hu, i0, i1, k1, k2⟩
    by_cases hi : 0 < m ∧ i < 13
    · have hc : evE xs L ck F cW lc_98 [p, nm, z, lo, s, m, u, i] ((a_g3, c, d), h) = some ([1], ((a_g3, c, d), h)) := by
        unfold lc_98
        simp only [ee_25, ee_21, n_ife, n_nz, ee_20, ee_3, ee_1, n_cmp, Option.bind_some, j_hd, List.headD_cons, n_sv, n_z0, List.getD_cons_zero, List.getD_cons_succ, j_cmp]
        simp [hi.1, hi.2, j_b]
      have hm0 : m ≠ 0 := by omega
      have s1 := hset r4 (j_iop 0 (j_iop 2 (h p.toNat 10) 13) i) u q len h hq hl
      have n1 : HT g_fk a_g3 (if 0 ≤ j_iop 0 (j_iop 2 (h p.toNat 10) 13) i ∧ j_iop 0 (j_iop 2 (h p.toNat 10) 13) i < len then j_up h q.toNat (j_iop 0 (j_iop 2 (h p.toNat 10) 13) i).toNat u else h) := by
        split
        · exact up_i ht k1 hu
        · exact k1
      have n2 : FR g_ro hh (if 0 ≤ j_iop 0 (j_iop 2 (h p.toNat 10) 13) i ∧ j_iop 0 (j_iop 2 (h p.toNat 10) 13) i < len then j_up h q.toNat (j_iop 0 (j_iop 2 (h p.toNat 10) 13) i).toNat u else h) := by
        split
        · exact k2.tr (FR.up (hro _))
        · exact k2
      generalize (if 0 ≤ j_iop 0 (j_iop 2 (h p.toNat 10) 13) i ∧ j_iop 0 (j_iop 2 (h p.toNat 10) 13) i < len then j_up h q.toNat (j_iop 0 (j_iop 2 (h p.toNat 10) 13) i).toNat u else h) = h' at s1 n1 n2
      have s2 := hget s (j_div 1 i m) q2 len2 h' hq2 hl2
      generalize (if 0 ≤ j_div 1 i m ∧ j_div 1 i m < len2 then h' q2.toNat (j_div 1 i m).toNat else 0) = w at s2
      refine Or.inr ⟨1, h, by decide, hc, 0, [], [p, nm, z, lo, s, m, j_iop 0 u w, i], h', ?_, Or.inl ⟨Or.inl rfl, [p, nm, z, lo, s, m, j_iop 0 u w, i + 1], h', ?_, ⟨j_iop 0 u w, i + 1, rfl, iop_in _ _ _, by omega, by omega, n1, n2⟩, ?_⟩⟩
      · unfold lb_98
        have e13 : ∀ x, j_iop 2 x ((13 : Nat) : Int) = j_iop 2 x 13 := fun _ => rfl
        simp only [es_20, es_2, es_9, es_3, s_seq, ee_32, n_call, ee_30, ee_31, ee_14, n_bin, ee_17, ee_5, ee_4, ee_3, ee_1, Option.bind_some, j_hd, List.headD_cons, n_sv, n_z0, List.getD_cons_zero, List.getD_cons_succ, List.cons_append, List.nil_append, hr4, e13, if_true]
        simp [e13, s1, s2, hm0]
      · show some (0, [], [p, nm, z, lo, s, m, j_iop 0 u w, j32 (i + 1)], _) = _
        rw [j32_up i0 hi.2 (by decide)]
      · show (13 - (i + 1)).toNat < (13 - i).toNat
        omega
    · refine Or.inl ⟨h, ?_, k1, k2, u, i, rfl⟩
      unfold lc_98
      simp only [ee_25, ee_21, n_ife, n_nz, ee_20, ee_3, ee_1, n_cmp, Option.bind_some, j_hd, List.headD_cons, n_sv, n_z0, List.getD_cons_zero, List.getD_cons_succ, j_cmp]
      by_cases a1 : 0 < m
      · have a2 : ¬ i < 13 := fun k => hi ⟨a1, k⟩
        simp [a1, a2, j_b]
      · simp [a1, j_b]) K 13 [p, nm, z, lo, s, m, 0, 0] h2 ⟨0, 0, rfl, in_0, Int.le_refl _, by decide, b2, a3.tr b3⟩ (by show (13 - (0 : Int)).toNat ≤ 13; decide) (by omega)
  obtain ⟨en3, h3, f1, f2, f3, u3, i3, rfl⟩ := go.resolve_right (fun ⟨_, _, _, _, k⟩ => k)
  obtain ⟨v4, e4, h4, d1, d2, d3, d4⟩ := hD [p, nm, z, lo, s, m, u3, i3] _ ⟨hp, TV.zero, TV.zero, TV.zero, TV.zero, TV.zero, TV.zero, TV.zero, trivial⟩ f2
  refine ⟨[], h4, ?_, d2, f3.tr d3, trivial⟩
  have kk : evS xs L ck F K cW bb_98 en0 ((a_g3, c, d), hh) = some (1, [], e4, ((a_g3, c, d), h4)) := by
    have q1 : evS xs L ck F K cW (sx 20 (sx 2 lI_98 (sx 12 lc_98 lb_98 ls_98) z0) z0 z0) [p, nm, z, lo, s, m, 0, i] ((a_g3, c, d), h2) = some (0, [], [p, nm, z, lo, s, m, u3, i3], ((a_g3, c, d), h3)) := by
      rw [es_20, es_2, lI_98, es_3, es_12, ee_1]
      unfold s_seq
      dsimp only
      simp only [Option.bind_some, if_true]
      rw [show [p, nm, z, lo, s, m, 0, i].set (sx_n (sv 7)) (j_hd [if sx_n z0 = 0 then (sx_n z0 : Int) else -(sx_n z0 : Int)]) = [p, nm, z, lo, s, m, 0, 0] from rfl, f1]
    have q2 : evS xs L ck F K cW lJ_98 [p, nm, z, lo, s, m, u, i] ((a_g3, c, d), h2) = some (0, [], [p, nm, z, lo, s, m, 0, i], ((a_g3, c, d), h2)) := by
      rw [lJ_98, es_3, ee_1]
      rfl
    rw [lq_98, es_2, es_2, es_2, es_2, es_2, es_17]
    unfold s_seq
    rw [a1, Option.bind_some]
    dsimp only
    rw [if_pos rfl, b1, Option.bind_some]
    dsimp only
    rw [if_pos rfl, q2, Option.bind_some]
    dsimp only
    rw [if_pos rfl, q1, Option.bind_some]
    dsimp only
    rw [if_pos rfl, d1]
    rfl
  rw [evF_s, gm_98, hF]
  show (evS xs L ck F K cW bb_98 (j_pad 0 8 (j_lay [15, 2, 1, 17, 1] av)) ((a_g3, c, d), hh)).bind _ = _
  rw [he0]
  rw [kk, Option.bind_some]
  exact if_pos chk_self
theorem gen_97 (hK : 4294967300 ≤ K) (hR : RunT xs L ck (evF xs L ck K cW g_M n) K cW c d lR_97 [15, 15, 0]) : TotF (g_T 0) (a_g3, c, d) g_ro (evF xs L ck K cW g_M (n + 1)) 97 := by
  intro av hh hH hv
  obtain ⟨r, v, rfl, hr, hr2⟩ := VL2 (s := 15) (t := 15) hv
  generalize hF : evF xs L ck K cW g_M n = F at hR
  obtain ⟨r0, c1, hc1, he1⟩ := hr.2.2.2.2.1 (by decide) (by decide)
  obtain ⟨q, hq, q0, c', hc', he'⟩ := ref_at (ci := 5) (k := 0) (kd := 7) hr (by decide) rfl (by decide) (by decide)
  obtain ⟨hl, l1⟩ := len_at hc'
  have ht := fun j => (ty_arr hc' j).2.1 he'
  have hro := ro_arr hc1 (by omega) (by omega) hq hc' he' (by decide)
  have l0 : (0 : Int) ≤ (c'.2.1 : Int) := by omega
  generalize (c'.2.1 : Int) = len at hl l1 l0
  obtain ⟨q2, hq2, q20, c2, hc2, he2⟩ := ref_at (ci := 5) (k := 0) (kd := 7) hr2 (by decide) rfl (by decide) (by decide)
  obtain ⟨hl2, l12⟩ := len_at hc2
  have ht2 := fun j => (ty_arr hc2 j).2.1 he2
  generalize (c2.2.1 : Int) = len2 at hl2 l12
  have go := lp_gen (g := (a_g3, c, d)) (C' := evE xs L ck F cW lc_97) (B' := evS xs L ck F K cW lb_97) (P' := evS xs L ck F K cW ls_97)
    (Inv := fun en h => ∃ i : Int, en = [r, v, i] ∧ 0 ≤ i ∧ i ≤ len ∧ HT g_fk a_g3 h ∧ FR g_ro hh h) (Done := fun en h => HT g_fk a_g3 h ∧ FR g_ro hh h ∧ ∃ i : Int, en = [r, v, i]) (Ret := fun _ _ => False) (mea := fun en _ => (len - en.getD 2 0).toNat) (by
    rintro en h ⟨i, rfl, i0, i1, h1, h2⟩
    have hc : evE xs L ck F cW lc_97 [r, v, i] ((a_g3, c, d), h) = some ([j_b (decide (i < len) && decide (i < len2))], ((a_g3, c, d), h)) := by
      unfold lc_97
      simp only [ee_25, n_ife, n_nz, ee_20, ee_10, ee_5, ee_3, n_cmp, n_alen, Option.bind_some, j_hd, List.headD_cons, n_sv, n_z0, List.getD_cons_zero, List.getD_cons_succ, hq, hl, hq2, hl2, j_cmp]
      by_cases a1 : i < len <;> by_cases a2 : i < len2 <;> simp [a1, a2, j_b]
    by_cases hi : i < len ∧ i < len2
    · refine Or.inr ⟨1, h, by decide, by rw [hc, decide_eq_true hi.1, decide_eq_true hi.2]; rfl, 0, [], [r, v, i], j_up h q.toNat i.toNat (h q2.toNat i.toNat), ?_, Or.inl ⟨Or.inl rfl, [r, v, i + 1], j_up h q.toNat i.toNat (h q2.toNat i.toNat), ?_, ⟨i + 1, rfl, by omega, by omega, HT.up h1 (fun e => absurd ((ht _).symm.trans e) (by decide)) (fun _ => (h1 q2.toNat i.toNat).2.1 (ht2 _)) (fun e => absurd ((ht _).symm.trans e) (by decide)), h2.tr (FR.up (hro _))⟩, ?_⟩⟩
      · unfold lb_97
        simp only [es_20, es_7, s_ast, ee_7, n_aload, ee_5, ee_3, Option.bind_some, j_hd, List.headD_cons, n_sv, n_z0, List.getD_cons_zero, List.getD_cons_succ, hq, hq2]
        simp [hl, hl2, i0, hi]
      · show some (0, [], [r, v, j32 (i + 1)], _) = _
        rw [j32_up i0 hi.1 l1]
      · show (len - (i + 1)).toNat < (len - i).toNat
        omega
    · refine Or.inl ⟨h, ?_, h1, h2, i, rfl⟩
      rw [hc]
      have : (decide (i < len) && decide (i < len2)) = false := by
        by_cases a1 : i < len
        · by_cases a2 : i < len2
          · exact absurd ⟨a1, a2⟩ hi
          · simp [a2]
        · simp [a1]
      rw [this]
      rfl) K (len - 0).toNat [r, v, 0] hh ⟨0, rfl, Int.le_refl _, l0, hH, FR.rf⟩ (Nat.le_refl _) (by omega)
  obtain ⟨en', h', e1, e2, e3, i, rfl⟩ := go.resolve_right (fun ⟨_, _, _, _, k⟩ => k)
  obtain ⟨v4, e4, h4, d1, d2, d3, d4⟩ := hR [r, v, i] _ ⟨hr, hr2, TV.zero, trivial⟩ e2
  refine ⟨[], h4, ?_, d2, e3.tr d3, trivial⟩
  have kk : evS xs L ck F K cW bb_97 [r, v, 0] ((a_g3, c, d), hh) = some (1, [], e4, ((a_g3, c, d), h4)) := by
    have q1 : evS xs L ck F K cW (sx 20 (sx 2 lI_97 (sx 12 lc_97 lb_97 ls_97) z0) z0 z0) [r, v, 0] ((a_g3, c, d), hh) = some (0, [], [r, v, i], ((a_g3, c, d), h')) := by
      rw [es_20, es_2, lI_97, es_3, es_12, ee_1]
      unfold s_seq
      dsimp only
      simp only [Option.bind_some, if_true]
      rw [show [r, v, 0].set (sx_n (sv 2)) (j_hd [if sx_n z0 = 0 then (sx_n z0 : Int) else -(sx_n z0 : Int)]) = [r, v, 0] from rfl, e1]
    rw [lq_97, es_2, es_2, es_17]
    unfold s_seq
    rw [q1, Option.bind_some]
    dsimp only
    rw [if_pos rfl, d1]
    rfl
  rw [evF_s, gm_97, hF]
  show (evS xs L ck F K cW bb_97 [r, v, 0] ((a_g3, c, d), hh)).bind _ = _
  rw [kk, Option.bind_some]
  exact if_pos chk_self
theorem tot_98 (hK : 4294967300 ≤ K) (hF : ∀ q, (g_T 1).2.2.2.1 q = true → TotF (g_T 1) (a_g3, c, d) g_ro (evF xs L g_ck K g_cW g_M (n + 1)) q) : TotF (g_T 0) (a_g3, c, d) g_ro (evF xs L g_ck K g_cW g_M (n + 2)) 98 :=
  gen_98 hK (fun _ _ => run_ty hK hF tA_98) (fun _ _ => run_ty hK hF tB_98) (fun _ _ => run_ty hK hF tD_98)
theorem tot_97 (hK : 4294967300 ≤ K) (hF : ∀ q, (g_T 2).2.2.2.1 q = true → TotF (g_T 2) (a_g3, c, d) g_ro (evF xs L g_ck K g_cW g_M n) q) : TotF (g_T 0) (a_g3, c, d) g_ro (evF xs L g_ck K g_cW g_M (n + 1)) 97 :=
  gen_97 hK (fun _ _ => run_ty hK hF tR_97)
/-- the same, up to a depth -/
theorem cls_lo {D : Nat} (hD : D ≤ 99999) (hK : 4294967300 ≤ K) (hand : ∀ n f, g_hd f = true → g_dp f < n → g_dp f < D → TotF (g_T 0) (a_g3, c, d) g_ro (evF xs L g_ck K g_cW g_M n) f) : ∀ n f, g_dp f < n → g_dp f < D → g_hd f = false → TotX (g_T 0) (a_g3, c, d) g_ro (evF xs L g_ck K g_cW g_M n) f ∧ (g_THR f = false → TotF (g_T 0) (a_g3, c, d) g_ro (evF xs L g_ck K g_cW g_M n) f)
  | 0, _, h, _, _ => absurd h (by omega)
  | n + 1, f, h, hd, hh => by
    have hk := (tk_all f).1
    simp only [g_tk, hh, Bool.or_false, Bool.or_eq_true, Nat.beq_eq] at hk
    have h1 := hk.resolve_left (by omega)
    rw [g_tc, Bool.and_eq_true] at h1
    refine ty_X (T := g_T (g_dp f)) (g := (a_g3, c, d)) g_GG (g_TG _) nt_cW (g_WK _) hK (fun q hq => ?_) h1.1 h1.2
    have hq2 : (Nat.blt (g_dp q) (g_dp f) && !g_THR q) = true := hq
    rw [Bool.and_eq_true] at hq2
    have hlt : g_dp q < g_dp f := by
      have := hq2.1
      simp only [Nat.blt_eq] at this
      exact this
    cases hx : g_hd q with
    | true => exact hand n q hx (by omega) (by omega)
    | false => exact (cls_lo hD hK hand n q (by omega) (by omega) hx).2 (by simpa using hq2.2)
/-- what may be called at a depth -/
theorem cls_up {D : Nat} (hD : D ≤ 99999) (hK : 4294967300 ≤ K) (hand : ∀ n f, g_hd f = true → g_dp f < n → g_dp f < D → TotF (g_T 0) (a_g3, c, d) g_ro (evF xs L g_ck K g_cW g_M n) f) {n : Nat} (hn : D ≤ n) : ∀ q, (g_T D).2.2.2.1 q = true → TotF (g_T D) (a_g3, c, d) g_ro (evF xs L g_ck K g_cW g_M n) q := fun q hq => by
  have hq2 : (Nat.blt (g_dp q) D && !g_THR q) = true := hq
  rw [Bool.and_eq_true] at hq2
  have hlt : g_dp q < D := by
    have := hq2.1
    simp only [Nat.blt_eq] at this
    exact this
  cases hx : g_hd q with
  | true => exact hand n q hx (by omega) hlt
  | false => exact (cls_lo hD hK hand n q (by omega) hlt hx).2 (by simpa using hq2.2)
theorem hd_cases {f : Nat} (h : g_hd f = true) : f = 54 ∨ f = 55 ∨ f = 56 ∨ f = 57 ∨ f = 58 ∨ f = 59 ∨ f = 68 ∨ f = 77 ∨ f = 97 ∨ f = 98 ∨ f = 101 ∨ f = 102 ∨ f = 103 ∨ f = 104 ∨ f = 151 := by
  simp only [g_hd, List.any_cons, List.any_nil, Bool.or_false, Bool.or_eq_true, Nat.beq_eq] at h
  omega
theorem hand_0 (hK : 4294967300 ≤ K) : ∀ n f, g_hd f = true → g_dp f < n → g_dp f < 1 → TotF (g_T 0) (a_g3, c, d) g_ro (evF xs L g_ck K g_cW g_M n) f
  | 0, f, _, h, _ => absurd h (by omega)
  | n + 1, f, hh, h, hd => by
    rcases hd_cases hh with rfl | rfl | rfl | rfl | rfl | rfl | rfl | rfl | rfl | rfl | rfl | rfl | rfl | rfl | rfl
    · exact tot_54
    · exact tot_55
    · exact tot_56
    · exact tot_57 hK
    · exact tot_58 hK
    · exact tot_59 hK
    · exact tot_68
    · exact tot_77 hK
    · exact absurd hd (by decide)
    · exact absurd hd (by decide)
    · exact tot_101
    · exact absurd hd (by decide)
    · exact absurd hd (by decide)
    · exact absurd hd (by decide)
    · exact absurd hd (by decide)
theorem hand_1 (hK : 4294967300 ≤ K) : ∀ n f, g_hd f = true → g_dp f < n → g_dp f < 2 → TotF (g_T 0) (a_g3, c, d) g_ro (evF xs L g_ck K g_cW g_M n) f
  | 0, f, _, h, _ => absurd h (by omega)
  | 1, f, hh, h, _ => hand_0 hK 1 f hh h h
  | n + 2, f, hh, h, hd => by
    by_cases h0 : g_dp f < 1
    · exact hand_0 hK (n + 2) f hh h h0
    · rcases hd_cases hh with rfl | rfl | rfl | rfl | rfl | rfl | rfl | rfl | rfl | rfl | rfl | rfl | rfl | rfl | rfl
      · exact absurd (by decide) h0
      · exact absurd (by decide) h0
      · exact absurd (by decide) h0
      · exact absurd (by decide) h0
      · exact absurd (by decide) h0
      · exact absurd (by decide) h0
      · exact absurd (by decide) h0
      · exact absurd (by decide) h0
      · exact absurd hd (by decide)
      · exact tot_98 hK (cls_up (by decide) hK (fun n f a b e => hand_0 hK n f a b e) (by omega))
      · exact absurd (by decide) h0
      · exact tot_102 hK
      · exact tot_103 hK
      · exact tot_104 hK
      · exact tot_151 hK
theorem g_hand (hK : 4294967300 ≤ K) : ∀ n f, g_hd f = true → g_dp f < n → TotF (g_T 0) (a_g3, c, d) g_ro (evF xs L g_ck K g_cW g_M n) f
  | 0, f, _, h => absurd h (by omega)
  | n + 1, f, hh, h => by
    by_cases h0 : g_dp f < 2
    · exact hand_1 hK (n + 1) f hh h h0
    · rcases hd_cases hh with rfl | rfl | rfl | rfl | rfl | rfl | rfl | rfl | rfl | rfl | rfl | rfl | rfl | rfl | rfl
      · exact absurd (by decide) h0
      · exact absurd (by decide) h0
      · exact absurd (by decide) h0
      · exact absurd (by decide) h0
      · exact absurd (by decide) h0
      · exact absurd (by decide) h0
      · exact absurd (by decide) h0
      · exact absurd (by decide) h0
      · exact tot_97 hK (cls_up (by decide) hK (fun n f a b e => hand_1 hK n f a b e) (by omega))
      · exact absurd (by decide) h0
      · exact absurd (by decide) h0
      · exact absurd (by decide) h0
      · exact absurd (by decide) h0
      · exact absurd (by decide) h0
      · exact absurd (by decide) h0
/-- every method of the class that has a depth comes to an end, keeps the kinds, the tape's length and the reference's cells -/
theorem g_cls (hK : 4294967300 ≤ K) (n f : Nat) (h : g_dp f < n) (h2 : g_dp f < 99999) : TotX (g_T 0) (a_g3, c, d) g_ro (evF xs L g_ck K g_cW g_M n) f ∧ (g_THR f = false → TotF (g_T 0) (a_g3, c, d) g_ro (evF xs L g_ck K g_cW g_M n) f) := by
  cases hx : g_hd f with
  | false => exact cls_lo (Nat.le_refl _) hK (fun n f a b _ => g_hand hK n f a b) n f h h2 hx
  | true =>
    have k := g_hand (xs := xs) (L := L) (c := c) (d := d) hK n f hx h
    refine ⟨fun av hh hH hv => ?_, fun _ => k⟩
    obtain ⟨r, h', e1, e2, e3, e4⟩ := k av hh hH hv
    exact ⟨1, r, _, h', e1, e2, e3, Or.inl ⟨rfl, rfl, e4⟩⟩
end LEAF5
end
section
/-! ===== the tape: what feed adds, whatever its length ===== -/
section TAPE
variable {xs : Nat → Int} {L K : Nat} {ck : Nat → List Nat} {F : XP} {cW : Nat → Nat → Int}
def clG (m s : Int) : Int := if rdB s = 1 ∧ m < 1000 then m + 1 else m
/-- the tape's length when the last j of a number's eight signs are added -/
def fcl (v : Int) : Nat → Int → Int
  | 0, m => m
  | j + 1, m => fcl v j (clG m (sgC v (8 * (j : Int))))
theorem clG_in {m s : Int} (h : 0 ≤ m ∧ m ≤ 1000) : 0 ≤ clG m s ∧ clG m s ≤ 1000 := by
  unfold clG
  split <;> omega
theorem fcl_in {v : Int} : ∀ (j : Nat) {m : Int}, 0 ≤ m ∧ m ≤ 1000 → 0 ≤ fcl v j m ∧ fcl v j m ≤ 1000
  | 0, _, h => h
  | j + 1, _, h => fcl_in j (clG_in h)
theorem clG_lt {m s : Int} (h : m < 1000) : clG m s = m + rdB s := by
  unfold clG
  rcases rdB_01 s with e | e <;> rw [e] <;> simp [h]
theorem clG_ge {m s : Int} (h : ¬ m < 1000) : clG m s = m := if_neg (fun k => h k.2)
theorem itA1 {v o w k s4 s5 sr m : Int} {st : XT} (hr : j_rf st.1.1 o.toNat 0 = some sr) (hl : j_len st.1.1 sr.toNat = 1000) (hm : st.2 o.toNat 1 = m) (h0 : 0 ≤ m) (h1 : ¬ m < 1000) :
    evS xs L ck F K cW fdB [o, v, w, k, s4, s5] st = some (0, [], [o, v, w, k, sgC v k, rdB (sgC v k)], st) := by
  have e1 : (evE xs L ck F cW fdR [o, v, w, k, sgC v k, s5] st) = some ([rdB (sgC v k)], st) := rd_ev rfl
  unfold fdB
  simp only [es_20, es_2, es_3, es_10, s_seq, s_if, ee_14, ee_18, ee_16, ee_3, ee_1, n_bin, Option.bind_some, j_hd, List.headD_cons, n_sv, n_z0, List.getD_cons_zero, List.getD_cons_succ, List.set_cons_succ, List.set_cons_zero, if_true]
  have e0 : j_iop 3 (j_un 3 (j_lsh 2 v k)) ((255 : Nat) : Int) = sgC v k := rfl
  rw [e0, e1]
  simp only [Option.bind_some, j_hd, List.headD_cons, List.set_cons_succ, List.set_cons_zero, if_true, ee_25, ee_24, ee_3, n_ife, n_nz, ee_21, ee_20, ee_4, ee_10, ee_5, n_cmp, n_alen, n_sv, n_z0, List.getD_cons_zero, List.getD_cons_succ, hm, hr, hl, j_cmp]
  rcases rdB_01 (sgC v k) with e | e <;> rw [e] <;> simp [h0, h1, j_b, hr, hl, hm]
theorem itM1 {v o w k s4 m : Int} {st : XT} (hm : st.2 o.toNat 2 = m) (h1 : ¬ m < 1000) :
    evS xs L ck F K cW fmB [o, v, w, k, s4] st = some (0, [], [o, v, w, k, sgM v k], st) := by
  have e1 : (evE xs L ck F cW fdR [o, v, w, k, sgM v k] st) = some ([rdB (sgM v k)], st) := rd_ev rfl
  unfold fmB
  simp only [es_20, es_2, es_3, es_10, s_seq, s_if, ee_14, ee_18, ee_16, ee_3, ee_1, n_bin, Option.bind_some, j_hd, List.headD_cons, n_sv, n_z0, List.getD_cons_zero, List.getD_cons_succ, List.set_cons_succ, List.set_cons_zero, if_true]
  have e0 : j_iop 3 (j_un 3 (j_lsh 1 v k)) ((255 : Nat) : Int) = sgM v k := rfl
  rw [e0, ee_25, n_ife, e1]
  simp only [Option.bind_some, j_hd, List.headD_cons, n_nz, ee_20, ee_4, ee_3, ee_1, n_cmp, n_sv, n_z0, List.getD_cons_zero, List.getD_cons_succ, hm, j_cmp, if_true]
  rcases rdB_01 (sgM v k) with e | e <;> rw [e] <;> simp [h1, j_b]
/-- what a change of the tape keeps -/
def KpA (o sr : Nat) (P : XH → Prop) : Prop := ∀ h m s, P h → P (upA h o sr m s)
def KpM (o sr : Nat) (P : XH → Prop) : Prop := ∀ h m s, InI s → P h → P (upM h o sr m s)
theorem lqA {v o w sr : Int} {g : XS × Nat × Nat} (hr : j_rf g.1 o.toNat 0 = some sr) (hl : j_len g.1 sr.toNat = 1000) (hne : sr.toNat ≠ o.toNat) : ∀ (j fuel : Nat) (s4 s5 m : Int) (h : XH), j ≤ 8 → j + 1 ≤ fuel → h o.toNat 1 = m → 0 ≤ m ∧ m ≤ 1000 →
    ∃ en hh, s_loop (evE xs L ck F cW fdC) (evS xs L ck F K cW fdB) (evS xs L ck F K cW fdP) fuel [o, v, w, 8 * (j : Int) - 8, s4, s5] (g, h) = some (0, [], en, (g, hh)) ∧ hh o.toNat 1 = fcl v j m ∧ ∀ P, KpA o.toNat sr.toNat P → P h → P hh
  | 0, fuel, s4, s5, m, h, _, hf, hm, _ => by
    obtain ⟨f, rfl⟩ : ∃ f, fuel = f + 1 := ⟨fuel - 1, by omega⟩
    refine ⟨[o, v, w, 8 * ((0 : Nat) : Int) - 8, s4, s5], h, ?_, hm, fun _ _ k => k⟩
    unfold s_loop
    rw [fdC_ev, Option.bind_some]
    exact if_pos rfl
  | j + 1, fuel, s4, s5, m, h, hj, hf, hm, h0 => by
    obtain ⟨f, rfl⟩ : ∃ f, fuel = f + 1 := ⟨fuel - 1, by omega⟩
    have ek : 8 * ((j + 1 : Nat) : Int) - 8 = 8 * (j : Int) := by omega
    rw [ek]
    obtain ⟨h', hb, hu, hP⟩ : ∃ h', evS xs L ck F K cW fdB [o, v, w, 8 * (j : Int), s4, s5] (g, h) = some (0, [], [o, v, w, 8 * (j : Int), sgC v (8 * (j : Int)), rdB (sgC v (8 * (j : Int)))], (g, h')) ∧ h' o.toNat 1 = clG m (sgC v (8 * (j : Int))) ∧ ∀ P, KpA o.toNat sr.toNat P → P h → P h' := by
      by_cases h1 : m < 1000
      · refine ⟨_, itA (xs := xs) (L := L) (ck := ck) (F := F) (K := K) (cW := cW) (v := v) (w := w) (k := 8 * (j : Int)) (s4 := s4) (s5 := s5) (st := (g, h)) hr hl hm h0.1 h1 hne, ?_, fun P k p => k _ _ _ p⟩
        rw [clG_lt h1]
        exact (upA_m h0.1 h1 hm).1
      · refine ⟨h, itA1 (st := (g, h)) hr hl hm h0.1 h1, ?_, fun P k p => p⟩
        rw [clG_ge h1]
        exact hm
    obtain ⟨en, hh, e1, e2, e3⟩ := lqA hr hl hne j f (sgC v (8 * (j : Int))) (rdB (sgC v (8 * (j : Int)))) _ h' (by omega) (by omega) hu (clG_in h0)
    refine ⟨en, hh, ?_, e2, fun P k p => e3 P k (hP P k p)⟩
    unfold s_loop
    rw [fdC_ev, Option.bind_some]
    dsimp only
    rw [decide_eq_true (show 8 * (j : Int) ≥ 0 by omega)]
    refine (if_neg (by decide)).trans ?_
    rw [hb, Option.bind_some]
    refine (if_pos (Or.inl rfl)).trans ?_
    dsimp only
    rw [fdP_ev, Option.bind_some]
    refine (if_pos rfl).trans ?_
    dsimp only
    rw [j32_8 (by omega)]
    exact e1
theorem lqM {v o w sr : Int} {g : XS × Nat × Nat} (hr : j_rf g.1 o.toNat 1 = some sr) (hl : j_len g.1 sr.toNat = 1000) (hne : sr.toNat ≠ o.toNat) : ∀ (j fuel : Nat) (s4 m : Int) (h : XH), j ≤ 8 → j + 1 ≤ fuel → h o.toNat 2 = m → 0 ≤ m ∧ m ≤ 1000 →
    ∃ en hh, s_loop (evE xs L ck F cW fdC) (evS xs L ck F K cW fmB) (evS xs L ck F K cW fdP) fuel [o, v, w, 8 * (j : Int) - 8, s4] (g, h) = some (0, [], en, (g, hh)) ∧ hh o.toNat 2 = fcl v j m ∧ ∀ P, KpM o.toNat sr.toNat P → P h → P hh
  | 0, fuel, s4, m, h, _, hf, hm, _ => by
    obtain ⟨f, rfl⟩ : ∃ f, fuel = f + 1 := ⟨fuel - 1, by omega⟩
    refine ⟨[o, v, w, 8 * ((0 : Nat) : Int) - 8, s4], h, ?_, hm, fun _ _ k => k⟩
    unfold s_loop
    rw [fdC_ev, Option.bind_some]
    exact if_pos rfl
  | j + 1, fuel, s4, m, h, hj, hf, hm, h0 => by
    obtain ⟨f, rfl⟩ : ∃ f, fuel = f + 1 := ⟨fuel - 1, by omega⟩
    have ek : 8 * ((j + 1 : Nat) : Int) - 8 = 8 * (j : Int) := by omega
    rw [ek]
    obtain ⟨h', hb, hu, hP⟩ : ∃ h', evS xs L ck F K cW fmB [o, v, w, 8 * (j : Int), s4] (g, h) = some (0, [], [o, v, w, 8 * (j : Int), sgM v (8 * (j : Int))], (g, h')) ∧ h' o.toNat 2 = clG m (sgC v (8 * (j : Int))) ∧ ∀ P, KpM o.toNat sr.toNat P → P h → P h' := by
      rw [sg_all v j (by omega)]
      by_cases h1 : m < 1000
      · refine ⟨_, itM (xs := xs) (L := L) (ck := ck) (F := F) (K := K) (cW := cW) (v := v) (w := w) (k := 8 * (j : Int)) (s4 := s4) (st := (g, h)) hr hl hm h0.1 h1 hne, ?_, fun P k p => k _ _ _ (iop_in _ _ _) p⟩
        rw [clG_lt h1]
        exact (upM_m h0.1 h1 hm).1
      · refine ⟨h, itM1 (st := (g, h)) hm h1, ?_, fun P k p => p⟩
        rw [clG_ge h1]
        exact hm
    obtain ⟨en, hh, e1, e2, e3⟩ := lqM hr hl hne j f (sgM v (8 * (j : Int))) _ h' (by omega) (by omega) hu (clG_in h0)
    refine ⟨en, hh, ?_, e2, fun P k p => e3 P k (hP P k p)⟩
    unfold s_loop
    rw [fdC_ev, Option.bind_some]
    dsimp only
    rw [decide_eq_true (show 8 * (j : Int) ≥ 0 by omega)]
    refine (if_neg (by decide)).trans ?_
    rw [hb, Option.bind_some]
    refine (if_pos (Or.inl rfl)).trans ?_
    dsimp only
    rw [fdP_ev, Option.bind_some]
    refine (if_pos rfl).trans ?_
    dsimp only
    rw [j32_8 (by omega)]
    exact e1
theorem aqA {n : Nat} (hK : 9 ≤ K) {o v sr m : Int} {g : XS × Nat × Nat} {h : XH} (hr : j_rf g.1 o.toNat 0 = some sr) (hl : j_len g.1 sr.toNat = 1000) (hne : sr.toNat ≠ o.toNat) (hm : h o.toNat 1 = m) (h0 : 0 ≤ m ∧ m ≤ 1000) :
    ∃ hh, evF xs L ck K cW g_M (n + 1) 62 [o, v] (g, h) = some (1, [], (g, hh)) ∧ hh o.toNat 1 = fcl v 8 m ∧ ∀ P, KpA o.toNat sr.toNat P → P h → P hh := by
  obtain ⟨en, hh, e1, e2, e3⟩ := lqA (xs := xs) (L := L) (K := K) (ck := ck) (cW := cW) (F := evF xs L ck K cW g_M n) (v := v) (w := 0) hr hl hne 8 K 0 0 m h (by omega) hK hm h0
  refine ⟨hh, ?_, e2, e3⟩
  rw [evF_s, gm_a]
  have k1 : evS xs L ck (evF xs L ck K cW g_M n) K cW bb_62 [o, v, 0, 0, 0, 0] (g, h) = some (1, [], en, (g, hh)) := by
    rw [fd_a, es_2, es_17, es_20, es_2, es_3, es_12, ee_1]
    unfold s_seq
    dsimp only
    simp only [Option.bind_some, if_true]
    have e4 : [o, v, 0, 0, 0, 0].set (sx_n (sv 3)) (j_hd [if sx_n z0 = 0 then (sx_n (sv 56) : Int) else -(sx_n (sv 56) : Int)]) = [o, v, 0, 8 * ((8 : Nat) : Int) - 8, 0, 0] := rfl
    rw [e4, e1]
    rfl
  show (evS xs L ck (evF xs L ck K cW g_M n) K cW bb_62 [o, v, 0, 0, 0, 0] (g, h)).bind _ = _
  rw [k1, Option.bind_some]
  exact if_pos chk_self
theorem aqM {n : Nat} (hK : 9 ≤ K) {o v sr m : Int} {g : XS × Nat × Nat} {h : XH} (hr : j_rf g.1 o.toNat 1 = some sr) (hl : j_len g.1 sr.toNat = 1000) (hne : sr.toNat ≠ o.toNat) (hm : h o.toNat 2 = m) (h0 : 0 ≤ m ∧ m ≤ 1000) :
    ∃ hh, evF xs L ck K cW g_M (n + 1) 184 [o, v] (g, h) = some (1, [], (g, hh)) ∧ hh o.toNat 2 = fcl v 8 m ∧ ∀ P, KpM o.toNat sr.toNat P → P h → P hh := by
  obtain ⟨en, hh, e1, e2, e3⟩ := lqM (xs := xs) (L := L) (K := K) (ck := ck) (cW := cW) (F := evF xs L ck K cW g_M n) (v := v) (w := 0) hr hl hne 8 K 0 m h (by omega) hK hm h0
  refine ⟨hh, ?_, e2, e3⟩
  rw [evF_s, gm_m]
  have k1 : evS xs L ck (evF xs L ck K cW g_M n) K cW bb_184 [o, v, 0, 0, 0] (g, h) = some (1, [], en, (g, hh)) := by
    rw [fd_m, es_2, es_17, es_20, es_2, es_3, es_12, ee_1]
    unfold s_seq
    dsimp only
    simp only [Option.bind_some, if_true]
    have e4 : [o, v, 0, 0, 0].set (sx_n (sv 3)) (j_hd [if sx_n z0 = 0 then (sx_n (sv 56) : Int) else -(sx_n (sv 56) : Int)]) = [o, v, 0, 8 * ((8 : Nat) : Int) - 8, 0] := rfl
    rw [e4, e1]
    rfl
  show (evS xs L ck (evF xs L ck K cW g_M n) K cW bb_184 [o, v, 0, 0, 0] (g, h)).bind _ = _
  rw [k1, Option.bind_some]
  exact if_pos chk_self
/-- the tape's length after a feed -/
def fclT (m a b c : Int) : Int := fcl c 8 (fcl b 8 (fcl a 8 m))
theorem fqA {n : Nat} (hK : 9 ≤ K) {x rr o sr m a b c : Int} {g : XS × Nat × Nat} {h : XH} (hx1 : j_rf g.1 x.toNat 0 = some rr) (hx2 : j_rf g.1 rr.toNat 0 = some o) (hr : j_rf g.1 o.toNat 0 = some sr) (hl : j_len g.1 sr.toNat = 1000) (hne : sr.toNat ≠ o.toNat) (hm : h o.toNat 1 = m) (h0 : 0 ≤ m ∧ m ≤ 1000) :
    ∃ hh, evF xs L ck K cW g_M (n + 2) 1 [x, a, b, c] (g, h) = some (1, [fclT m a b c], (g, hh)) ∧ hh o.toNat 1 = fclT m a b c ∧ ∀ P, KpA o.toNat sr.toNat P → P h → P hh := by
  obtain ⟨h2, e1, m1, f1⟩ := aqA (xs := xs) (L := L) (ck := ck) (cW := cW) (n := n) (v := a) hK hr hl hne hm h0
  obtain ⟨h3, e2, m2, f2⟩ := aqA (xs := xs) (L := L) (ck := ck) (cW := cW) (n := n) (v := b) hK hr hl hne m1 (fcl_in 8 h0)
  obtain ⟨h4, e3, m3, f3⟩ := aqA (xs := xs) (L := L) (ck := ck) (cW := cW) (n := n) (v := c) hK hr hl hne m2 (fcl_in 8 (fcl_in 8 h0))
  have m4 : h4 o.toNat 1 = fclT m a b c := m3
  refine ⟨h4, ?_, m4, fun P k p => f3 P k (f2 P k (f1 P k p))⟩
  rw [evF_s, gm_f]
  have k1 : evS xs L ck (evF xs L ck K cW g_M (n + 1)) K cW bb_1 [x, a, 0, b, 0, c, 0] (g, h) = some (1, [fclT m a b c], [x, a, 0, b, 0, c, 0], (g, h4)) := by
    generalize evF xs L ck K cW g_M (n + 1) = F at e1 e2 e3 ⊢
    unfold bb_1
    simp only [es_2, es_9, es_16, ee_32, ee_30, ee_31, ee_5, ee_4, ee_3, s_seq, n_call, Option.bind_some, j_hd, List.headD_cons, n_sv, n_z0, List.getD_cons_zero, List.getD_cons_succ, hx1, hx2, List.cons_append, List.nil_append, e1, e2, e3, if_true, m4]
  show (evS xs L ck (evF xs L ck K cW g_M (n + 1)) K cW bb_1 [x, a, 0, b, 0, c, 0] (g, h)).bind _ = _
  rw [k1, Option.bind_some]
  exact if_pos chk_self
theorem fqM {n : Nat} (hK : 9 ≤ K) {o sr m a b c : Int} {g : XS × Nat × Nat} {h : XH} (hr : j_rf g.1 o.toNat 1 = some sr) (hl : j_len g.1 sr.toNat = 1000) (hne : sr.toNat ≠ o.toNat) (hm : h o.toNat 2 = m) (h0 : 0 ≤ m ∧ m ≤ 1000) :
    ∃ hh, evF xs L ck K cW g_M (n + 2) 183 [o, a, b, c] (g, h) = some (1, [fclT m a b c], (g, hh)) ∧ hh o.toNat 2 = fclT m a b c ∧ ∀ P, KpM o.toNat sr.toNat P → P (j_up h o.toNat 0 0) → P hh := by
  have hm0 : j_up h o.toNat 0 ((0 : Nat) : Int) o.toNat 2 = m := by rw [up_ne (fun z => absurd z.2 (by decide)), hm]
  obtain ⟨h2, e1, m1, f1⟩ := aqM (xs := xs) (L := L) (ck := ck) (cW := cW) (n := n) (v := a) hK hr hl hne hm0 h0
  obtain ⟨h3, e2, m2, f2⟩ := aqM (xs := xs) (L := L) (ck := ck) (cW := cW) (n := n) (v := b) hK hr hl hne m1 (fcl_in 8 h0)
  obtain ⟨h4, e3, m3, f3⟩ := aqM (xs := xs) (L := L) (ck := ck) (cW := cW) (n := n) (v := c) hK hr hl hne m2 (fcl_in 8 (fcl_in 8 h0))
  have m4 : h4 o.toNat 2 = fclT m a b c := m3
  refine ⟨h4, ?_, m4, fun P k p => f3 P k (f2 P k (f1 P k p))⟩
  rw [evF_s, gm_g]
  have k1 : evS xs L ck (evF xs L ck K cW g_M (n + 1)) K cW bb_183 [o, a, 0, b, 0, c, 0] (g, h) = some (1, [fclT m a b c], [o, a, 0, b, 0, c, 0], (g, h4)) := by
    generalize evF xs L ck K cW g_M (n + 1) = F at e1 e2 e3 ⊢
    unfold bb_183
    simp only [es_2, es_5, es_9, es_16, s_putf, ee_32, ee_30, ee_31, ee_5, ee_4, ee_3, ee_1, s_seq, n_call, Option.bind_some, j_hd, List.headD_cons, n_sv, n_z0, List.getD_cons_zero, List.getD_cons_succ, List.cons_append, List.nil_append, if_true, e1, e2, e3, m4]
  show (evS xs L ck (evF xs L ck K cW g_M (n + 1)) K cW bb_183 [o, a, 0, b, 0, c, 0] (g, h)).bind _ = _
  rw [k1, Option.bind_some]
  exact if_pos chk_self
end TAPE
end
section
/-! ===== grid, work and feed, as the law sees them: the class's side ===== -/
section CLS6
variable {xs : Nat → Int} {L K c d n : Nat} {F : XP}
theorem gm_2 : g_M 2 = (0, 2, [10], [1], bb_2) := rfl
theorem gm_4 : g_M 4 = (0, 2, [10], [1], bb_4) := rfl
theorem gm_61 : g_M 61 = (0, 1, [19], [], bb_61) := rfl
theorem cy_21 : c_ty g_fk a_g3 2 1 = 1 := by decide +kernel
theorem cy_3 : ∀ j, c_ty g_fk a_g3 3 j = 1 := by
  obtain ⟨c', h, e⟩ : ∃ c', a_g3[3]? = some c' ∧ c'.1 = 8 := by
    have h : (match a_g3[3]? with | some c' => decide (c'.1 = 8) | none => false) = true := by decide +kernel
    split at h
    · exact ⟨_, by assumption, of_decide_eq_true h⟩
    · cases h
  exact fun j => (ty_arr h j).2.2 e
theorem ro_21 : g_ro 2 1 = true := by decide
theorem ro_ge {o k : Nat} (h : 182 ≤ o) : g_ro o k = true := by
  unfold g_ro
  rw [Bool.or_eq_true, Bool.or_eq_true]
  exact Or.inl (Or.inr (Nat.ble_eq.mpr h))
theorem ro_t {k : Nat} : g_ro 3 k = true := by
  unfold g_ro
  rw [Bool.or_eq_true]
  exact Or.inr rfl
theorem clr_ok {ck : Nat → List Nat} {cW : Nat → Nat → Int} {o : Int} {st : XT} : evF xs L ck K cW g_M (n + 1) 61 [o] st = some (1, [], (st.1, j_up st.2 o.toNat 1 0)) := by
  rw [evF_s, gm_61]
  have k1 : evS xs L ck (evF xs L ck K cW g_M n) K cW bb_61 [o] st = some (1, [], [o], (st.1, j_up st.2 o.toNat 1 0)) := by
    generalize evF xs L ck K cW g_M n = F
    rfl
  show (evS xs L ck (evF xs L ck K cW g_M n) K cW bb_61 [o] st).bind _ = _
  rw [k1, Option.bind_some]
  exact if_pos chk_self
theorem root_ty : TV (fun _ => 0) a_g3 10 0 := by
  have h : (match a_g3[0]? with | some c' => decide (c'.1 = 10) | none => false) = true := by decide +kernel
  split at h
  · rename_i c' hc
    exact TV.ref (by decide) (by decide) ⟨Int.le_refl _, c', hc, of_decide_eq_true h⟩
  · cases h
theorem fld_ty {k kd : Nat} (hk : (g_fk 0)[k]? = some kd) (h6 : 6 ≤ kd) (h7 : kd < 100) : ∃ q : Int, j_rf a_g3 (0 : Int).toNat k = some q ∧ TV (fun _ => 0) a_g3 kd q := by
  obtain ⟨q, hq, q0, c', hc, he⟩ := ref_at (ci := 0) (k := k) root_ty (by decide) hk h6 h7
  exact ⟨q, hq, TV.ref h6 h7 ⟨q0, c', hc, he⟩⟩
theorem ht_clr {h : XH} (hH : HT g_fk a_g3 h) : HT g_fk a_g3 (j_up h (2 : Int).toNat 1 0) := hH.up (fun _ => in_0) (fun e => absurd (cy_21.symm.trans e) (by decide)) (fun e => absurd (cy_21.symm.trans e) (by decide))
/-- what a call of the class leaves -/
def KeptC (h h' : XH) : Prop := ∀ o k, 182 ≤ o → h' o k = h o k
theorem FR.kp {h h' : XH} (a : FR g_ro h h') : KeptC h h' := fun o k e => a o k (ro_ge e)
theorem KeptC.tr {h h1 h2 : XH} (a : KeptC h h1) (b : KeptC h1 h2) : KeptC h h2 := fun o k e => (b o k e).trans (a o k e)
theorem kp_clr {h : XH} : KeptC h (j_up h (2 : Int).toNat 1 0) := fun o k e => up_ne (fun z => by have := z.1; rw [show (2 : Int).toNat = 2 from rfl] at this; omega)
theorem grid_ok (hK : 4294967300 ≤ K) (hn : 5 < n) {h : XH} (hH : HT g_fk a_g3 h) : ∃ v h', evF xs L g_ck K g_cW g_M (n + 1) 2 [0] ((a_g3, c, d), h) = some (1, [v], ((a_g3, c, d), h')) ∧ HT g_fk a_g3 h' ∧ h' 2 1 = 0 ∧ KeptC h h' := by
  obtain ⟨q1, hq1, t1⟩ := fld_ty (k := 1) (kd := 15) rfl (by decide) (by decide)
  obtain ⟨q2, hq2, t2⟩ := fld_ty (k := 2) (kd := 15) rfl (by decide) (by decide)
  obtain ⟨q0, hq0, t0⟩ := fld_ty (k := 0) (kd := 16) rfl (by decide) (by decide)
  have e01 : q0 = 1 := Option.some.inj (hq0.symm.trans fg_1)
  subst e01
  obtain ⟨r1, h1, a1, a2, a3, a4⟩ := (g_cls (xs := xs) (L := L) (c := c) (d := d) hK n 119 (Nat.lt_of_le_of_lt (show g_dp 119 ≤ 5 by decide) hn) (by decide)).2 (by decide) [1, q2] h hH ⟨t0, t2, trivial⟩
  obtain ⟨v, rfl, hv⟩ := VL.one (t := 1) a4
  have h61 : ∀ st : XT, evF xs L g_ck K g_cW g_M n 61 [2] st = some (1, [], (st.1, j_up st.2 (2 : Int).toNat 1 0)) := fun st => by
    obtain ⟨m, rfl⟩ : ∃ m, n = m + 1 := ⟨n - 1, by omega⟩
    exact clr_ok
  have b2 := ht_clr a2
  have b3 : KeptC h (j_up h1 (2 : Int).toNat 1 0) := a3.kp.tr kp_clr
  have b4 : j_up h1 (2 : Int).toNat 1 0 2 1 = 0 := up_eq
  generalize hh2 : j_up h1 (2 : Int).toNat 1 0 = h2 at b2 b3 b4
  obtain ⟨r3, h3, c1, c2, c3, c4⟩ := (g_cls (xs := xs) (L := L) (c := c) (d := d) hK n 97 (Nat.lt_of_le_of_lt (show g_dp 97 ≤ 5 by decide) hn) (by decide)).2 (by decide) [q1, q2] h2 b2 ⟨t1, t2, trivial⟩
  obtain ⟨r4, h4, d1, d2, d3, d4⟩ := (g_cls (xs := xs) (L := L) (c := c) (d := d) hK n 3 (Nat.lt_of_le_of_lt (show g_dp 3 ≤ 5 by decide) hn) (by decide)).2 (by decide) [0] h3 c2 ⟨root_ty, trivial⟩
  refine ⟨v, if v = 0 then h4 else h2, ?_, ?_, ?_, ?_⟩
  · rw [evF_s, gm_2]
    have k1 : evS xs L g_ck (evF xs L g_ck K g_cW g_M n) K g_cW bb_2 [0, 0] ((a_g3, c, d), h) = some (1, [v], [0, v], ((a_g3, c, d), if v = 0 then h4 else h2)) := by
      generalize evF xs L g_ck K g_cW g_M n = F at a1 h61 c1 d1 ⊢
      unfold bb_2
      simp only [es_2, es_3, es_9, es_10, es_20, es_16, ee_32, ee_30, ee_31, ee_21, ee_5, ee_3, s_seq, s_if, n_call, n_cmp, Option.bind_some, j_hd, List.headD_cons, n_sv, n_z0, List.getD_cons_zero, List.getD_cons_succ, List.set_cons_succ, List.set_cons_zero, hq0, hq1, hq2, fg_2, List.cons_append, List.nil_append, a1, h61, hh2, if_true, j_cmp]
      by_cases hv0 : v = 0
      · subst hv0
        simp [j_b, c1, d1, h61, hh2]
      · simp [j_b, hv0, h61, hh2]
    show (evS xs L g_ck (evF xs L g_ck K g_cW g_M n) K g_cW bb_2 [0, 0] ((a_g3, c, d), h)).bind _ = _
    rw [k1, Option.bind_some]
    exact if_pos chk_self
  · split
    · exact d2
    · exact b2
  · split
    · rw [d3 2 1 ro_21, c3 2 1 ro_21]
      exact b4
    · exact b4
  · split
    · exact b3.tr (c3.kp.tr d3.kp)
    · exact b3
theorem work_ok (hK : 4294967300 ≤ K) (hn : 5 < n) {h : XH} (hH : HT g_fk a_g3 h) : ∃ v h', evF xs L g_ck K g_cW g_M (n + 1) 4 [0] ((a_g3, c, d), h) = some (1, [v], ((a_g3, c, d), h')) ∧ HT g_fk a_g3 h' ∧ h' 2 1 = 0 ∧ KeptC h h' := by
  obtain ⟨q1, hq1, t1⟩ := fld_ty (k := 1) (kd := 15) rfl (by decide) (by decide)
  obtain ⟨q3, hq3, t3⟩ := fld_ty (k := 3) (kd := 13) rfl (by decide) (by decide)
  obtain ⟨q4, hq4, t4⟩ := fld_ty (k := 4) (kd := 13) rfl (by decide) (by decide)
  obtain ⟨q0, hq0, t0⟩ := fld_ty (k := 0) (kd := 16) rfl (by decide) (by decide)
  have e01 : q0 = 1 := Option.some.inj (hq0.symm.trans fg_1)
  subst e01
  obtain ⟨r1, h1, a1, a2, a3, a4⟩ := (g_cls (xs := xs) (L := L) (c := c) (d := d) hK n 120 (Nat.lt_of_le_of_lt (show g_dp 120 ≤ 5 by decide) hn) (by decide)).2 (by decide) [1, q1, q4] h hH ⟨t0, t1, t4, trivial⟩
  obtain ⟨v, rfl, hv⟩ := VL.one (t := 1) a4
  have h61 : ∀ st : XT, evF xs L g_ck K g_cW g_M n 61 [2] st = some (1, [], (st.1, j_up st.2 (2 : Int).toNat 1 0)) := fun st => by
    obtain ⟨m, rfl⟩ : ∃ m, n = m + 1 := ⟨n - 1, by omega⟩
    exact clr_ok
  have b2 := ht_clr a2
  have b3 : KeptC h (j_up h1 (2 : Int).toNat 1 0) := a3.kp.tr kp_clr
  have b4 : j_up h1 (2 : Int).toNat 1 0 2 1 = 0 := up_eq
  generalize hh2 : j_up h1 (2 : Int).toNat 1 0 = h2 at b2 b3 b4
  obtain ⟨r3, h3, c1, c2, c3, c4⟩ := (g_cls (xs := xs) (L := L) (c := c) (d := d) hK n 117 (Nat.lt_of_le_of_lt (show g_dp 117 ≤ 5 by decide) hn) (by decide)).2 (by decide) [q3, q4] h2 b2 ⟨t3, t4, trivial⟩
  refine ⟨v, if v = 0 then h3 else h2, ?_, ?_, ?_, ?_⟩
  · rw [evF_s, gm_4]
    have k1 : evS xs L g_ck (evF xs L g_ck K g_cW g_M n) K g_cW bb_4 [0, 0] ((a_g3, c, d), h) = some (1, [v], [0, v], ((a_g3, c, d), if v = 0 then h3 else h2)) := by
      generalize evF xs L g_ck K g_cW g_M n = F at a1 h61 c1 ⊢
      unfold bb_4
      simp only [es_2, es_3, es_9, es_10, es_20, es_16, ee_32, ee_30, ee_31, ee_21, ee_5, ee_3, s_seq, s_if, n_call, n_cmp, Option.bind_some, j_hd, List.headD_cons, n_sv, n_z0, List.getD_cons_zero, List.getD_cons_succ, List.set_cons_succ, List.set_cons_zero, hq0, hq1, hq3, hq4, fg_2, List.cons_append, List.nil_append, a1, h61, hh2, if_true, j_cmp]
      by_cases hv0 : v = 0
      · subst hv0
        simp [j_b, c1, h61, hh2]
      · simp [j_b, hv0, h61, hh2]
    show (evS xs L g_ck (evF xs L g_ck K g_cW g_M n) K g_cW bb_4 [0, 0] ((a_g3, c, d), h)).bind _ = _
    rw [k1, Option.bind_some]
    exact if_pos chk_self
  · split
    · exact c2
    · exact b2
  · split
    · rw [c3 2 1 ro_21]
      exact b4
    · exact b4
  · split
    · exact b3.tr c3.kp
    · exact b3
end CLS6
end
section
/-! ===== feed, as the law sees it: both sides ===== -/
section FEED7
variable {xs : Nat → Int} {L K c d n : Nat} {F : XP}
theorem kd_ty {q kd : Nat} (h : (match a_g3[q]? with | some c' => decide (c'.1 = kd) | none => false) = true) : ∃ c', a_g3[q]? = some c' ∧ c'.1 = kd := by
  split at h
  · exact ⟨_, by assumption, of_decide_eq_true h⟩
  · cases h
theorem cy_183 : ∀ j, c_ty g_fk a_g3 183 j = 1 := by
  obtain ⟨c', h, e⟩ := kd_ty (q := 183) (kd := 6) (by decide +kernel)
  exact fun j => (ty_arr h j).1 e
theorem in_byC (s : Int) : InI (byC s) := by
  unfold byC
  exact ⟨Int32.le_toInt _, by have := Int32.toInt_lt ((Int32.ofInt (j_un 4 s)).toInt8.toInt32); omega⟩
theorem kpA_HT : KpA 2 3 (HT g_fk a_g3) := fun h m s hH => by
  unfold upA
  split
  · exact (up_i cy_3 hH (in_byC s)).up (fun _ => iop_in _ _ _) (fun e => absurd (cy_21.symm.trans e) (by decide)) (fun e => absurd (cy_21.symm.trans e) (by decide))
  · exact hH
theorem cy_r : ∀ k, k < 4 → c_ty g_fk a_g3 182 k ≠ 2 ∧ c_ty g_fk a_g3 182 k ≠ 100 := by decide +kernel
theorem kpM_HT : KpM 182 183 (HT g_fk a_g3) := fun h m s hs hH => by
  unfold upM
  split
  · exact (up_i cy_183 hH hs).up (fun _ => iop_in _ _ _) (fun e => absurd e (cy_r 2 (by decide)).1) (fun e => absurd e (cy_r 2 (by decide)).2)
  · exact hH
/-- what class and reference are known to be before and after each call of the law -/
def Lnk (h : XH) : Prop := HT g_fk a_g3 h ∧ 0 ≤ h 2 1 ∧ h 2 1 ≤ 1000 ∧ h 182 2 = h 2 1
theorem feed_ok (hK : 4294967300 ≤ K) {h : XH} {a b e : Int} (hL : Lnk h) : ∃ v h1 h2, evF xs L g_ck K g_cW g_M (n + 2) 1 [0, a, b, e] ((a_g3, c, d), h) = some (1, [v], ((a_g3, c, d), h1)) ∧ evF xs L g_ck K g_cW g_M (n + 2) 183 [182, a, b, e] ((a_g3, c, d), h1) = some (1, [v], ((a_g3, c, d), h2)) ∧ Lnk h2 := by
  obtain ⟨hH, m0, m1, hm⟩ := hL
  obtain ⟨h1, e1, e2, e3⟩ := fqA (xs := xs) (L := L) (ck := g_ck) (cW := g_cW) (K := K) (n := n) (a := a) (b := b) (c := e) (g := (a_g3, c, d)) (h := h) (by omega) fg_1 fg_2 fg_3 fg_4 (by decide) rfl ⟨m0, m1⟩
  have k1 : HT g_fk a_g3 h1 := e3 _ kpA_HT hH
  have k2 : h1 182 2 = h 2 1 := e3 (fun h' => h' 182 2 = h 2 1) (fun h' m s p => by
    unfold upA
    split
    · rw [up_ne (fun z => absurd z.1 (by decide)), up_ne (fun z => absurd z.1 (by decide))]
      exact p
    · exact p) hm
  obtain ⟨h2, f1, f2, f3⟩ := fqM (xs := xs) (L := L) (ck := g_ck) (cW := g_cW) (K := K) (n := n) (a := a) (b := b) (c := e) (g := (a_g3, c, d)) (h := h1) (by omega) fg_5 fg_6 (by decide) k2 ⟨m0, m1⟩
  have z1 : HT g_fk a_g3 (j_up h1 (182 : Int).toNat 0 0) := k1.up (fun _ => in_0) (fun e => absurd e (cy_r 0 (by decide)).1) (fun e => absurd e (cy_r 0 (by decide)).2)
  have k3 : HT g_fk a_g3 h2 := f3 _ kpM_HT z1
  have e2' : h1 2 1 = fclT (h 2 1) a b e := e2
  have k4 : h2 2 1 = fclT (h 2 1) a b e := f3 (fun h' => h' 2 1 = fclT (h 2 1) a b e) (fun h' m s _ p => by
    unfold upM
    split
    · rw [up_ne (fun z => absurd z.1 (by decide)), up_ne (fun z => absurd z.1 (by decide))]
      exact p
    · exact p) ((up_ne (fun z => absurd z.1 (by decide))).trans e2')
  have hin : 0 ≤ fclT (h 2 1) a b e ∧ fclT (h 2 1) a b e ≤ 1000 := fcl_in 8 (fcl_in 8 (fcl_in 8 ⟨m0, m1⟩))
  exact ⟨_, h1, h2, e1, f1, k3, k4.symm ▸ hin.1, k4.symm ▸ hin.2, f2.trans k4.symm⟩
/-- a call of the class that is neither feed nor grid nor work keeps the link and the reference's cells -/
theorem cls_lnk (hK : 4294967300 ≤ K) {f : Nat} (hd : g_dp f < n) (hd2 : g_dp f < 99999) {h : XH} {av : List Int} (hL : Lnk h) (hv : VL (fun _ => 0) a_g3 ((g_T 0).2.1 f) av) : ∃ cc r g' h', evF xs L g_ck K g_cW g_M n f av ((a_g3, c, d), h) = some (cc, r, (g', h')) ∧ Lnk h' ∧ KeptC h h' ∧ ((cc = 1 ∧ g' = (a_g3, c, d) ∧ VL (fun _ => 0) a_g3 ((g_T 0).2.2.1 f) r) ∨ (cc = 4 ∧ g_THR f = true ∧ g' = (a_g3, c + 1, d + 6))) := by
  obtain ⟨hH, m0, m1, hm⟩ := hL
  obtain ⟨k1, k2⟩ := g_cls (xs := xs) (L := L) (c := c) (d := d) hK n f hd hd2
  obtain ⟨cc, r, g', h', e1, e2, e3, e4⟩ := k1 av h hH hv
  refine ⟨cc, r, g', h', e1, ⟨e2, ?_, ?_, ?_⟩, e3.kp, ?_⟩
  · rw [e3 2 1 ro_21]; exact m0
  · rw [e3 2 1 ro_21]; exact m1
  · rw [e3 2 1 ro_21, e3.kp 182 2 (Nat.le_refl _)]; exact hm
  · rcases e4 with e4 | ⟨e4, e5⟩
    · exact Or.inl e4
    · refine Or.inr ⟨e4, ?_, e5⟩
      cases hx : g_THR f with
      | true => rfl
      | false =>
        obtain ⟨r2, h2, q1, -⟩ := k2 hx av h hH hv
        rw [e1] at q1
        have : cc = 1 := congrArg Prod.fst (Option.some.inj q1)
        omega
end FEED7
end
section
/-! ===== the tape: what feed writes, in both ===== -/
section TAPE2
variable {xs : Nat → Int} {L K : Nat} {ck : Nat → List Nat} {F : XP} {cW : Nat → Nat → Int}
def upB (X : Nat → Int) (m s : Int) : Nat → Int := if rdB s = 1 ∧ m < 1000 then fun k => if k = m.toNat then s else X k else X
/-- what lies in the tape when the last j of a number's eight signs are added -/
def fcB (v : Int) : Nat → Int → (Nat → Int) → Nat → Int
  | 0, _, X => X
  | j + 1, m, X => fcB v j (clG m (sgC v (8 * (j : Int)))) (upB X m (sgC v (8 * (j : Int))))
theorem byC_ok : (List.range 127).all (fun n => decide (byC (n : Int) = (n : Int))) = true := by decide +kernel
theorem rdB_b {s : Int} (h : rdB s = 1) : 0 ≤ s ∧ s ≤ 126 := by
  unfold rdB j_b at h
  by_cases t1 : s = 10
  · omega
  · by_cases t2 : 32 ≤ s ∧ s ≤ 126
    · omega
    · have t3 : (decide (s = 10) || (decide (32 ≤ s) && decide (s ≤ 126))) = false := by
        rw [decide_eq_false t1, Bool.false_or, Bool.and_eq_false_iff, decide_eq_false_iff_not, decide_eq_false_iff_not]
        omega
      rw [t3] at h
      cases h
theorem byC_id {s : Int} (h : rdB s = 1) : byC s = s := by
  obtain ⟨a, b⟩ := rdB_b h
  have k := List.all_eq_true.mp byC_ok s.toNat (List.mem_range.mpr (by omega))
  have e : ((s.toNat : Nat) : Int) = s := by omega
  have k2 := of_decide_eq_true k
  rw [e] at k2
  exact k2
theorem upA_B {h : XH} {o sr : Nat} {m s : Int} (h1 : m < 1000) (hne : sr ≠ o) : upA h o sr m s sr = upB (h sr) m s := by
  unfold upA upB
  rcases rdB_01 s with e | e
  · rw [e]
    rfl
  · rw [if_pos e, if_pos ⟨e, h1⟩, byC_id e]
    funext k
    rw [up_ne (fun z => hne z.1)]
    by_cases y : k = m.toNat
    · rw [if_pos y, y, up_eq]
    · rw [if_neg y, up_ne (fun z => y z.2)]
theorem upM_B {h : XH} {o sr : Nat} {m s : Int} (h1 : m < 1000) (hne : sr ≠ o) : upM h o sr m s sr = upB (h sr) m s := by
  unfold upM upB
  rcases rdB_01 s with e | e
  · rw [e]
    rfl
  · rw [if_pos e, if_pos ⟨e, h1⟩]
    funext k
    rw [up_ne (fun z => hne z.1)]
    by_cases y : k = m.toNat
    · rw [if_pos y, y, up_eq]
    · rw [if_neg y, up_ne (fun z => y z.2)]
theorem upB_ge {X : Nat → Int} {m s : Int} (h1 : ¬ m < 1000) : upB X m s = X := if_neg (fun z => h1 z.2)
theorem lqA2 {v o w sr : Int} {g : XS × Nat × Nat} (hr : j_rf g.1 o.toNat 0 = some sr) (hl : j_len g.1 sr.toNat = 1000) (hne : sr.toNat ≠ o.toNat) : ∀ (j fuel : Nat) (s4 s5 m : Int) (h : XH), j ≤ 8 → j + 1 ≤ fuel → h o.toNat 1 = m → 0 ≤ m ∧ m ≤ 1000 →
    ∃ en hh, s_loop (evE xs L ck F cW fdC) (evS xs L ck F K cW fdB) (evS xs L ck F K cW fdP) fuel [o, v, w, 8 * (j : Int) - 8, s4, s5] (g, h) = some (0, [], en, (g, hh)) ∧ hh o.toNat 1 = fcl v j m ∧ hh sr.toNat = fcB v j m (h sr.toNat)
  | 0, fuel, s4, s5, m, h, _, hf, hm, _ => by
    obtain ⟨f, rfl⟩ : ∃ f, fuel = f + 1 := ⟨fuel - 1, by omega⟩
    refine ⟨[o, v, w, 8 * ((0 : Nat) : Int) - 8, s4, s5], h, ?_, hm, rfl⟩
    unfold s_loop
    rw [fdC_ev, Option.bind_some]
    exact if_pos rfl
  | j + 1, fuel, s4, s5, m, h, hj, hf, hm, h0 => by
    obtain ⟨f, rfl⟩ : ∃ f, fuel = f + 1 := ⟨fuel - 1, by omega⟩
    have ek : 8 * ((j + 1 : Nat) : Int) - 8 = 8 * (j : Int) := by omega
    rw [ek]
    obtain ⟨h', hb, hu, hP⟩ : ∃ h', evS xs L ck F K cW fdB [o, v, w, 8 * (j : Int), s4, s5] (g, h) = some (0, [], [o, v, w, 8 * (j : Int), sgC v (8 * (j : Int)), rdB (sgC v (8 * (j : Int)))], (g, h')) ∧ h' o.toNat 1 = clG m (sgC v (8 * (j : Int))) ∧ h' sr.toNat = upB (h sr.toNat) m (sgC v (8 * (j : Int))) := by
      by_cases h1 : m < 1000
      · refine ⟨_, itA (xs := xs) (L := L) (ck := ck) (F := F) (K := K) (cW := cW) (v := v) (w := w) (k := 8 * (j : Int)) (s4 := s4) (s5 := s5) (st := (g, h)) hr hl hm h0.1 h1 hne, ?_, upA_B h1 hne⟩
        rw [clG_lt h1]
        exact (upA_m h0.1 h1 hm).1
      · refine ⟨h, itA1 (st := (g, h)) hr hl hm h0.1 h1, ?_, (upB_ge h1).symm⟩
        rw [clG_ge h1]
        exact hm
    obtain ⟨en, hh, e1, e2, e3⟩ := lqA2 hr hl hne j f (sgC v (8 * (j : Int))) (rdB (sgC v (8 * (j : Int)))) _ h' (by omega) (by omega) hu (clG_in h0)
    refine ⟨en, hh, ?_, e2, ?_⟩
    · unfold s_loop
      rw [fdC_ev, Option.bind_some]
      dsimp only
      rw [decide_eq_true (show 8 * (j : Int) ≥ 0 by omega)]
      refine (if_neg (by decide)).trans ?_
      rw [hb, Option.bind_some]
      refine (if_pos (Or.inl rfl)).trans ?_
      dsimp only
      rw [fdP_ev, Option.bind_some]
      refine (if_pos rfl).trans ?_
      dsimp only
      rw [j32_8 (by omega)]
      exact e1
    · rw [e3, hP]
      rfl
theorem lqM2 {v o w sr : Int} {g : XS × Nat × Nat} (hr : j_rf g.1 o.toNat 1 = some sr) (hl : j_len g.1 sr.toNat = 1000) (hne : sr.toNat ≠ o.toNat) : ∀ (j fuel : Nat) (s4 m : Int) (h : XH), j ≤ 8 → j + 1 ≤ fuel → h o.toNat 2 = m → 0 ≤ m ∧ m ≤ 1000 →
    ∃ en hh, s_loop (evE xs L ck F cW fdC) (evS xs L ck F K cW fmB) (evS xs L ck F K cW fdP) fuel [o, v, w, 8 * (j : Int) - 8, s4] (g, h) = some (0, [], en, (g, hh)) ∧ hh o.toNat 2 = fcl v j m ∧ hh sr.toNat = fcB v j m (h sr.toNat)
  | 0, fuel, s4, m, h, _, hf, hm, _ => by
    obtain ⟨f, rfl⟩ : ∃ f, fuel = f + 1 := ⟨fuel - 1, by omega⟩
    refine ⟨[o, v, w, 8 * ((0 : Nat) : Int) - 8, s4], h, ?_, hm, rfl⟩
    unfold s_loop
    rw [fdC_ev, Option.bind_some]
    exact if_pos rfl
  | j + 1, fuel, s4, m, h, hj, hf, hm, h0 => by
    obtain ⟨f, rfl⟩ : ∃ f, fuel = f + 1 := ⟨fuel - 1, by omega⟩
    have ek : 8 * ((j + 1 : Nat) : Int) - 8 = 8 * (j : Int) := by omega
    rw [ek]
    obtain ⟨h', hb, hu, hP⟩ : ∃ h', evS xs L ck F K cW fmB [o, v, w, 8 * (j : Int), s4] (g, h) = some (0, [], [o, v, w, 8 * (j : Int), sgM v (8 * (j : Int))], (g, h')) ∧ h' o.toNat 2 = clG m (sgC v (8 * (j : Int))) ∧ h' sr.toNat = upB (h sr.toNat) m (sgC v (8 * (j : Int))) := by
      rw [sg_all v j (by omega)]
      by_cases h1 : m < 1000
      · refine ⟨_, itM (xs := xs) (L := L) (ck := ck) (F := F) (K := K) (cW := cW) (v := v) (w := w) (k := 8 * (j : Int)) (s4 := s4) (st := (g, h)) hr hl hm h0.1 h1 hne, ?_, upM_B h1 hne⟩
        rw [clG_lt h1]
        exact (upM_m h0.1 h1 hm).1
      · refine ⟨h, itM1 (st := (g, h)) hm h1, ?_, (upB_ge h1).symm⟩
        rw [clG_ge h1]
        exact hm
    obtain ⟨en, hh, e1, e2, e3⟩ := lqM2 hr hl hne j f (sgM v (8 * (j : Int))) _ h' (by omega) (by omega) hu (clG_in h0)
    refine ⟨en, hh, ?_, e2, ?_⟩
    · unfold s_loop
      rw [fdC_ev, Option.bind_some]
      dsimp only
      rw [decide_eq_true (show 8 * (j : Int) ≥ 0 by omega)]
      refine (if_neg (by decide)).trans ?_
      rw [hb, Option.bind_some]
      refine (if_pos (Or.inl rfl)).trans ?_
      dsimp only
      rw [fdP_ev, Option.bind_some]
      refine (if_pos rfl).trans ?_
      dsimp only
      rw [j32_8 (by omega)]
      exact e1
    · rw [e3, hP]
      rfl
theorem aqA2 {n : Nat} (hK : 9 ≤ K) {o v sr m : Int} {g : XS × Nat × Nat} {h : XH} (hr : j_rf g.1 o.toNat 0 = some sr) (hl : j_len g.1 sr.toNat = 1000) (hne : sr.toNat ≠ o.toNat) (hm : h o.toNat 1 = m) (h0 : 0 ≤ m ∧ m ≤ 1000) :
    ∃ hh, evF xs L ck K cW g_M (n + 1) 62 [o, v] (g, h) = some (1, [], (g, hh)) ∧ hh o.toNat 1 = fcl v 8 m ∧ hh sr.toNat = fcB v 8 m (h sr.toNat) := by
  obtain ⟨en, hh, e1, e2, e3⟩ := lqA2 (xs := xs) (L := L) (K := K) (ck := ck) (cW := cW) (F := evF xs L ck K cW g_M n) (v := v) (w := 0) hr hl hne 8 K 0 0 m h (by omega) hK hm h0
  refine ⟨hh, ?_, e2, e3⟩
  rw [evF_s, gm_a]
  have k1 : evS xs L ck (evF xs L ck K cW g_M n) K cW bb_62 [o, v, 0, 0, 0, 0] (g, h) = some (1, [], en, (g, hh)) := by
    rw [fd_a, es_2, es_17, es_20, es_2, es_3, es_12, ee_1]
    unfold s_seq
    dsimp only
    simp only [Option.bind_some, if_true]
    have e4 : [o, v, 0, 0, 0, 0].set (sx_n (sv 3)) (j_hd [if sx_n z0 = 0 then (sx_n (sv 56) : Int) else -(sx_n (sv 56) : Int)]) = [o, v, 0, 8 * ((8 : Nat) : Int) - 8, 0, 0] := rfl
    rw [e4, e1]
    rfl
  show (evS xs L ck (evF xs L ck K cW g_M n) K cW bb_62 [o, v, 0, 0, 0, 0] (g, h)).bind _ = _
  rw [k1, Option.bind_some]
  exact if_pos chk_self
theorem aqM2 {n : Nat} (hK : 9 ≤ K) {o v sr m : Int} {g : XS × Nat × Nat} {h : XH} (hr : j_rf g.1 o.toNat 1 = some sr) (hl : j_len g.1 sr.toNat = 1000) (hne : sr.toNat ≠ o.toNat) (hm : h o.toNat 2 = m) (h0 : 0 ≤ m ∧ m ≤ 1000) :
    ∃ hh, evF xs L ck K cW g_M (n + 1) 184 [o, v] (g, h) = some (1, [], (g, hh)) ∧ hh o.toNat 2 = fcl v 8 m ∧ hh sr.toNat = fcB v 8 m (h sr.toNat) := by
  obtain ⟨en, hh, e1, e2, e3⟩ := lqM2 (xs := xs) (L := L) (K := K) (ck := ck) (cW := cW) (F := evF xs L ck K cW g_M n) (v := v) (w := 0) hr hl hne 8 K 0 m h (by omega) hK hm h0
  refine ⟨hh, ?_, e2, e3⟩
  rw [evF_s, gm_m]
  have k1 : evS xs L ck (evF xs L ck K cW g_M n) K cW bb_184 [o, v, 0, 0, 0] (g, h) = some (1, [], en, (g, hh)) := by
    rw [fd_m, es_2, es_17, es_20, es_2, es_3, es_12, ee_1]
    unfold s_seq
    dsimp only
    simp only [Option.bind_some, if_true]
    have e4 : [o, v, 0, 0, 0].set (sx_n (sv 3)) (j_hd [if sx_n z0 = 0 then (sx_n (sv 56) : Int) else -(sx_n (sv 56) : Int)]) = [o, v, 0, 8 * ((8 : Nat) : Int) - 8, 0] := rfl
    rw [e4, e1]
    rfl
  show (evS xs L ck (evF xs L ck K cW g_M n) K cW bb_184 [o, v, 0, 0, 0] (g, h)).bind _ = _
  rw [k1, Option.bind_some]
  exact if_pos chk_self
/-- what lies in the tape after a feed -/
def fcT (m a b c : Int) (X : Nat → Int) : Nat → Int := fcB c 8 (fcl b 8 (fcl a 8 m)) (fcB b 8 (fcl a 8 m) (fcB a 8 m X))
theorem fqA2 {n : Nat} (hK : 9 ≤ K) {x rr o sr m a b c : Int} {g : XS × Nat × Nat} {h : XH} (hx1 : j_rf g.1 x.toNat 0 = some rr) (hx2 : j_rf g.1 rr.toNat 0 = some o) (hr : j_rf g.1 o.toNat 0 = some sr) (hl : j_len g.1 sr.toNat = 1000) (hne : sr.toNat ≠ o.toNat) (hm : h o.toNat 1 = m) (h0 : 0 ≤ m ∧ m ≤ 1000) :
    ∃ hh, evF xs L ck K cW g_M (n + 2) 1 [x, a, b, c] (g, h) = some (1, [fclT m a b c], (g, hh)) ∧ hh sr.toNat = fcT m a b c (h sr.toNat) := by
  obtain ⟨h2, e1, m1, f1⟩ := aqA2 (xs := xs) (L := L) (ck := ck) (cW := cW) (n := n) (v := a) hK hr hl hne hm h0
  obtain ⟨h3, e2, m2, f2⟩ := aqA2 (xs := xs) (L := L) (ck := ck) (cW := cW) (n := n) (v := b) hK hr hl hne m1 (fcl_in 8 h0)
  obtain ⟨h4, e3, m3, f3⟩ := aqA2 (xs := xs) (L := L) (ck := ck) (cW := cW) (n := n) (v := c) hK hr hl hne m2 (fcl_in 8 (fcl_in 8 h0))
  have m4 : h4 o.toNat 1 = fclT m a b c := m3
  refine ⟨h4, ?_, ?_⟩
  · rw [evF_s, gm_f]
    have k1 : evS xs L ck (evF xs L ck K cW g_M (n + 1)) K cW bb_1 [x, a, 0, b, 0, c, 0] (g, h) = some (1, [fclT m a b c], [x, a, 0, b, 0, c, 0], (g, h4)) := by
      generalize evF xs L ck K cW g_M (n + 1) = F at e1 e2 e3 ⊢
      unfold bb_1
      simp only [es_2, es_9, es_16, ee_32, ee_30, ee_31, ee_5, ee_4, ee_3, s_seq, n_call, Option.bind_some, j_hd, List.headD_cons, n_sv, n_z0, List.getD_cons_zero, List.getD_cons_succ, hx1, hx2, List.cons_append, List.nil_append, e1, e2, e3, if_true, m4]
    show (evS xs L ck (evF xs L ck K cW g_M (n + 1)) K cW bb_1 [x, a, 0, b, 0, c, 0] (g, h)).bind _ = _
    rw [k1, Option.bind_some]
    exact if_pos chk_self
  · rw [f3, f2, f1]
    rfl
theorem fqM2 {n : Nat} (hK : 9 ≤ K) {o sr m a b c : Int} {g : XS × Nat × Nat} {h : XH} (hr : j_rf g.1 o.toNat 1 = some sr) (hl : j_len g.1 sr.toNat = 1000) (hne : sr.toNat ≠ o.toNat) (hm : h o.toNat 2 = m) (h0 : 0 ≤ m ∧ m ≤ 1000) :
    ∃ hh, evF xs L ck K cW g_M (n + 2) 183 [o, a, b, c] (g, h) = some (1, [fclT m a b c], (g, hh)) ∧ hh sr.toNat = fcT m a b c (h sr.toNat) := by
  have hm0 : j_up h o.toNat 0 ((0 : Nat) : Int) o.toNat 2 = m := by rw [up_ne (fun z => absurd z.2 (by decide)), hm]
  obtain ⟨h2, e1, m1, f1⟩ := aqM2 (xs := xs) (L := L) (ck := ck) (cW := cW) (n := n) (v := a) hK hr hl hne hm0 h0
  obtain ⟨h3, e2, m2, f2⟩ := aqM2 (xs := xs) (L := L) (ck := ck) (cW := cW) (n := n) (v := b) hK hr hl hne m1 (fcl_in 8 h0)
  obtain ⟨h4, e3, m3, f3⟩ := aqM2 (xs := xs) (L := L) (ck := ck) (cW := cW) (n := n) (v := c) hK hr hl hne m2 (fcl_in 8 (fcl_in 8 h0))
  have m4 : h4 o.toNat 2 = fclT m a b c := m3
  refine ⟨h4, ?_, ?_⟩
  · rw [evF_s, gm_g]
    have k1 : evS xs L ck (evF xs L ck K cW g_M (n + 1)) K cW bb_183 [o, a, 0, b, 0, c, 0] (g, h) = some (1, [fclT m a b c], [o, a, 0, b, 0, c, 0], (g, h4)) := by
      generalize evF xs L ck K cW g_M (n + 1) = F at e1 e2 e3 ⊢
      unfold bb_183
      simp only [es_2, es_5, es_9, es_16, s_putf, ee_32, ee_30, ee_31, ee_5, ee_4, ee_3, ee_1, s_seq, n_call, Option.bind_some, j_hd, List.headD_cons, n_sv, n_z0, List.getD_cons_zero, List.getD_cons_succ, List.cons_append, List.nil_append, if_true, e1, e2, e3, m4]
    show (evS xs L ck (evF xs L ck K cW g_M (n + 1)) K cW bb_183 [o, a, 0, b, 0, c, 0] (g, h)).bind _ = _
    rw [k1, Option.bind_some]
    exact if_pos chk_self
  · have e0 : j_up h o.toNat 0 ((0 : Nat) : Int) sr.toNat = h sr.toNat := funext fun k => up_ne (fun z => hne z.1)
    rw [f3, f2, f1, e0]
    rfl
/-- what is below the length is the same in both, and readable -/
def SmB (m : Int) (X Y : Nat → Int) : Prop := ∀ k : Nat, (k : Int) < m → X k = Y k ∧ 0 ≤ X k ∧ X k ≤ 127
theorem upB_sm {m s : Int} {X Y : Nat → Int} (h0 : 0 ≤ m) (h : SmB m X Y) : SmB (clG m s) (upB X m s) (upB Y m s) := by
  intro k hk
  unfold clG at hk
  unfold upB
  by_cases y : rdB s = 1 ∧ m < 1000
  · rw [if_pos y] at hk ⊢
    rw [if_pos y]
    by_cases z : k = m.toNat
    · rw [if_pos z, if_pos z]
      have := rdB_b y.1
      omega
    · rw [if_neg z, if_neg z]
      exact h k (by omega)
  · rw [if_neg y] at hk ⊢
    rw [if_neg y]
    exact h k hk
theorem fcB_sm {v : Int} : ∀ (j : Nat) {m : Int} {X Y : Nat → Int}, 0 ≤ m ∧ m ≤ 1000 → SmB m X Y → SmB (fcl v j m) (fcB v j m X) (fcB v j m Y)
  | 0, _, _, _, _, h => h
  | j + 1, _, _, _, h0, h => fcB_sm j (clG_in h0) (upB_sm h0.1 h)
theorem fcT_sm {m a b c : Int} {X Y : Nat → Int} (h0 : 0 ≤ m ∧ m ≤ 1000) (h : SmB m X Y) : SmB (fclT m a b c) (fcT m a b c X) (fcT m a b c Y) := fcB_sm 8 (fcl_in 8 (fcl_in 8 h0)) (fcB_sm 8 (fcl_in 8 h0) (fcB_sm 8 h0 h))
end TAPE2
end
section
/-! ===== a fourth reading_w: intervals, for_w the reference_w; what a number_w is_w known_w to be ===== -/
/-- tag_w, low_w, high_w: tag_w 1 an int within_w, 2 a long within_w, 3 a block's base (429 j, j below_w 12) and a number_w within_w, 4 the number_w low_w itself_w, 5 a told_w meter, 6 a told_w class, 7 how many_w meters are told_w, 8 how many_w classes; else nothing_w -/
abbrev IT : Type := Nat × Int × Int
def IV (P : Int × Int) : IT → Int → Prop
  | (1, l, h), v => l ≤ v ∧ v ≤ h ∧ InI v
  | (2, l, h), v => l ≤ v ∧ v ≤ h ∧ InL v
  | (3, l, h), v => InI v ∧ ∃ j : Nat, j < 12 ∧ 429 * (j : Int) + l ≤ v ∧ v ≤ 429 * (j : Int) + h
  | (4, l, _), v => v = l
  | (5, _, _), v => 0 ≤ v ∧ v < P.1 ∧ P.1 ≤ 6
  | (6, _, _), v => 0 ≤ v ∧ v < P.2 ∧ P.2 ≤ 4
  | (7, _, _), v => v = P.1 ∧ 0 ≤ v ∧ v ≤ 6
  | (8, _, _), v => v = P.2 ∧ 0 ≤ v ∧ v ≤ 4
  | _, _ => True
def iT : IT := (1, -2147483648, 2147483647)
def iL : IT := (2, -9223372036854775808, 9223372036854775807)
/-- as_w an int within_w -/
def i_wd : IT → IT
  | (5, _, _) => (1, 0, 5)
  | (6, _, _) => (1, 0, 3)
  | (7, _, _) => (1, 0, 6)
  | (8, _, _) => (1, 0, 4)
  | t => t
section IVS
variable {P : Int × Int} {v w : Int} {a b t u : IT}
theorem IV.top (h : InI v) : IV P iT v := ⟨h.1, by have := h.2; omega, h⟩
theorem IV.topL (h : InL v) : IV P iL v := ⟨h.1, by have := h.2; omega, h⟩
theorem IV.wd : ∀ {t : IT}, IV P t v → IV P (i_wd t) v
  | (0, _, _), h => h
  | (1, _, _), h => h
  | (2, _, _), h => h
  | (3, _, _), h => h
  | (4, _, _), h => h
  | (5, _, _), h => ⟨h.1, by have := h.2; omega, by have := h.1; omega, by have := h.2; omega⟩
  | (6, _, _), h => ⟨h.1, by have := h.2; omega, by have := h.1; omega, by have := h.2; omega⟩
  | (7, _, _), h => ⟨h.2.1, h.2.2, by have := h.2; omega, by have := h.2; omega⟩
  | (8, _, _), h => ⟨h.2.1, h.2.2, by have := h.2; omega, by have := h.2; omega⟩
  | (_ + 9, _, _), h => h
def i_sub1 (a b : IT) : Bool := a.1 == b.1 && (Nat.ble 5 a.1 || (a.1 == 4 && decide (a.2.1 = b.2.1)) || (a.1 != 4 && decide (b.2.1 ≤ a.2.1) && decide (a.2.2 ≤ b.2.2)))
theorem IV.sub1 (h : i_sub1 a b = true) (hv : IV P a v) : IV P b v := by
  obtain ⟨ta, la, ha_w⟩ := a
  obtain ⟨tb, lb, hb_w⟩ := b
  simp only [i_sub1, Bool.or_eq_true, Bool.and_eq_true, beq_iff_eq, bne_iff_ne, decide_eq_true_eq, Nat.ble_eq] at h
  obtain ⟨rfl, h⟩ := h
  match ta, h, hv with
  | 0, _, _ => trivial
  | 1, h, hv =>
    have h1 : lb ≤ la ∧ ha_w ≤ hb_w := by omega
    obtain ⟨k1_w, k2, k3⟩ := hv
    exact ⟨by omega, by omega, k3⟩
  | 2, h, hv =>
    have h1 : lb ≤ la ∧ ha_w ≤ hb_w := by omega
    obtain ⟨k1_w, k2, k3⟩ := hv
    exact ⟨by omega, by omega, k3⟩
  | 3, h, hv =>
    have h1 : lb ≤ la ∧ ha_w ≤ hb_w := by omega
    obtain ⟨k1_w, j, k2, k3, k4⟩ := hv
    exact ⟨k1_w, j, k2, by omega, by omega⟩
  | 4, h, hv =>
    have h1 : la = lb := by omega
    exact Eq.trans hv h1
  | 5, _, hv => exact hv
  | 6, _, hv => exact hv
  | 7, _, hv => exact hv
  | 8, _, hv => exact hv
  | _ + 9, _, _ => trivial
/-- a block's base, told_w as_w a number_w -/
def i_base (a b : IT) : Bool := b.1 == 3 && a.1 == 1 && decide (a.2.1 = a.2.2) && decide (0 ≤ a.2.1) && decide (a.2.1 < 5148) && decide (a.2.1 % 429 = 0) && decide (b.2.1 ≤ 0) && decide (0 ≤ b.2.2)
theorem IV.base (h : i_base a b = true) (hv : IV P a v) : IV P b v := by
  obtain ⟨ta, la, ha_w⟩ := a
  obtain ⟨tb, lb, hb_w⟩ := b
  simp only [i_base, Bool.and_eq_true, beq_iff_eq, decide_eq_true_eq] at h
  obtain ⟨⟨⟨⟨⟨⟨⟨rfl, rfl⟩, rfl⟩, h1⟩, h2⟩, h3⟩, h4⟩, h5⟩ := h
  obtain ⟨k1_w, k2, k3⟩ := hv
  exact ⟨k3, (la / 429).toNat, by omega, by omega, by omega⟩
def i_sub (a b : IT) : Bool := b.1 == 0 || i_sub1 a b || i_sub1 (i_wd a) b || i_base a b
theorem IV.z {l h : Int} : IV P (0, l, h) v := trivial
theorem IV.sub (h : i_sub a b = true) (hv : IV P a v) : IV P b v := by
  simp only [i_sub, Bool.or_eq_true, beq_iff_eq] at h
  rcases h with ((h | h) | h) | h
  · obtain ⟨tb, lb, hb_w⟩ := b
    dsimp only at h
    subst h
    exact IV.z
  · exact IV.sub1 h hv
  · exact IV.sub1 h hv.wd
  · exact IV.base h hv
/-- one that holds_w both_w -/
def i_lub0 (a b : IT) : IT := bif (a.1 == b.1) && (a.1 == 1 || a.1 == 2 || a.1 == 3) then (a.1, min a.2.1 b.2.1, max a.2.2 b.2.2) else (0, 0, 0)
def i_lub (a b : IT) : IT := bif i_sub a b then b else bif i_sub b a then a else i_lub0 (i_wd a) (i_wd b)
theorem lub0_l (hv : IV P a v) : IV P (i_lub0 a b) v := by
  unfold i_lub0
  cases h3 : (a.1 == b.1) && (a.1 == 1 || a.1 == 2 || a.1 == 3) with
  | false => exact IV.z
  | true =>
    obtain ⟨ta, la, ha_w⟩ := a
    obtain ⟨tb, lb, hb_w⟩ := b
    simp only [Bool.and_eq_true, Bool.or_eq_true, beq_iff_eq] at h3
    refine IV.sub1 ?_ hv
    have h4 : ta ≠ 4 := by omega
    simp [cond, i_sub1, h4, Int.min_le_left, Int.le_max_left]
theorem lub0_r (hv : IV P b v) : IV P (i_lub0 a b) v := by
  unfold i_lub0
  cases h3 : (a.1 == b.1) && (a.1 == 1 || a.1 == 2 || a.1 == 3) with
  | false => exact IV.z
  | true =>
    obtain ⟨ta, la, ha_w⟩ := a
    obtain ⟨tb, lb, hb_w⟩ := b
    simp only [Bool.and_eq_true, Bool.or_eq_true, beq_iff_eq] at h3
    refine IV.sub1 ?_ hv
    obtain ⟨rfl, h3⟩ := h3
    have h4 : ta ≠ 4 := by omega
    simp [cond, i_sub1, h4, Int.min_le_right, Int.le_max_right]
theorem ilub_l (hv : IV P a v) : IV P (i_lub a b) v := by
  unfold i_lub
  cases h : i_sub a b with
  | true => exact IV.sub h hv
  | false =>
    cases h2 : i_sub b a with
    | true => exact hv
    | false => exact lub0_l hv.wd
theorem ilub_r (hv : IV P b v) : IV P (i_lub a b) v := by
  unfold i_lub
  cases h : i_sub a b with
  | true => exact hv
  | false =>
    cases h2 : i_sub b a with
    | true => exact IV.sub h2 hv
    | false => exact lub0_r hv.wd
/-- a wider_w one: a bound_w that moved is_w given up -/
def i_wid (a b : IT) : IT := bif i_sub b a then a else bif (i_wd a).1 == 1 && (i_wd b).1 == 1 then (1, (if (i_wd a).2.1 ≤ (i_wd b).2.1 then (i_wd a).2.1 else -2147483648), (if (i_wd b).2.2 ≤ (i_wd a).2.2 then (i_wd a).2.2 else 2147483647)) else (0, 0, 0)
theorem wid_l (hv : IV P a v) : IV P (i_wid a b) v := by
  unfold i_wid
  cases h : i_sub b a with
  | true => exact hv
  | false =>
    cases h2 : (i_wd a).1 == 1 && (i_wd b).1 == 1 with
    | false => exact IV.z
    | true =>
      have h3 := hv.wd
      generalize i_wd a = a' at h2 h3 ⊢
      obtain ⟨ta, la, ha_w⟩ := a'
      simp only [Bool.and_eq_true, beq_iff_eq] at h2
      obtain ⟨rfl, -⟩ := h2
      obtain ⟨k1_w, k2, k3⟩ := h3
      have k4 := k3
      unfold InI at k4
      refine ⟨?_, ?_, k3⟩
      · dsimp only
        split <;> omega
      · dsimp only
        split <;> omega
/-- an int that was worked out, if it stays_w an int -/
def i_clip (l h : Int) : IT := if -2147483648 ≤ l ∧ h < 2147483648 then (1, l, h) else iT
theorem i_j32 {l h : Int} (a : l ≤ v) (b : v ≤ h) : IV P (i_clip l h) (j32 v) := by
  unfold i_clip
  split
  · rename_i k
    have hv : InI v := ⟨Int.le_trans k.1 a, by omega⟩
    rw [j32_in hv]
    exact ⟨a, b, hv⟩
  · exact IV.top (in_j32 _)
/-- an int within_w, as_w it is_w -/
def i_is (t : IT) : Bool := (i_wd t).1 == 1
theorem IV.int (h : i_is t = true) (hv : IV P t v) : (i_wd t).2.1 ≤ v ∧ v ≤ (i_wd t).2.2 ∧ InI v := by
  have h3 := hv.wd
  unfold i_is at h
  generalize i_wd t = a' at h h3 ⊢
  obtain ⟨ta, la, ha_w⟩ := a'
  rw [beq_iff_eq] at h
  dsimp only at h
  subst h
  exact h3
/-- int operations -/
def i_op (op_w : Nat) (a b : IT) : IT :=
  let a' := i_wd a
  let b' := i_wd b
  bif a'.1 == 1 && b'.1 == 1 then (match op_w with
    | 0 => i_clip (a'.2.1 + b'.2.1) (a'.2.2 + b'.2.2)
    | 1 => i_clip (a'.2.1 - b'.2.2) (a'.2.2 - b'.2.1)
    | 2 => if a'.2.1 = a'.2.2 ∧ 0 ≤ a'.2.1 then i_clip (a'.2.1 * b'.2.1) (a'.2.1 * b'.2.2) else iT
    | _ => iT)
  else bif a'.1 == 3 && b'.1 == 1 && op_w == 0 then (if -100000 ≤ a'.2.1 + b'.2.1 ∧ a'.2.2 + b'.2.2 ≤ 100000 then (3, a'.2.1 + b'.2.1, a'.2.2 + b'.2.2) else iT)
  else iT
theorem i_op_ok {op_w : Nat} (ha_w : IV P a v) (hb_w : IV P b w) : IV P (i_op op_w a b) (j_iop op_w v w) := by
  have ha2 := ha_w.wd
  have hb2 := hb_w.wd
  unfold i_op
  dsimp only
  generalize i_wd a = a' at ha2 ⊢
  generalize i_wd b = b' at hb2 ⊢
  obtain ⟨ta, la, xa⟩ := a'
  obtain ⟨tb, lb, xb⟩ := b'
  dsimp only
  have top : IV P iT (j_iop op_w v w) := IV.top (iop_in _ _ _)
  cases h1 : ta == 1 && tb == 1 with
  | true =>
    simp only [Bool.and_eq_true, beq_iff_eq] at h1
    obtain ⟨rfl, rfl⟩ := h1
    obtain ⟨a1_w, a2, a3⟩ := ha2
    obtain ⟨b1, b2, b3⟩ := hb2
    simp only [cond_true]
    split
    · exact i_j32 (by omega) (by omega)
    · exact i_j32 (by omega) (by omega)
    · split
      · rename_i k
        have e : v = la := by omega
        subst e
        exact i_j32 (Int.mul_le_mul_of_nonneg_left b1 k.2) (Int.mul_le_mul_of_nonneg_left b2 k.2)
      · exact IV.top (iop_in _ _ _)
    · exact top
  | false =>
    cases h2 : ta == 3 && tb == 1 && op_w == 0 with
    | false => exact top
    | true =>
      simp only [Bool.and_eq_true, beq_iff_eq] at h2
      obtain ⟨⟨rfl, rfl⟩, rfl⟩ := h2
      show IV P (if -100000 ≤ la + lb ∧ xa + xb ≤ 100000 then (3, la + lb, xa + xb) else iT) _
      split
      · rename_i k
        obtain ⟨-, j, aj, a1_w, a2⟩ := ha2
        obtain ⟨b1, b2, -⟩ := hb2
        have hv : InI (v + w) := ⟨by omega, by omega⟩
        show IV P _ (j32 (v + w))
        rw [j32_in hv]
        exact ⟨hv, j, aj, by omega, by omega⟩
      · exact top
def i_neg (a : IT) : IT := bif (i_wd a).1 == 1 then i_clip (-(i_wd a).2.2) (-(i_wd a).2.1) else iT
theorem i_neg_ok (ha_w : IV P a v) : IV P (i_neg a) (j_un 0 v) := by
  unfold i_neg
  cases h : (i_wd a).1 == 1 with
  | true =>
    obtain ⟨a1_w, a2, -⟩ := IV.int h ha_w
    exact i_j32 (by omega) (by omega)
  | false => exact IV.top (in_j32 _)
/-- division: none where the divisor may_w be 0 -/
def i_div (op_w : Nat) (a b : IT) : Option IT :=
  let a' := i_wd a
  let b' := i_wd b
  if b'.2.1 ≤ 0 ∧ 0 ≤ b'.2.2 then none
  else bif Nat.blt op_w 2 then (bif a'.1 == 1 && b'.1 == 1 then (if 0 ≤ a'.2.1 ∧ 0 < b'.2.1 then some (1, 0, if op_w = 0 then a'.2.2 else min a'.2.2 (b'.2.2 - 1)) else some iT) else none)
  else bif a'.1 == 2 && b'.1 == 2 then (if op_w = 3 ∧ 0 ≤ a'.2.1 ∧ 0 < b'.2.1 then some (2, 0, b'.2.2 - 1) else some iL) else none
theorem emod_bd {v w : Int} (hv : 0 ≤ v) (hw : 0 < w) : v.tmod w = v % w ∧ 0 ≤ v % w ∧ v % w < w ∧ v % w ≤ v := by
  have e : v.tmod w = v % w := Int.tmod_eq_emod_of_nonneg hv
  have e1_w : 0 ≤ v % w := Int.emod_nonneg _ (by omega)
  have e2_w : v % w < w := Int.emod_lt_of_pos _ hw
  refine ⟨e, e1_w, e2_w, ?_⟩
  have k1_w := Int.natAbs_tmod v w
  have k2 := Nat.mod_le v.natAbs w.natAbs
  rw [e] at k1_w
  omega
theorem ediv_bd {v w : Int} (hv : 0 ≤ v) (hw : 0 < w) : v.tdiv w = v / w ∧ 0 ≤ v / w ∧ v / w ≤ v := by
  refine ⟨Int.tdiv_eq_ediv_of_nonneg hv, Int.ediv_nonneg hv (by omega), ?_⟩
  exact Int.ediv_le_self _ hv
theorem i_div_ok {op_w : Nat} (h : i_div op_w a b = some t) (ha_w : IV P a v) (hb_w : IV P b w) : w ≠ 0 ∧ IV P t (j_div op_w v w) := by
  have ha2 := ha_w.wd
  have hb2 := hb_w.wd
  unfold i_div at h
  dsimp only at h
  generalize i_wd a = a' at ha2 h
  generalize i_wd b = b' at hb2 h
  obtain ⟨ta, la, xa⟩ := a'
  obtain ⟨tb, lb, xb⟩ := b'
  dsimp only at h
  split at h
  · cases h
  · rename_i h0
    cases h1 : Nat.blt op_w 2 with
    | true =>
      rw [h1] at h
      cases h2 : ta == 1 && tb == 1 with
      | false => rw [h2] at h; cases h
      | true =>
        rw [h2] at h
        simp only [Bool.and_eq_true, beq_iff_eq] at h2
        obtain ⟨rfl, rfl⟩ := h2
        obtain ⟨a1_w, a2, a3⟩ := ha2
        obtain ⟨b1, b2, b3⟩ := hb2
        have hw : w ≠ 0 := by omega
        refine ⟨hw, ?_⟩
        have hop : op_w = 0 ∨ op_w = 1 := by
          rw [Nat.blt_eq] at h1
          omega
        have top : IV P iT (j_div op_w v w) := by
          rcases hop with rfl | rfl
          · exact IV.top (in_j32 _)
          · exact IV.top (tmod_i a3)
        have h' : (if 0 ≤ la ∧ 0 < lb then some ((1, 0, if op_w = 0 then xa else min xa (xb - 1)) : IT) else some iT) = some t := h
        split at h'
        · rename_i k
          cases h'
          have hv0 : 0 ≤ v := by omega
          have hw0 : 0 < w := by omega
          unfold InI at a3
          rcases hop with rfl | rfl
          · obtain ⟨e1_w, e2_w, e3_w⟩ := ediv_bd hv0 hw0
            show IV P (1, 0, xa) (j32 (v.tdiv w))
            rw [e1_w, j32_in ⟨by omega, by omega⟩]
            exact ⟨e2_w, by omega, by omega, by omega⟩
          · obtain ⟨e1_w, e2_w, e3_w, e4_w⟩ := emod_bd hv0 hw0
            show IV P (1, 0, min xa (xb - 1)) (v.tmod w)
            rw [e1_w]
            exact ⟨e2_w, by omega, by omega, by omega⟩
        · cases h'
          exact top
    | false =>
      rw [h1] at h
      cases h2 : ta == 2 && tb == 2 with
      | false => rw [h2] at h; cases h
      | true =>
        rw [h2] at h
        simp only [Bool.and_eq_true, beq_iff_eq] at h2
        obtain ⟨rfl, rfl⟩ := h2
        obtain ⟨a1_w, a2, a3⟩ := ha2
        obtain ⟨b1, b2, b3⟩ := hb2
        have hw : w ≠ 0 := by omega
        refine ⟨hw, ?_⟩
        have hop : 2 ≤ op_w := by
          have h3 : ¬ op_w < 2 := by
            intro h3
            rw [← Nat.blt_eq, h1] at h3
            cases h3
          omega
        have top : IV P iL (j_div op_w v w) := by
          match op_w, hop with
          | 2, _ => exact IV.topL (in_i64 _)
          | n + 3, _ => exact IV.topL (tmod_l a3)
        have h' : (if op_w = 3 ∧ 0 ≤ la ∧ 0 < lb then some ((2, 0, xb - 1) : IT) else some iL) = some t := h
        split at h'
        · rename_i k
          cases h'
          obtain ⟨rfl, k1_w, k2⟩ := k
          obtain ⟨e1_w, e2_w, e3_w, e4_w⟩ := emod_bd (v := v) (w := w) (by omega) (by omega)
          show IV P (2, 0, xb - 1) (v.tmod w)
          rw [e1_w]
          unfold InL at a3
          exact ⟨e2_w, by omega, by omega, by omega⟩
        · cases h'
          exact top
/-- int to long -/
def i_i2l (a : IT) : Option IT := bif (i_wd a).1 == 1 then some (2, (i_wd a).2.1, (i_wd a).2.2) else none
theorem i_i2l_ok (h : i_i2l a = some t) (ha_w : IV P a v) : IV P t v := by
  unfold i_i2l at h
  cases h1 : (i_wd a).1 == 1 with
  | false => rw [h1] at h; cases h
  | true =>
    rw [h1] at h
    cases h
    obtain ⟨a1_w, a2, a3⟩ := IV.int h1 ha_w
    unfold InI at a3
    exact ⟨a1_w, a2, by unfold InL; omega⟩
/-- what a comparison says_w of its left side_w -/
def i_cut (t : IT) (l h : Int) : IT := bif t.1 == 1 then (1, max t.2.1 l, min t.2.2 h) else t
theorem i_cut_ok {l h : Int} (a : IV P t v) (b : l ≤ v) (c : v ≤ h) : IV P (i_cut t l h) v := by
  obtain ⟨tt, lt, ht⟩ := t
  unfold i_cut
  cases k : tt == 1 with
  | false => exact a
  | true =>
    rw [beq_iff_eq] at k
    subst k
    obtain ⟨k1_w, k2, k3⟩ := a
    exact ⟨Int.max_le.mpr ⟨k1_w, b⟩, Int.le_min.mpr ⟨k2, c⟩, k3⟩
def i_ref (op_w : Nat) (t u : IT) : IT :=
  bif t.1 == 1 && op_w == 2 && u.1 == 7 && decide (0 ≤ t.2.1) then (5, 0, 0)
  else bif t.1 == 1 && op_w == 2 && u.1 == 8 && decide (0 ≤ t.2.1) then (6, 0, 0)
  else bif (i_wd u).1 == 1 && t.1 == 1 then (match op_w with
  | 0 => i_cut t (i_wd u).2.1 (i_wd u).2.2
  | 1 => if (i_wd u).2.1 = (i_wd u).2.2 ∧ t.2.1 = (i_wd u).2.1 then i_cut t (t.2.1 + 1) t.2.2 else t
  | 2 => i_cut t t.2.1 ((i_wd u).2.2 - 1)
  | 3 => i_cut t (i_wd u).2.1 t.2.2
  | 4 => i_cut t ((i_wd u).2.1 + 1) t.2.2
  | 5 => i_cut t t.2.1 (i_wd u).2.2
  | _ => t) else t
theorem i_ref_ok {op_w : Nat} (a : IV P t v) (b : IV P u w) (h : j_cmp op_w v w = true) : IV P (i_ref op_w t u) v := by
  unfold i_ref
  cases h1 : t.1 == 1 && op_w == 2 && u.1 == 7 && decide (0 ≤ t.2.1) with
  | true =>
    obtain ⟨tt, lt, ht⟩ := t
    obtain ⟨tu, lu, hu⟩ := u
    simp only [Bool.and_eq_true, beq_iff_eq, decide_eq_true_eq] at h1
    obtain ⟨⟨⟨rfl, rfl⟩, rfl⟩, h1⟩ := h1
    have h2 : v < w := of_decide_eq_true h
    obtain ⟨b1, b2, b3⟩ := b
    have a1_w : lt ≤ v := a.1
    exact ⟨by omega, by omega, by omega⟩
  | false =>
    cases h2 : t.1 == 1 && op_w == 2 && u.1 == 8 && decide (0 ≤ t.2.1) with
    | true =>
      obtain ⟨tt, lt, ht⟩ := t
      obtain ⟨tu, lu, hu⟩ := u
      simp only [Bool.and_eq_true, beq_iff_eq, decide_eq_true_eq] at h2
      obtain ⟨⟨⟨rfl, rfl⟩, rfl⟩, h2⟩ := h2
      have h3 : v < w := of_decide_eq_true h
      obtain ⟨b1, b2, b3⟩ := b
      have a1_w : lt ≤ v := a.1
      exact ⟨by omega, by omega, by omega⟩
    | false =>
      cases h3 : (i_wd u).1 == 1 && t.1 == 1 with
      | false => exact a
      | true =>
        simp only [Bool.and_eq_true, beq_iff_eq] at h3
        obtain ⟨b1, b2, -⟩ := IV.int (t := u) (by unfold i_is; rw [beq_iff_eq]; exact h3.1) b
        have a1_w : t.2.1 ≤ v ∧ v ≤ t.2.2 := by
          obtain ⟨tt, lt, ht⟩ := t
          obtain ⟨-, h4⟩ := h3
          dsimp only at h4
          subst h4
          exact ⟨a.1, a.2.1⟩
        simp only [cond_true, cond_false]
        split
        · have e : v = w := of_decide_eq_true h
          exact i_cut_ok a (by omega) (by omega)
        · have e : v ≠ w := of_decide_eq_true h
          split
          · exact i_cut_ok a (by omega) (by omega)
          · exact a
        · have e : v < w := of_decide_eq_true h
          exact i_cut_ok a a1_w.1 (by omega)
        · have e : v ≥ w := of_decide_eq_true h
          exact i_cut_ok a (by omega) a1_w.2
        · have e : v > w := of_decide_eq_true h
          exact i_cut_ok a (by omega) a1_w.2
        · have e : v ≤ w := of_decide_eq_true h
          exact i_cut_ok a a1_w.1 (by omega)
        · exact a
end IVS
def i_not (op_w : Nat) : Nat := match op_w with
  | 0 => 1
  | 1 => 0
  | 2 => 3
  | 3 => 2
  | 4 => 5
  | 5 => 4
  | _ => 99
theorem i_not_ok {op_w : Nat} {v w : Int} (h : j_cmp op_w v w = false) (ho : op_w < 6) : j_cmp (i_not op_w) v w = true := by
  match op_w, ho with
  | 0, _ => exact decide_eq_true (of_decide_eq_false h)
  | 1, _ => exact decide_eq_true (Decidable.of_not_not (of_decide_eq_false h))
  | 2, _ => exact decide_eq_true (by have := of_decide_eq_false h; omega)
  | 3, _ => exact decide_eq_true (by have := of_decide_eq_false h; omega)
  | 4, _ => exact decide_eq_true (by have := of_decide_eq_false h; omega)
  | 5, _ => exact decide_eq_true (by have := of_decide_eq_false h; omega)
/-- lists_w of numbers_w -/
def IL (P : Int × Int) : List IT → List Int → Prop
  | [], [] => True
  | t :: ts, v :: vs => IV P t v ∧ IL P ts vs
  | _, _ => False
def i_subs : List IT → List IT → Bool
  | [], [] => true
  | a :: x, b :: y => i_sub a b && i_subs x y
  | _, _ => false
def i_zip (f : IT → IT → IT) : List IT → List IT → List IT
  | a :: x, b :: y => f a b :: i_zip f x y
  | _, _ => []
section ILS
variable {P : Int × Int}
theorem IL.len : ∀ {ts : List IT} {vs : List Int}, IL P ts vs → vs.length = ts.length
  | [], [], _ => rfl
  | _ :: _, _ :: _, h => by rw [List.length_cons, List.length_cons, IL.len h.2]
  | [], _ :: _, h => h.elim
  | _ :: _, [], h => h.elim
theorem IL.sub : ∀ {x y : List IT} {vs : List Int}, i_subs x y = true → IL P x vs → IL P y vs
  | [], [], _, _, h => h
  | _ :: _, _ :: _, _ :: _, h, hv => ⟨IV.sub ((Bool.and_eq_true _ _).mp h).1 hv.1, IL.sub ((Bool.and_eq_true _ _).mp h).2 hv.2⟩
  | _ :: _, _ :: _, [], _, hv => hv.elim
  | [], _ :: _, _, h, _ => by cases h
  | _ :: _, [], _, h, _ => by cases h
theorem isubs_len : ∀ {x y : List IT}, i_subs x y = true → x.length = y.length
  | [], [], _ => rfl
  | _ :: _, _ :: _, h => by rw [List.length_cons, List.length_cons, isubs_len ((Bool.and_eq_true _ _).mp h).2]
  | [], _ :: _, h => by cases h
  | _ :: _, [], h => by cases h
theorem zip_l {f : IT → IT → IT} (hf : ∀ a b v, IV P a v → IV P (f a b) v) : ∀ {x y : List IT} {vs : List Int}, x.length = y.length → IL P x vs → IL P (i_zip f x y) vs
  | [], [], [], _, _ => trivial
  | _ :: _, _ :: _, _ :: _, h, hv => ⟨hf _ _ _ hv.1, zip_l hf (by simpa using h) hv.2⟩
  | [], _ :: _, _, h, _ => by simp at h
  | _ :: _, [], _, h, _ => by simp at h
  | [], [], _ :: _, _, hv => hv.elim
  | _ :: _, _ :: _, [], _, hv => hv.elim
theorem zip_r {f : IT → IT → IT} (hf : ∀ a b v, IV P b v → IV P (f a b) v) : ∀ {x y : List IT} {vs : List Int}, x.length = y.length → IL P y vs → IL P (i_zip f x y) vs
  | [], [], [], _, _ => trivial
  | _ :: _, _ :: _, _ :: _, h, hv => ⟨hf _ _ _ hv.1, zip_r hf (by simpa using h) hv.2⟩
  | [], _ :: _, _, h, _ => by simp at h
  | _ :: _, [], _, h, _ => by simp at h
  | [], [], _ :: _, _, hv => hv.elim
  | _ :: _, _ :: _, [], _, hv => hv.elim
theorem IL.at : ∀ {ts : List IT} {vs : List Int} (i : Nat), IL P ts vs → IV P (ts.getD i (0, 0, 0)) (vs.getD i 0)
  | [], [], _, _ => IV.z
  | t :: ts, v :: vs, 0, h => h.1
  | t :: ts, v :: vs, i + 1, h => IL.at (ts := ts) (vs := vs) i h.2
  | [], _ :: _, _, h => h.elim
  | _ :: _, [], _, h => h.elim
theorem IL.set {t : IT} {v : Int} : ∀ {ts : List IT} {vs : List Int} (i : Nat), IL P ts vs → IV P t v → IL P (ts.set i t) (vs.set i v)
  | [], [], _, _, _ => trivial
  | _ :: _, _ :: _, 0, h, ht => ⟨ht, h.2⟩
  | _ :: _, _ :: _, i + 1, h, ht => ⟨h.1, IL.set i h.2 ht⟩
  | [], _ :: _, _, h, _ => h.elim
  | _ :: _, [], _, h, _ => h.elim
/-- what is_w known_w anew_w of a number_w that stays_w -/
theorem IL.put {t : IT} : ∀ {ts : List IT} {vs : List Int} (i : Nat), IL P ts vs → IV P t (vs.getD i 0) → IL P (ts.set i t) vs
  | [], [], _, _, _ => trivial
  | _ :: _, _ :: _, 0, h, ht => ⟨ht, h.2⟩
  | _ :: _, _ :: _, i + 1, h, ht => ⟨h.1, IL.put i h.2 ht⟩
  | [], _ :: _, _, h, _ => h.elim
  | _ :: _, [], _, h, _ => h.elim
theorem IL.app : ∀ {x y : List IT} {v w : List Int}, IL P x v → IL P y w → IL P (x ++ y) (v ++ w)
  | [], _, [], _, _, h => h
  | _ :: _, _, _ :: _, _, h, h2 => ⟨h.1, IL.app h.2 h2⟩
  | [], _, _ :: _, _, h, _ => h.elim
  | _ :: _, _, [], _, h, _ => h.elim
theorem IL.one {t : IT} : ∀ {v : List Int}, IL P [t] v → ∃ x, v = [x] ∧ IV P t x
  | [x], h => ⟨x, rfl, h.1⟩
  | [], h => h.elim
  | _ :: _ :: _, h => h.2.elim
theorem IL.take : ∀ {x : List IT} {v : List Int} (n : Nat), IL P x v → IL P (x.take n) (v.take n)
  | _, _, 0, _ => trivial
  | [], [], _ + 1, _ => trivial
  | _ :: _, _ :: _, n + 1, h => ⟨h.1, IL.take n h.2⟩
  | [], _ :: _, _ + 1, h => h.elim
  | _ :: _, [], _ + 1, h => h.elim
theorem IL.rep : ∀ n, IL P (List.replicate n (0, 0, 0)) (List.replicate n 0)
  | 0 => trivial
  | n + 1 => ⟨IV.z, IL.rep n⟩
end ILS
end
section
/-! ===== the fourth reading_w: arrays_w by regions ===== -/
/-- an array: its length_w, the length_w of its blocks_w (0: none), its regions (in a block_w) with what lies there_w -/
abbrev RG : Type := Nat × Nat × List (Nat × Nat × IT)
def AInv (P : Int × Int) (a : RG) (f : Nat → Int) : Prop := ∀ r, r ∈ a.2.2 → ∀ i j : Nat, r.1 ≤ i → i < r.2.1 → j < 12 → IV P r.2.2 (f (a.2.1 * j + i))
def ar_cov (a : RG) : Bool := (List.range (if a.2.1 = 0 then a.1 else a.2.1)).all fun i => a.2.2.any fun r => decide (r.1 ≤ i) && decide (i < r.2.1)
def ar_hit (a : RG) (l h : Int) : List IT := (a.2.2.filter fun r => decide ((r.1 : Int) ≤ h) && decide (l < (r.2.1 : Int))).map (·.2.2)
def i_lubL : List IT → IT
  | [] => (0, 0, 0)
  | [t] => t
  | t :: u :: ts => i_lub t (i_lubL (u :: ts))
section ARS
variable {P : Int × Int} {a : RG}
theorem lubL_ok {v : Int} {t : IT} (hv : IV P t v) : ∀ {l : List IT}, t ∈ l → IV P (i_lubL l) v
  | [], h => (by cases h)
  | [u], h => by
    rw [List.mem_singleton] at h
    subst h
    exact hv
  | u :: w :: ts, h => by
    rcases List.mem_cons.mp h with rfl | h
    · exact ilub_l hv
    · exact ilub_r (lubL_ok hv h)
theorem ar_find (hc_w : ar_cov a = true) {i : Nat} (hi_w : i < (if a.2.1 = 0 then a.1 else a.2.1)) : ∃ r, r ∈ a.2.2 ∧ r.1 ≤ i ∧ i < r.2.1 := by
  have h := List.all_eq_true.mp hc_w i (List.mem_range.mpr hi_w)
  obtain ⟨r, hr, h2⟩ := List.any_eq_true.mp h
  simp only [Bool.and_eq_true, decide_eq_true_eq] at h2
  exact ⟨r, hr, h2⟩
theorem hit_mem {l h : Int} {r : Nat × Nat × IT} (hr : r ∈ a.2.2) {i : Nat} (h1 : r.1 ≤ i) (h2 : i < r.2.1) (h3 : l ≤ (i : Int)) (h4 : (i : Int) ≤ h) : r.2.2 ∈ ar_hit a l h := by
  refine List.mem_map.mpr ⟨r, List.mem_filter.mpr ⟨hr, ?_⟩, rfl⟩
  simp only [Bool.and_eq_true, decide_eq_true_eq]
  omega
/-- a cell_w of a block_w -/
theorem ar_at {f : Nat → Int} (ha_w : AInv P a f) (hc_w : ar_cov a = true) {l h : Int} {i j : Nat} (hi_w : i < (if a.2.1 = 0 then a.1 else a.2.1)) (hj : j < 12) (h3 : l ≤ (i : Int)) (h4 : (i : Int) ≤ h) : IV P (i_lubL (ar_hit a l h)) (f (a.2.1 * j + i)) := by
  obtain ⟨r, hr, k1_w, k2⟩ := ar_find hc_w hi_w
  exact lubL_ok (ha_w r hr i j k1_w k2 hj) (hit_mem hr k1_w k2 h3 h4)
/-- the kind that a load_w has_w, if its place_w is_w in the array -/
def ar_ld0 (a : RG) (t : IT) : Option IT :=
  if t.1 = 1 ∧ 0 ≤ t.2.1 ∧ t.2.2 < a.1 then
    if a.2.1 = 0 then some (i_lubL (ar_hit a t.2.1 t.2.2))
    else if t.2.1 / a.2.1 = t.2.2 / a.2.1 ∧ a.1 ≤ 12 * a.2.1 then some (i_lubL (ar_hit a (t.2.1 % a.2.1) (t.2.2 % a.2.1))) else none
  else if t.1 = 3 ∧ a.2.1 = 429 ∧ a.1 = 5148 ∧ 0 ≤ t.2.1 ∧ t.2.2 < 429 then some (i_lubL (ar_hit a t.2.1 t.2.2)) else none
def ar_ld (a : RG) (t : IT) : Option IT := ar_ld0 a (i_wd t)
/-- where a place_w within_w lies: its block_w, its place_w there_w -/
theorem ar_place {t : IT} {u : IT} {v : Int} (h : ar_ld0 a t = some u) (hv : IV P t v) : 0 ≤ v ∧ v < a.1 ∧ ∃ (i j : Nat) (l x : Int), j < 12 ∧ v.toNat = a.2.1 * j + i ∧ i < (if a.2.1 = 0 then a.1 else a.2.1) ∧ l ≤ (i : Int) ∧ (i : Int) ≤ x ∧ u = i_lubL (ar_hit a l x) ∧
    ((t.1 = 1 ∧ a.2.1 = 0 ∧ l = t.2.1 ∧ x = t.2.2) ∨ (t.1 = 1 ∧ a.2.1 ≠ 0 ∧ l = t.2.1 % a.2.1 ∧ x = t.2.2 % a.2.1) ∨ (t.1 = 3 ∧ l = t.2.1 ∧ x = t.2.2)) := by
  obtain ⟨tt, lt, ht⟩ := t
  unfold ar_ld0 at h
  dsimp only at h ⊢
  split at h
  · rename_i k
    obtain ⟨rfl, k1_w, k2⟩ := k
    obtain ⟨v1_w, v2, -⟩ := hv
    have e : v = (v.toNat : Int) := by omega
    refine ⟨by omega, by omega, ?_⟩
    split at h
    · rename_i hp
      cases h
      exact ⟨v.toNat, 0, lt, ht, by decide, by rw [hp]; omega, by rw [if_pos hp]; omega, by omega, by omega, rfl, Or.inl ⟨rfl, hp, rfl, rfl⟩⟩
    · rename_i hp
      split at h
      · rename_i k
        cases h
        have hp0 : (0 : Int) < a.2.1 := by omega
        have q1_w : lt / (a.2.1 : Int) ≤ v / a.2.1 := Int.ediv_le_ediv hp0 v1_w
        have q2_w : v / (a.2.1 : Int) ≤ ht / a.2.1 := Int.ediv_le_ediv hp0 v2
        have q3_w : v / (a.2.1 : Int) = lt / a.2.1 := by omega
        have m1_w := Int.mul_ediv_add_emod v a.2.1
        have m2_w := Int.mul_ediv_add_emod lt a.2.1
        have m3_w := Int.mul_ediv_add_emod ht a.2.1
        rw [← k.1] at m3_w
        rw [q3_w] at m1_w
        have n1_w : v.toNat = a.2.1 * (v.toNat / a.2.1) + v.toNat % a.2.1 := (Nat.div_add_mod _ _).symm
        have n2_w : ((v.toNat % a.2.1 : Nat) : Int) = v % a.2.1 := by rw [Int.natCast_emod, ← e]
        have n3_w : v.toNat % a.2.1 < a.2.1 := Nat.mod_lt _ (by omega)
        have n4_w : v.toNat / a.2.1 < 12 := (Nat.div_lt_iff_lt_mul (by omega)).mpr (by omega)
        exact ⟨v.toNat % a.2.1, v.toNat / a.2.1, lt % a.2.1, ht % a.2.1, n4_w, n1_w, by rw [if_neg hp]; exact n3_w, by omega, by omega, rfl, Or.inr (Or.inl ⟨rfl, hp, rfl, rfl⟩)⟩
      · cases h
  · split at h
    · rename_i k
      cases h
      obtain ⟨rfl, kp, kl, k1_w, k2⟩ := k
      obtain ⟨-, j, hj, v1_w, v2⟩ := hv
      refine ⟨by omega, by omega, (v - 429 * (j : Int)).toNat, j, lt, ht, hj, by rw [kp]; omega, by rw [if_neg (by omega), kp]; omega, by omega, by omega, rfl, Or.inr (Or.inr ⟨rfl, rfl, rfl⟩)⟩
    · cases h
theorem ar_ld_ok {f : Nat → Int} (ha_w : AInv P a f) (hc_w : ar_cov a = true) {t u : IT} {v : Int} (h : ar_ld a t = some u) (hv : IV P t v) : 0 ≤ v ∧ v < a.1 ∧ IV P u (f v.toNat) := by
  obtain ⟨p1_w, p2_w, i, j, l, x, hj, e, hi_w, h1, h2, rfl, -⟩ := ar_place h hv.wd
  refine ⟨p1_w, p2_w, ?_⟩
  rw [e]
  exact ar_at ha_w hc_w hi_w hj h1 h2
/-- a store_w keeps_w an array, if what is_w stored_w fits_w all regions that it may_w hit_w -/
def ar_st (a : RG) (t w : IT) : Bool := (match ar_ld a t with
  | some _ => true
  | none => false) && a.2.2.all fun r => i_sub w r.2.2 || (if (i_wd t).1 = 1 ∧ a.2.1 ≠ 0 then decide ((i_wd t).2.2 % a.2.1 < (r.1 : Int)) || decide ((r.2.1 : Int) ≤ (i_wd t).2.1 % a.2.1)
    else decide ((i_wd t).2.2 < (r.1 : Int)) || decide ((r.2.1 : Int) ≤ (i_wd t).2.1))
/-- regions end within_w their block_w -/
def ar_ok (a : RG) : Bool := a.2.2.all fun r => Nat.ble r.2.1 (if a.2.1 = 0 then a.1 else a.2.1)
theorem ar_st_ok {f g : Nat → Int} (ha_w : AInv P a f) (hok : ar_ok a = true) {t w : IT} {v x : Int} (h : ar_st a t w = true) (hv : IV P t v) (hx : IV P w x) (hg : ∀ i, g i = if i = v.toNat then x else f i) : AInv P a g := by
  rw [ar_st, Bool.and_eq_true] at h
  obtain ⟨h0, h1⟩ := h
  cases hl : ar_ld a t with
  | none => rw [hl] at h0; cases h0
  | some u =>
    obtain ⟨p1_w, p2_w, i0, j0, l, y, hj0, e0, hi0_w, q1_w, q2_w, -, q3_w⟩ := ar_place hl hv.wd
    intro r hr i j k1_w k2 hj
    rw [hg]
    split
    · rename_i e
      have h2 := List.all_eq_true.mp h1 r hr
      rw [Bool.or_eq_true] at h2
      rcases h2 with h2 | h2
      · exact IV.sub h2 hx
      · exfalso
        have hr2 := List.all_eq_true.mp hok r hr
        rw [Nat.ble_eq] at hr2
        have hi_w : i = i0 := by
          rw [e0] at e
          by_cases hp : a.2.1 = 0
          · rw [hp, Nat.zero_mul, Nat.zero_mul] at e
            omega
          · rw [if_neg hp] at hi0_w hr2
            have e1_w : (a.2.1 * j0 + i0) % a.2.1 = (a.2.1 * j + i) % a.2.1 := by rw [e]
            rw [Nat.mul_add_mod, Nat.mul_add_mod, Nat.mod_eq_of_lt hi0_w, Nat.mod_eq_of_lt (show i < a.2.1 by omega)] at e1_w
            exact e1_w.symm
        subst hi_w
        rcases q3_w with ⟨z1, z2, rfl, rfl⟩ | ⟨z1, z2, rfl, rfl⟩ | ⟨z1, rfl, rfl⟩
        · rw [if_neg (by omega)] at h2
          simp only [Bool.or_eq_true, decide_eq_true_eq] at h2
          omega
        · rw [if_pos ⟨z1, z2⟩] at h2
          simp only [Bool.or_eq_true, decide_eq_true_eq] at h2
          omega
        · rw [if_neg (by omega)] at h2
          simp only [Bool.or_eq_true, decide_eq_true_eq] at h2
          omega
    · exact ha_w r hr i j k1_w k2 hj
end ARS
end
section
/-! ===== the fourth reading_w: what the reference's cells_w hold ===== -/
/-- tables_w: fields_w of the reference_w; its arrays' objects by field_w; arrays_w by object; which objects are written_w; what methods take, give, what a true answer_w says_w of what they took; which may_w be called_w -/
abbrev QT : Type := (Nat → IT) × (Nat → Nat) × (Nat → RG) × (Nat → Bool) × (Nat → List IT) × (Nat → List IT) × (Nat → List IT) × (Nat → Bool)
abbrev qF (T : QT) : Nat → IT := T.1
abbrev qO (T : QT) : Nat → Nat := T.2.1
abbrev qA (T : QT) : Nat → RG := T.2.2.1
abbrev qW (T : QT) : Nat → Bool := T.2.2.2.1
abbrev qP (T : QT) : Nat → List IT := T.2.2.2.2.1
abbrev qR (T : QT) : Nat → List IT := T.2.2.2.2.2.1
abbrev qU (T : QT) : Nat → List IT := T.2.2.2.2.2.2.1
abbrev qC (T : QT) : Nat → Bool := T.2.2.2.2.2.2.2
/-- the kind of an array's cells_w -/
def r_kd (q : Nat) : Nat := bif q == 203 then 0 else match a_g3[q]? with
  | some (6, _) => 1
  | some (7, _) => 2
  | some (9, _) => 100
  | _ => 0
/-- the last_w of some numbers_w -/
def j_ls (r : List Int) : Int := r.getLastD 0
def RI (P : Int × Int) (T : QT) (J : XH → Prop) (h : XH) : Prop := (∀ k, IV P (qF T k) (h 182 k)) ∧ (∀ q, 183 ≤ q → AInv P (qA T q) (h q)) ∧ J h
/-- cells_w that are not written_w -/
def KR (T : QT) (h h' : XH) : Prop := ∀ o k, qW T o = false → h' o k = h o k
def JS (T : QT) (J : XH → Prop) : Prop := ∀ h h', KR T h h' → J h → J h'
/-- what is_w said_w of the tables_w by themselves -/
def RTab (T : QT) : Prop := (∀ k, ((qF T k).1 = 1 → c_ty g_fk a_g3 182 k = 1) ∧ ((qF T k).1 = 2 → c_ty g_fk a_g3 182 k = 2)) ∧ (∀ k, qO T k ≠ 0 → j_rf a_g3 182 k = some (qO T k : Int)) ∧
  (∀ q, 183 ≤ q → q ≤ 202 → j_len a_g3 q = ((qA T q).1 : Int) ∧ ar_cov (qA T q) = true ∧ ar_ok (qA T q) = true ∧ (∀ k, c_ty g_fk a_g3 q k = r_kd q)) ∧ qW T 182 = true
section RIS
variable {P : Int × Int} {T : QT} {J : XH → Prop}
theorem KR.rf {h : XH} : KR T h h := fun _ _ _ => rfl
theorem KR.tr {h h1 h2 : XH} (a : KR T h h1) (b : KR T h1 h2) : KR T h h2 := fun o k e => (b o k e).trans (a o k e)
theorem KR.up {h : XH} {o k : Nat} {v : Int} (e : qW T o = true) : KR T h (j_up h o k v) := fun a b ha_w => up_ne (fun z => by
  rw [z.1, e] at ha_w
  cases ha_w)
theorem RI.fld {h : XH} {k : Nat} {v : Int} (hJ : JS T J) (hw : qW T 182 = true) (a : RI P T J h) (b : IV P (qF T k) v) : RI P T J (j_up h 182 k v) := by
  refine ⟨fun k' => ?_, fun q hq => ?_, hJ _ _ (KR.up hw) a.2.2⟩
  · by_cases e : k' = k
    · subst e
      rw [up_eq]
      exact b
    · rw [up_ne (fun z => e z.2)]
      exact a.1 k'
  · have e : j_up h 182 k v q = h q := funext fun i => up_ne (fun z => by omega)
    rw [e]
    exact a.2.1 q hq
theorem RI.arr {h : XH} {q : Nat} {i x : Int} {t w : IT} (hJ : JS T J) (hw : qW T q = true) (a : RI P T J h) (hq : 183 ≤ q) (hok : ar_ok (qA T q) = true) (hs : ar_st (qA T q) t w = true) (hi_w : IV P t i) (hx : IV P w x) : RI P T J (j_up h q i.toNat x) := by
  refine ⟨fun k' => ?_, fun q' hq' => ?_, hJ _ _ (KR.up hw) a.2.2⟩
  · rw [up_ne (fun z => by omega)]
    exact a.1 k'
  · by_cases e : q' = q
    · subst e
      refine ar_st_ok (a.2.1 q' hq') hok hs hi_w hx (fun j => ?_)
      by_cases ej : j = i.toNat
      · rw [ej, up_eq, if_pos rfl]
      · rw [up_ne (fun z => ej z.2), if_neg ej]
    · have e2_w : j_up h q i.toNat x q' = h q' := funext fun j => up_ne (fun z => e z.1)
      rw [e2_w]
      exact a.2.1 q' hq'
end RIS
/-- all that is_w kept -/
def QK (P : Int × Int) (T : QT) (J : XH → Prop) (h : XH) : Prop := HT g_fk a_g3 h ∧ RI P T J h
/-- what a method_w of the reference_w is_w known_w to do -/
def TotR (P : Int × Int) (T : QT) (J : XH → Prop) (g : Nat × Nat) (F : XP) (f : Nat) : Prop :=
  ∀ (av : List Int) (h : XH), QK P T J h → IL P (qP T f) av → ∃ r h', F f av ((a_g3, g), h) = some (1, r, ((a_g3, g), h')) ∧ QK P T J h' ∧ KR T h h' ∧ IL P (qR T f) r ∧ (j_ls r ≠ 0 → IL P (qU T f) av)
/-- what an expression is_w known_w to do: with what is_w known_w of the locals when its (last_w) number_w is_w 0 or_w not -/
def TotI (P : Int × Int) (T : QT) (J : XH → Prop) (g : Nat × Nat) (τ us τt τf : List IT) (A : XE) : Prop :=
  ∀ (en : List Int) (h : XH), QK P T J h → IL P τ en → ∃ r h', A en ((a_g3, g), h) = some (r, ((a_g3, g), h')) ∧ QK P T J h' ∧ KR T h h' ∧ IL P us r ∧ (j_ls r ≠ 0 → IL P τt en) ∧ (j_ls r = 0 → IL P τf en)
/-- within_w and mustBe -/
def TotW (g : Nat × Nat) (F : XP) : Prop := ∀ (v l u : Int) (h : XH), F 198 [v, l, u] ((a_g3, g), h) = some (1, [j_b (decide (l ≤ v) && decide (v ≤ u))], ((a_g3, g), h))
def TotB (P : Int × Int) (T : QT) (J : XH → Prop) (g : Nat × Nat) (F : XP) : Prop := ∀ (v : Int) (h : XH), (v = 0 ∨ v = 1) → QK P T J h → ∃ h', F 274 [182, v] ((a_g3, g), h) = some (1, [v], ((a_g3, g), h')) ∧ QK P T J h' ∧ KR T h h'
end
section
/-! ===== the fourth reading_w: expressions ===== -/
abbrev QO : Type := Option (List IT × List IT × List IT)
def q_one (x : QO) : Option (IT × List IT × List IT) := match x with
  | some ([t], y, z) => some (t, y, z)
  | _ => none
def q_arr (t : IT) : Bool := t.1 == 4 && decide (183 ≤ t.2.1) && decide (t.2.1 ≤ 202)
/-- a local by itself_w; arguments that begin with a local -/
def q_loc : SX → Option Nat
  | .op (.var 3) (.op (.var i) (.op _ _)) => some i
  | _ => none
def q_var : SX → Option (Nat × SX)
  | .op (.var 30) (.op a (.op b _)) => (q_loc a).map fun i => (i, b)
  | _ => none
def q_cut (τ : List IT) (a : SX) (op_w : Nat) (u : IT) : List IT := match q_loc a with
  | some i => τ.set i (i_ref op_w (τ.getD i (0, 0, 0)) u)
  | none => τ
def q_wth (τ : List IT) (a : SX) (l u : IT) : List IT := match q_var a with
  | some q => bif i_is l && i_is u then τ.set q.1 (i_cut (τ.getD q.1 (0, 0, 0)) (i_wd l).2.1 (i_wd u).2.2) else τ
  | none => τ
def q_tru : List IT → List IT → SX → List IT
  | [], τ, _ => τ
  | t :: ts, τ, a => match q_var a with
    | some q => q_tru ts (bif i_sub t (τ.getD q.1 (0, 0, 0)) then τ.set q.1 t else τ) q.2
    | none => τ
def q_bool : IT := (1, 0, 1)
def q_call (T : QT) (f : Nat) (a : SX) (τ : List IT) (x : List IT × List IT × List IT) : QO :=
  bif f == 274 then (match x.1 with
    | [r, u] => bif r.1 == 4 && decide (r.2.1 = 182) && i_sub u q_bool then some ([q_bool], x.2.1, x.2.2) else none
    | _ => none)
  else bif f == 198 then (match x.1 with
    | [_, l, u] => some ([q_bool], q_wth τ a l u, τ)
    | _ => none)
  else bif qC T f && i_subs x.1 (qP T f) then some (qR T f, q_tru (qU T f) τ a, τ) else none
def qN (T : QT) (t : Nat) (a b c : SX) (A B C : List IT → QO) (τ : List IT) : QO := match t with
  | 1 => match sx_n b with
    | 1 => bif okI (sx_c a b c) then some ([(1, sx_c a b c, sx_c a b c)], τ, τ) else none
    | 2 => bif okL (sx_c a b c) then some ([(2, sx_c a b c, sx_c a b c)], τ, τ) else none
    | _ => none
  | 3 => some ([τ.getD (sx_n a) (0, 0, 0)], τ, τ)
  | 4 => (q_one (A τ)).bind fun x => bif x.1.1 == 4 && decide (x.1.2.1 = 182) then some ([qF T (sx_n b)], τ, τ) else none
  | 5 => (q_one (A τ)).bind fun x => bif x.1.1 == 4 && decide (x.1.2.1 = 182) && !(qO T (sx_n b) == 0) then some ([(4, qO T (sx_n b), 0)], τ, τ) else none
  | 7 => (q_one (A τ)).bind fun x => (q_one (B τ)).bind fun y => bif q_arr x.1 && sx_n c == 0 then (ar_ld (qA T x.1.2.1.toNat) y.1).bind fun u => some ([u], τ, τ) else none
  | 10 => (q_one (A τ)).bind fun x => bif q_arr x.1 && sx_n c == 0 && okI ((qA T x.1.2.1.toNat).1 : Int) then some ([(1, (qA T x.1.2.1.toNat).1, (qA T x.1.2.1.toNat).1)], τ, τ) else none
  | 14 => (q_one (A τ)).bind fun x => (q_one (B τ)).bind fun y => some ([i_op (sx_n c) x.1 y.1], τ, τ)
  | 15 => (q_one (A τ)).bind fun _ => (q_one (B τ)).bind fun _ => some ([iL], τ, τ)
  | 16 => (q_one (A τ)).bind fun _ => (q_one (B τ)).bind fun _ => some ([iL], τ, τ)
  | 17 => (q_one (A τ)).bind fun x => (q_one (B τ)).bind fun y => (i_div (sx_n c) x.1 y.1).bind fun u => some ([u], τ, τ)
  | 18 => (q_one (A τ)).bind fun x => match sx_n c with
    | 0 => some ([i_neg x.1], τ, τ)
    | 1 => some ([iL], τ, τ)
    | 2 => (i_i2l x.1).bind fun u => some ([u], τ, τ)
    | _ => some ([iT], τ, τ)
  | 20 => (q_one (A τ)).bind fun _ => (q_one (B τ)).bind fun y => bif Nat.blt (sx_n c) 6 then some ([q_bool], q_cut τ a (sx_n c) y.1, q_cut τ a (i_not (sx_n c)) y.1) else none
  | 21 => (q_one (A τ)).bind fun _ => bif Nat.blt (sx_n c) 6 then some ([q_bool], q_cut τ a (sx_n c) (1, 0, 0), q_cut τ a (i_not (sx_n c)) (1, 0, 0)) else none
  | 22 => (q_one (A τ)).bind fun _ => (q_one (B τ)).bind fun _ => some ([q_bool], τ, τ)
  | 24 => A τ
  | 25 => (q_one (A τ)).bind fun x => (q_one (B x.2.1)).bind fun y => some ([q_bool], y.2.1, τ)
  | 26 => (q_one (A τ)).bind fun x => (q_one (B x.2.2)).bind fun y => some ([q_bool], τ, y.2.2)
  | 27 => (q_one (A τ)).bind fun x => some ([q_bool], x.2.2, x.2.1)
  | 28 => (q_one (A τ)).bind fun x => (q_one (B x.2.1)).bind fun y => (q_one (C x.2.2)).bind fun z => some ([i_lub y.1 z.1], τ, τ)
  | 30 => (q_one (A τ)).bind fun x => (B τ).bind fun y => match y.1 with
    | [] => some ([x.1], x.2.1, x.2.2)
    | u :: us => some (x.1 :: u :: us, y.2.1, y.2.2)
  | 31 => some ([], τ, τ)
  | 32 => (A τ).bind fun x => q_call T (sx_n b) a τ x
  | _ => none
def qE (T : QT) : SX → List IT → QO
  | .op (.var t) (.op a (.op b c)) => qN T t a b c (qE T a) (qE T b) (qE T c)
  | _ => fun _ => none
theorem q_one_s {x : QO} {y : IT × List IT × List IT} (h : q_one x = some y) : x = some ([y.1], y.2.1, y.2.2) := by
  unfold q_one at h
  split at h
  · cases h; rfl
  · cases h
theorem b_if {α : Type} {b : Bool} {x y : α} (h : (bif b then some x else none) = some y) : b = true ∧ x = y := by
  cases b with
  | true => exact ⟨rfl, Option.some.inj h⟩
  | false => cases h
theorem b_ifx {α : Type} {b : Bool} {x : Option α} {y : α} (h : (bif b then x else none) = some y) : b = true ∧ x = some y := by
  cases b with
  | true => exact ⟨rfl, h⟩
  | false => cases h
section QI
variable {xs : Nat → Int} {L : Nat} {ck : Nat → List Nat} {F : XP} {cW : Nat → Nat → Int} {P : Int × Int} {T : QT} {J : XH → Prop} {g : Nat × Nat} {τ τt τf bt bf ct cf_w us : List IT} {ta tb tc : IT} {A B C : XE} {a b c : SX}
theorem b01 {b : Bool} : IV P q_bool (j_b b) := by
  cases b
  · exact ⟨by decide, by decide, in_0⟩
  · exact ⟨by decide, by decide, by decide, by decide⟩
theorem b_ne {b : Bool} (h : j_b b ≠ 0) : b = true := by
  cases b
  · exact absurd rfl h
  · rfl
theorem b_eq {b : Bool} (h : j_b b = 0) : b = false := by
  cases b
  · rfl
  · cases h
/-- one number_w -/
theorem qi_one (hA : TotI P T J g τ [ta] τt τf A) {en : List Int} {h : XH} (hQ : QK P T J h) (hv : IL P τ en) : ∃ v h', A en ((a_g3, g), h) = some ([v], ((a_g3, g), h')) ∧ QK P T J h' ∧ KR T h h' ∧ IV P ta v ∧ (v ≠ 0 → IL P τt en) ∧ (v = 0 → IL P τf en) := by
  obtain ⟨r, h', e1_w, e2_w, e4_w, e5_w, e6_w, e7_w⟩ := hA en h hQ hv
  obtain ⟨v, rfl, hx⟩ := IL.one e5_w
  exact ⟨v, h', e1_w, e2_w, e4_w, hx, e6_w, e7_w⟩
/-- a number_w of what was worked out, with nothing_w known_w anew_w -/
theorem qi_un {f : Int → Int} {X : XE} (hX : ∀ en st, X en st = (A en st).bind fun x => some ([f (j_hd x.1)], x.2)) (hA : TotI P T J g τ [ta] τt τf A) (hf : ∀ v, IV P ta v → IV P tc (f v)) : TotI P T J g τ [tc] τ τ X := fun en h hQ hv => by
  obtain ⟨v, h1, a1_w, a2, a4, a5, -⟩ := qi_one hA hQ hv
  refine ⟨[f v], h1, ?_, a2, a4, ⟨hf v a5, trivial⟩, fun _ => hv, fun _ => hv⟩
  rw [hX, a1_w]
  rfl
theorem qi_bin {op_w : Int → Int → Int} (hA : TotI P T J g τ [ta] τt τf A) (hB_w : TotI P T J g τ [tb] bt bf B) (hop : ∀ v w, IV P ta v → IV P tb w → IV P tc (op_w v w)) : TotI P T J g τ [tc] τ τ (n_bin op_w A B) := fun en h hQ hv => by
  obtain ⟨v, h1, a1_w, a2, a4, a5, -⟩ := qi_one hA hQ hv
  obtain ⟨w, h2, b1, b2, b4, b5, -⟩ := qi_one hB_w a2 hv
  refine ⟨[op_w v w], h2, ?_, b2, a4.tr b4, ⟨hop v w a5 b5, trivial⟩, fun _ => hv, fun _ => hv⟩
  unfold n_bin
  rw [a1_w, Option.bind_some, b1]
  rfl
theorem q_loc_ok {i : Nat} (h : q_loc a = some i) (en : List Int) (st : XT) : evE xs L ck F cW a en st = some ([en.getD i 0], st) := by
  unfold q_loc at h
  split at h
  · cases h
    rfl
  · cases h
theorem q_var_ok {q : Nat × SX} (h : q_var a = some q) (en : List Int) (st : XT) : evE xs L ck F cW a en st = (evE xs L ck F cW q.2 en st).bind fun y => some (en.getD q.1 0 :: y.1, y.2) := by
  unfold q_var at h
  split at h
  · obtain ⟨i, h1, h2⟩ := Option.map_eq_some_iff.mp h
    cases h2
    show (evE xs L ck F cW _ en st).bind _ = _
    rw [q_loc_ok h1, Option.bind_some]
    rfl
  · cases h
theorem q_cut_ok {op_w : Nat} {en : List Int} {st st' : XT} {v w : Int} {u : IT} (ha_w : evE xs L ck F cW a en st = some ([v], st')) (hv : IL P τ en) (hw : IV P u w) (hc_w : j_cmp op_w v w = true) : IL P (q_cut τ a op_w u) en := by
  unfold q_cut
  cases hq : q_loc a with
  | none => exact hv
  | some i =>
    have e2_w := (q_loc_ok (xs := xs) (L := L) (ck := ck) (F := F) (cW := cW) hq en st).symm.trans ha_w
    have e := (some_one e2_w).1
    refine IL.put i hv (i_ref_ok (IL.at i hv) hw ?_)
    rw [e]
    exact hc_w
theorem qi_cmp {op_w : Nat} (hop : op_w < 6) (hA : TotI P T J g τ [ta] τt τf (evE xs L ck F cW a)) (hB_w : TotI P T J g τ [tb] bt bf B) : TotI P T J g τ [q_bool] (q_cut τ a op_w tb) (q_cut τ a (i_not op_w) tb) (n_cmp (j_cmp op_w) (evE xs L ck F cW a) B) := fun en h hQ hv => by
  obtain ⟨v, h1, a1_w, a2, a4, a5, -⟩ := qi_one hA hQ hv
  obtain ⟨w, h2, b1, b2, b4, b5, -⟩ := qi_one hB_w a2 hv
  refine ⟨[j_b (j_cmp op_w v w)], h2, ?_, b2, a4.tr b4, ⟨b01, trivial⟩, fun k => q_cut_ok a1_w hv b5 (b_ne k), fun k => q_cut_ok a1_w hv b5 (i_not_ok (b_eq k) hop)⟩
  unfold n_cmp
  rw [a1_w, Option.bind_some, b1]
  rfl
theorem qi_cmp0 {op_w : Nat} (hop : op_w < 6) (hA : TotI P T J g τ [ta] τt τf (evE xs L ck F cW a)) {X : XE} (hX : ∀ en st, X en st = (evE xs L ck F cW a en st).bind fun x => some ([j_b (j_cmp op_w (j_hd x.1) 0)], x.2)) : TotI P T J g τ [q_bool] (q_cut τ a op_w (1, 0, 0)) (q_cut τ a (i_not op_w) (1, 0, 0)) X := fun en h hQ hv => by
  obtain ⟨v, h1, a1_w, a2, a4, a5, -⟩ := qi_one hA hQ hv
  have b5 : IV P (1, 0, 0) 0 := ⟨by decide, by decide, in_0⟩
  refine ⟨[j_b (j_cmp op_w v 0)], h1, ?_, a2, a4, ⟨b01, trivial⟩, fun k => q_cut_ok a1_w hv b5 (b_ne k), fun k => q_cut_ok a1_w hv b5 (i_not_ok (b_eq k) hop)⟩
  rw [hX, a1_w]
  rfl
theorem qi_cmpL {op_w : Int → Int → Bool} (hA : TotI P T J g τ [ta] τt τf A) (hB_w : TotI P T J g τ [tb] bt bf B) : TotI P T J g τ [q_bool] τ τ (n_cmp op_w A B) := fun en h hQ hv => by
  obtain ⟨v, h1, a1_w, a2, a4, a5, -⟩ := qi_one hA hQ hv
  obtain ⟨w, h2, b1, b2, b4, b5, -⟩ := qi_one hB_w a2 hv
  refine ⟨[j_b (op_w v w)], h2, ?_, b2, a4.tr b4, ⟨b01, trivial⟩, fun _ => hv, fun _ => hv⟩
  unfold n_cmp
  rw [a1_w, Option.bind_some, b1]
  rfl
theorem qi_nz (hB_w : TotI P T J g τ [tb] bt bf B) : TotI P T J g τ [q_bool] bt bf (n_nz B) := fun en h hQ hv => by
  obtain ⟨w, h2, b1, b2, b4, b5, b6, b7⟩ := qi_one hB_w hQ hv
  refine ⟨[j_b (decide (w ≠ 0))], h2, ?_, b2, b4, ⟨b01, trivial⟩, fun k => b6 (of_decide_eq_true (b_ne k)), fun k => b7 (Decidable.of_not_not (of_decide_eq_false (b_eq k)))⟩
  unfold n_nz
  rw [b1]
  rfl
theorem qi_not (hA : TotI P T J g τ [ta] τt τf A) {X : XE} (hX : ∀ en st, X en st = (A en st).bind fun x => some ([j_b (decide (j_hd x.1 = 0))], x.2)) : TotI P T J g τ [q_bool] τf τt X := fun en h hQ hv => by
  obtain ⟨v, h1, a1_w, a2, a4, a5, a6, a7⟩ := qi_one hA hQ hv
  refine ⟨[j_b (decide (v = 0))], h1, ?_, a2, a4, ⟨b01, trivial⟩, fun k => a7 (of_decide_eq_true (b_ne k)), fun k => a6 (of_decide_eq_false (b_eq k))⟩
  rw [hX, a1_w]
  rfl
/-- both_w: what each_w says_w, when true -/
theorem qi_and (hA : TotI P T J g τ [ta] τt τf A) (hB_w : TotI P T J g τt [tb] bt bf B) : TotI P T J g τ [q_bool] bt τ (n_ife A (n_nz B) (fun _ st => some ([0], st))) := fun en h hQ hv => by
  obtain ⟨v, h1, a1_w, a2, a4, a5, a6, a7⟩ := qi_one hA hQ hv
  unfold n_ife
  rw [a1_w, Option.bind_some]
  by_cases h0 : v = 0
  · refine ⟨[0], h1, if_pos h0, a2, a4, ⟨b01 (b := false), trivial⟩, fun k => absurd rfl k, fun _ => hv⟩
  · obtain ⟨w, h2, b1, b2, b4, b5, b6, b7⟩ := qi_one (qi_nz hB_w) a2 (a6 h0)
    exact ⟨[w], h2, (if_neg h0).trans b1, b2, a4.tr b4, ⟨b5, trivial⟩, b6, fun _ => hv⟩
/-- one of both_w: what each_w says_w, when false -/
theorem qi_or (hA : TotI P T J g τ [ta] τt τf A) (hB_w : TotI P T J g τf [tb] bt bf B) : TotI P T J g τ [q_bool] τ bf (n_ife A (fun _ st => some ([1], st)) (n_nz B)) := fun en h hQ hv => by
  obtain ⟨v, h1, a1_w, a2, a4, a5, a6, a7⟩ := qi_one hA hQ hv
  unfold n_ife
  rw [a1_w, Option.bind_some]
  by_cases h0 : v = 0
  · obtain ⟨w, h2, b1, b2, b4, b5, b6, b7⟩ := qi_one (qi_nz hB_w) a2 (a7 h0)
    exact ⟨[w], h2, (if_pos h0).trans b1, b2, a4.tr b4, ⟨b5, trivial⟩, fun _ => hv, b7⟩
  · exact ⟨[1], h1, if_neg h0, a2, a4, ⟨b01 (b := true), trivial⟩, fun _ => hv, fun k => absurd k (by decide)⟩
/-- one or_w the other_w -/
theorem qi_ife (hA : TotI P T J g τ [ta] τt τf A) (hB_w : TotI P T J g τt [tb] bt bf B) (hC : TotI P T J g τf [tc] ct cf_w C) : TotI P T J g τ [i_lub tb tc] τ τ (n_ife A B C) := fun en h hQ hv => by
  obtain ⟨v, h1, a1_w, a2, a4, a5, a6, a7⟩ := qi_one hA hQ hv
  unfold n_ife
  rw [a1_w, Option.bind_some]
  by_cases h0 : v = 0
  · obtain ⟨w, h2, b1, b2, b4, b5, -⟩ := qi_one hC a2 (a7 h0)
    exact ⟨[w], h2, (if_pos h0).trans b1, b2, a4.tr b4, ⟨ilub_r b5, trivial⟩, fun _ => hv, fun _ => hv⟩
  · obtain ⟨w, h2, b1, b2, b4, b5, -⟩ := qi_one hB_w a2 (a6 h0)
    exact ⟨[w], h2, (if_neg h0).trans b1, b2, a4.tr b4, ⟨ilub_l b5, trivial⟩, fun _ => hv, fun _ => hv⟩
theorem q_tru_ok : ∀ (ts : List IT) (τ : List IT) (a : SX) {en av : List Int} {st st' : XT}, evE xs L ck F cW a en st = some (av, st') → IL P ts av → IL P τ en → IL P (q_tru ts τ a) en
  | [], _, _, _, _, _, _, _, _, h => h
  | t :: ts, τ, a, en, av, st, st', he, hs, hv => by
    unfold q_tru
    cases hq : q_var a with
    | none => exact hv
    | some q =>
      rw [q_var_ok hq] at he
      obtain ⟨r, e3_w, e4_w⟩ := j_bd he
      cases e4_w
      refine q_tru_ok ts _ q.2 (st' := r.2) e3_w hs.2 ?_
      cases hc_w : i_sub t (τ.getD q.1 (0, 0, 0)) with
      | true => exact IL.put q.1 hv hs.1
      | false => exact hv
/-- a call; what a true answer_w says_w comes to the locals by what they are -/
theorem qi_call {f : Nat} (hF : TotR P T J g F f) {us : List IT} (hA : TotI P T J g τ us τt τf (evE xs L ck F cW a)) (hs : i_subs us (qP T f) = true) : TotI P T J g τ (qR T f) (q_tru (qU T f) τ a) τ (n_call F f (evE xs L ck F cW a)) := fun en h hQ hv => by
  obtain ⟨av, h1, a1_w, a2, a4, a5, -⟩ := hA en h hQ hv
  obtain ⟨r, h2, b1, b2, b4, b5, b6⟩ := hF av h1 a2 (IL.sub hs a5)
  refine ⟨r, h2, ?_, b2, a4.tr b4, b5, fun k => q_tru_ok _ τ a a1_w (b6 k) hv, fun _ => hv⟩
  unfold n_call
  rw [a1_w, Option.bind_some, b1]
  rfl
theorem q_wth_ok {en : List Int} {st st' : XT} {v l u : Int} {tl tu : IT} (ha_w : evE xs L ck F cW a en st = some ([v, l, u], st')) (hv : IL P τ en) (h1 : IV P tl l) (h2 : IV P tu u) (k1_w : l ≤ v) (k2 : v ≤ u) : IL P (q_wth τ a tl tu) en := by
  unfold q_wth
  cases hq : q_var a with
  | none => exact hv
  | some q =>
    rw [q_var_ok hq] at ha_w
    obtain ⟨r, e3_w, e4_w⟩ := j_bd ha_w
    have e5_w : en.getD q.1 0 = v := by
      have := congrArg Prod.fst (Option.some.inj e4_w)
      exact (List.cons.inj this).1
    cases hc_w : i_is tl && i_is tu with
    | false => exact hv
    | true =>
      rw [Bool.and_eq_true] at hc_w
      have q1_w := (IV.int hc_w.1 h1).1
      have q2_w := (IV.int hc_w.2 h2).2.1
      refine IL.put q.1 hv (i_cut_ok (IL.at q.1 hv) ?_ ?_)
      · rw [e5_w]; omega
      · rw [e5_w]; omega
theorem qi_wth {tv tl tu : IT} (hF : TotW g F) (hA : TotI P T J g τ [tv, tl, tu] τt τf (evE xs L ck F cW a)) : TotI P T J g τ [q_bool] (q_wth τ a tl tu) τ (n_call F 198 (evE xs L ck F cW a)) := fun en h hQ hv => by
  obtain ⟨av, h1, a1_w, a2, a4, a5, -⟩ := hA en h hQ hv
  match av, a5 with
  | [v, l, u], a5 =>
    refine ⟨[j_b (decide (l ≤ v) && decide (v ≤ u))], h1, ?_, a2, a4, ⟨b01, trivial⟩, fun k => ?_, fun _ => hv⟩
    · unfold n_call
      rw [a1_w, Option.bind_some]
      dsimp only
      rw [hF]
      rfl
    · have k2 := b_ne k
      rw [Bool.and_eq_true, decide_eq_true_eq, decide_eq_true_eq] at k2
      exact q_wth_ok a1_w hv a5.2.1 a5.2.2.1 k2.1 k2.2
theorem iv_bool {v : Int} (h : IV P q_bool v) : v = 0 ∨ v = 1 := by
  obtain ⟨h1, h2, -⟩ := h
  omega
theorem qi_mb {tu tr : IT} (hF : TotB P T J g F) (hA : TotI P T J g τ [tr, tu] τt τf A) (h4 : tr.1 = 4) (h5 : tr.2.1 = 182) (hs : i_sub tu q_bool = true) : TotI P T J g τ [q_bool] τt τf (n_call F 274 A) := fun en h hQ hv => by
  obtain ⟨av, h1, a1_w, a2, a4, a5, a6, a7⟩ := hA en h hQ hv
  match av, a5 with
  | [v, u], a5 =>
    obtain ⟨tt, tl, th⟩ := tr
    dsimp only at h4 h5
    subst h4 h5
    have e : v = 182 := a5.1
    subst e
    have hu := IV.sub hs a5.2.1
    obtain ⟨h2, b1, b2, b4⟩ := hF u h1 (iv_bool hu) a2
    refine ⟨[u], h2, ?_, b2, a4.tr b4, ⟨hu, trivial⟩, a6, a7⟩
    unfold n_call
    rw [a1_w, Option.bind_some]
    dsimp only
    rw [b1]
    rfl
theorem iv4 {t : IT} {v : Int} (h : t.1 = 4) (hv : IV P t v) : v = t.2.1 := by
  obtain ⟨tt, tl, th⟩ := t
  dsimp only at h
  subst h
  exact hv
theorem q_ok (hT_w : RTab T) (hF : ∀ f, qC T f = true → TotR P T J g F f) (hW : TotW g F) (hB_w : TotB P T J g F) : ∀ (t : SX) (τ us τt τf : List IT), qE T t τ = some (us, τt, τf) → TotI P T J g τ us τt τf (evE xs L ck F cW t)
  | .op (.var t) (.op a (.op b c)), τ, us, τt, τf, h => by
    have iA := fun {τ us x y} h => q_ok hT_w hF hW hB_w a τ us x y h
    have iB_w := fun {τ us x y} h => q_ok hT_w hF hW hB_w b τ us x y h
    have iC := fun {τ us x y} h => q_ok hT_w hF hW hB_w c τ us x y h
    have h : qN T t a b c (qE T a) (qE T b) (qE T c) τ = some (us, τt, τf) := h
    show TotI P T J g τ us τt τf (nodeE xs L ck F cW t a b c (evE xs L ck F cW a) (evE xs L ck F cW b) (evE xs L ck F cW c))
    unfold qN at h
    split at h
    · split at h
      · obtain ⟨h1, h⟩ := b_if h
        cases h
        exact fun en hh hQ hv => ⟨[sx_c a b c], hh, rfl, hQ, KR.rf, ⟨⟨Int.le_refl _, Int.le_refl _, okI_in h1⟩, trivial⟩, fun _ => hv, fun _ => hv⟩
      · obtain ⟨h1, h⟩ := b_if h
        cases h
        exact fun en hh hQ hv => ⟨[sx_c a b c], hh, rfl, hQ, KR.rf, ⟨⟨Int.le_refl _, Int.le_refl _, okL_in h1⟩, trivial⟩, fun _ => hv, fun _ => hv⟩
      · cases h
    · cases h
      exact fun en hh hQ hv => ⟨_, hh, rfl, hQ, KR.rf, ⟨IL.at _ hv, trivial⟩, fun _ => hv, fun _ => hv⟩
    · obtain ⟨x, h1, h⟩ := j_bd h
      obtain ⟨h2, h⟩ := b_if h
      cases h
      simp only [Bool.and_eq_true, beq_iff_eq, decide_eq_true_eq] at h2
      intro en hh hQ hv
      obtain ⟨v, h', a1_w, a2, a4, a5, -⟩ := qi_one (iA (q_one_s h1)) hQ hv
      have e := (iv4 h2.1 a5).trans h2.2
      subst e
      refine ⟨[h' 182 (sx_n b)], h', ?_, a2, a4, ⟨a2.2.1 _, trivial⟩, fun _ => hv, fun _ => hv⟩
      show (evE xs L ck F cW a en _).bind _ = _
      rw [a1_w]
      rfl
    · obtain ⟨x, h1, h⟩ := j_bd h
      obtain ⟨h2, h⟩ := b_if h
      cases h
      simp only [Bool.and_eq_true, beq_iff_eq, decide_eq_true_eq, Bool.not_eq_true', beq_eq_false_iff_ne] at h2
      intro en hh hQ hv
      obtain ⟨v, h', a1_w, a2, a4, a5, -⟩ := qi_one (iA (q_one_s h1)) hQ hv
      have e := (iv4 h2.1.1 a5).trans h2.1.2
      subst e
      refine ⟨[(qO T (sx_n b) : Int)], h', ?_, a2, a4, ⟨rfl, trivial⟩, fun _ => hv, fun _ => hv⟩
      show (evE xs L ck F cW a en _).bind _ = _
      rw [a1_w, Option.bind_some]
      show (j_rf a_g3 182 (sx_n b)).bind _ = _
      rw [hT_w.2.1 _ h2.2]
      rfl
    · obtain ⟨x, h1, h⟩ := j_bd h
      obtain ⟨y, h2, h⟩ := j_bd h
      obtain ⟨h3, h⟩ := b_ifx h
      obtain ⟨u, h4, h⟩ := j_bd h
      cases h
      simp only [q_arr, Bool.and_eq_true, beq_iff_eq, decide_eq_true_eq] at h3
      obtain ⟨⟨⟨h3, h5⟩, h6⟩, h7⟩ := h3
      intro en hh hQ hv
      obtain ⟨v, ha_w, a1_w, a2, a4, a5, -⟩ := qi_one (iA (q_one_s h1)) hQ hv
      obtain ⟨w, hb_w, b1, b2, b4, b5, -⟩ := qi_one (iB_w (q_one_s h2)) a2 hv
      have e := iv4 h3 a5
      obtain ⟨k1_w, k2, k3, -⟩ := hT_w.2.2.1 x.1.2.1.toNat (by omega) (by omega)
      obtain ⟨w0_w, w1_w, w2_w⟩ := ar_ld_ok (b2.2.2.1 x.1.2.1.toNat (by omega)) k2 h4 b5
      refine ⟨[hb_w x.1.2.1.toNat w.toNat], hb_w, ?_, b2, a4.tr b4, ⟨w2_w, trivial⟩, fun _ => hv, fun _ => hv⟩
      show n_aload xs L (sx_n c) _ _ en _ = _
      unfold n_aload
      rw [a1_w, Option.bind_some, b1, Option.bind_some, h7, e]
      exact if_pos ⟨w0_w, by
        show w < j_len a_g3 x.1.2.1.toNat
        rw [k1_w]
        exact w1_w⟩
    · obtain ⟨x, h1, h⟩ := j_bd h
      obtain ⟨h3, h⟩ := b_if h
      cases h
      simp only [q_arr, Bool.and_eq_true, beq_iff_eq, decide_eq_true_eq] at h3
      obtain ⟨⟨⟨⟨h3, h5⟩, h6⟩, h7⟩, h8⟩ := h3
      intro en hh hQ hv
      obtain ⟨v, ha_w, a1_w, a2, a4, a5, -⟩ := qi_one (iA (q_one_s h1)) hQ hv
      have e := iv4 h3 a5
      obtain ⟨k1_w, k2, k3, -⟩ := hT_w.2.2.1 x.1.2.1.toNat (by omega) (by omega)
      refine ⟨[((qA T x.1.2.1.toNat).1 : Int)], ha_w, ?_, a2, a4, ⟨⟨Int.le_refl _, Int.le_refl _, okI_in h8⟩, trivial⟩, fun _ => hv, fun _ => hv⟩
      show n_alen L (sx_n c) _ en _ = _
      unfold n_alen
      rw [a1_w, Option.bind_some, h7, e]
      show some ([j_len a_g3 x.1.2.1.toNat], _) = _
      rw [k1_w]
    · obtain ⟨x, h1, h⟩ := j_bd h
      obtain ⟨y, h2, h⟩ := j_bd h
      cases h
      exact qi_bin (iA (q_one_s h1)) (iB_w (q_one_s h2)) (fun v w => i_op_ok)
    · obtain ⟨x, h1, h⟩ := j_bd h
      obtain ⟨y, h2, h⟩ := j_bd h
      cases h
      exact qi_bin (iA (q_one_s h1)) (iB_w (q_one_s h2)) (fun v w _ _ => IV.topL (lop_in _ _ _))
    · obtain ⟨x, h1, h⟩ := j_bd h
      obtain ⟨y, h2, h⟩ := j_bd h
      cases h
      exact qi_bin (iA (q_one_s h1)) (iB_w (q_one_s h2)) (fun v w _ _ => IV.topL (lsh_in _ _ _))
    · obtain ⟨x, h1, h⟩ := j_bd h
      obtain ⟨y, h2, h⟩ := j_bd h
      obtain ⟨u, h3, h⟩ := j_bd h
      cases h
      intro en hh hQ hv
      obtain ⟨v, ha_w, a1_w, a2, a4, a5, -⟩ := qi_one (iA (q_one_s h1)) hQ hv
      obtain ⟨w, hb_w, b1, b2, b4, b5, -⟩ := qi_one (iB_w (q_one_s h2)) a2 hv
      obtain ⟨k1_w, k2⟩ := i_div_ok h3 a5 b5
      refine ⟨[j_div (sx_n c) v w], hb_w, ?_, b2, a4.tr b4, ⟨k2, trivial⟩, fun _ => hv, fun _ => hv⟩
      show (evE xs L ck F cW a en _).bind _ = _
      rw [a1_w, Option.bind_some]
      show (evE xs L ck F cW b en _).bind _ = _
      rw [b1, Option.bind_some]
      exact if_neg k1_w
    · obtain ⟨x, h1, h⟩ := j_bd h
      have hA := iA (q_one_s h1)
      have hX : ∀ en st, nodeE xs L ck F cW 18 a b c (evE xs L ck F cW a) (evE xs L ck F cW b) (evE xs L ck F cW c) en st = (evE xs L ck F cW a en st).bind fun x => some ([j_un (sx_n c) (j_hd x.1)], x.2) := fun _ _ => rfl
      split at h
      · rename_i hc_w
        cases h
        exact qi_un hX hA (fun v k => by rw [hc_w]; exact i_neg_ok k)
      · rename_i hc_w
        cases h
        exact qi_un hX hA (fun v k => by rw [hc_w]; exact IV.topL (in_i64 _))
      · rename_i hc_w
        obtain ⟨u, h3, h⟩ := j_bd h
        cases h
        exact qi_un hX hA (fun v k => by rw [hc_w]; exact i_i2l_ok h3 k)
      · rename_i hc0 hc1 hc2
        cases h
        refine qi_un hX hA (fun v k => IV.top ?_)
        generalize sx_n c = m at hc0 hc1 hc2 ⊢
        match m, hc0, hc1, hc2 with
        | 0, h0, _, _ => exact absurd rfl h0
        | 1, _, h0, _ => exact absurd rfl h0
        | 2, _, _, h0 => exact absurd rfl h0
        | 3, _, _, _ => exact in_j32 _
        | n + 4, _, _, _ => exact in_i32 _
    · obtain ⟨x, h1, h⟩ := j_bd h
      obtain ⟨y, h2, h⟩ := j_bd h
      obtain ⟨h3, h⟩ := b_if h
      cases h
      rw [Nat.blt_eq] at h3
      exact qi_cmp h3 (iA (q_one_s h1)) (iB_w (q_one_s h2))
    · obtain ⟨x, h1, h⟩ := j_bd h
      obtain ⟨h3, h⟩ := b_if h
      cases h
      rw [Nat.blt_eq] at h3
      exact qi_cmp0 h3 (iA (q_one_s h1)) (fun _ _ => rfl)
    · obtain ⟨x, h1, h⟩ := j_bd h
      obtain ⟨y, h2, h⟩ := j_bd h
      cases h
      exact qi_cmpL (iA (q_one_s h1)) (iB_w (q_one_s h2))
    · exact iA h
    · obtain ⟨x, h1, h⟩ := j_bd h
      obtain ⟨y, h2, h⟩ := j_bd h
      cases h
      exact qi_and (iA (q_one_s h1)) (iB_w (q_one_s h2))
    · obtain ⟨x, h1, h⟩ := j_bd h
      obtain ⟨y, h2, h⟩ := j_bd h
      cases h
      exact qi_or (iA (q_one_s h1)) (iB_w (q_one_s h2))
    · obtain ⟨x, h1, h⟩ := j_bd h
      cases h
      exact qi_not (iA (q_one_s h1)) (fun _ _ => rfl)
    · obtain ⟨x, h1, h⟩ := j_bd h
      obtain ⟨y, h2, h⟩ := j_bd h
      obtain ⟨z, h3, h⟩ := j_bd h
      cases h
      exact qi_ife (iA (q_one_s h1)) (iB_w (q_one_s h2)) (iC (q_one_s h3))
    · obtain ⟨x, h1, h⟩ := j_bd h
      obtain ⟨y, h2, h⟩ := j_bd h
      intro en hh hQ hv
      obtain ⟨v, ha_w, a1_w, a2, a4, a5, a6, a7⟩ := qi_one (iA (q_one_s h1)) hQ hv
      obtain ⟨w, hb_w, b1, b2, b4, b5, b6, b7⟩ := (iB_w h2) en ha_w a2 hv
      have e0 : nodeE xs L ck F cW 30 a b c (evE xs L ck F cW a) (evE xs L ck F cW b) (evE xs L ck F cW c) en ((a_g3, g), hh) = some ([v] ++ w, ((a_g3, g), hb_w)) := by
        show (evE xs L ck F cW a en _).bind _ = _
        rw [a1_w, Option.bind_some]
        show (evE xs L ck F cW b en _).bind _ = _
        rw [b1]
        rfl
      refine ⟨[v] ++ w, hb_w, e0, b2, a4.tr b4, ?_⟩
      match y, h, b5, b6, b7 with
      | ([], y2, y3), h, b5, b6, b7 =>
        cases h
        match w, b5 with
        | [], _ => exact ⟨⟨a5, trivial⟩, a6, a7⟩
      | (u :: us', y2, y3), h, b5, b6, b7 =>
        cases h
        match w, b5, b6, b7 with
        | w0_w :: ws_w, b5, b6, b7 => exact ⟨⟨a5, b5⟩, b6, b7⟩
    · cases h
      exact fun en hh hQ hv => ⟨[], hh, rfl, hQ, KR.rf, trivial, fun _ => hv, fun _ => hv⟩
    · obtain ⟨⟨vs, yt, yf⟩, h1, h⟩ := j_bd h
      unfold q_call at h
      dsimp only at h
      cases k1_w : sx_n b == 274 with
      | true =>
        rw [k1_w, cond_true] at h
        match vs, h1, h with
        | [r, u], h1, h =>
          obtain ⟨h3, h⟩ := b_if (x := ([q_bool], yt, yf)) h
          cases h
          simp only [Bool.and_eq_true, beq_iff_eq, decide_eq_true_eq] at h3 k1_w
          show TotI P T J g τ _ _ _ (n_call F (sx_n b) _)
          rw [k1_w]
          exact qi_mb hB_w (iA h1) h3.1.1 h3.1.2 h3.2
        | [], _, h => cases h
        | [_], _, h => cases h
        | _ :: _ :: _ :: _, _, h => cases h
      | false =>
        rw [k1_w, cond_false] at h
        cases k2 : sx_n b == 198 with
        | true =>
          rw [k2, cond_true] at h
          match vs, h1, h with
          | [v, l, u], h1, h =>
            cases h
            rw [beq_iff_eq] at k2
            show TotI P T J g τ _ _ _ (n_call F (sx_n b) _)
            rw [k2]
            exact qi_wth hW (iA h1)
          | [], _, h => cases h
          | [_], _, h => cases h
          | [_, _], _, h => cases h
          | _ :: _ :: _ :: _ :: _, _, h => cases h
        | false =>
          rw [k2, cond_false] at h
          obtain ⟨h3, h⟩ := b_if h
          cases h
          rw [Bool.and_eq_true] at h3
          exact qi_call (hF _ h3.1) (iA h1) h3.2
    · cases h
  | .var _, _, _, _, _, h => by cases h
  | .op (.op _ _) _, _, _, _, _, h => by cases h
  | .op (.var _) (.var _), _, _, _, _, h => by cases h
  | .op (.var _) (.op _ (.var _)), _, _, _, _, h => by cases h
end QI
end
section
/-! ===== locals that a statement doesn't write_w ===== -/
/-- as_w a statement, as_w cases -/
def nw2 (i : Nat) : SX → Bool × Bool
  | .op (.var t) (.op a (.op b c)) => (match t with
    | 1 => true
    | 2 => (nw2 i a).1 && (nw2 i b).1
    | 3 => !(sx_n a == i)
    | 4 => !(sx_n a == i)
    | 5 => true
    | 6 => true
    | 7 => true
    | 8 => true
    | 9 => true
    | 10 => (nw2 i b).1
    | 11 => (nw2 i b).1 && (nw2 i c).1
    | 12 => (nw2 i b).1 && (nw2 i c).1
    | 13 => (nw2 i b).1
    | 14 => true
    | 15 => true
    | 16 => true
    | 17 => true
    | 18 => true
    | 19 => (nw2 i b).2
    | 20 => (nw2 i a).1
    | 23 => true
    | 27 => true
    | 28 => (nw2 i b).1
    | _ => false, match t with
    | 25 => (nw2 i b).1 && (nw2 i c).2
    | 26 => (nw2 i a).1
    | _ => false)
  | _ => (false, false)
def nw (i : Nat) (t : SX) : Bool := (nw2 i t).1
/-- local i stays_w -/
def KpL (i : Nat) (A : XR) : Prop := ∀ en st c vs en' st', A en st = some (c, vs, en', st') → en'.getD i 0 = en.getD i 0
/-- local i of the rest stays_w -/
def KtL (i : Nat) (A : XR) : Prop := ∀ v en st c vs en' st', A (v :: en) st = some (c, vs, en', st') → en'.getD i 0 = en.getD i 0
theorem set_ne {l : List Int} {i j : Nat} {v : Int} (h : j ≠ i) : (l.set j v).getD i 0 = l.getD i 0 := by
  rw [List.getD_eq_getElem?_getD, List.getD_eq_getElem?_getD, List.getElem?_set_ne h]
section KEEP
variable {xs : Nat → Int} {L K : Nat} {ck : Nat → List Nat} {F : XP} {cW : Nat → Nat → Int} {i : Nat}
theorem kp_same {A : XR} (h : ∀ en st c vs en' st', A en st = some (c, vs, en', st') → en' = en) : KpL i A := fun en st c vs en' st' e => by rw [h _ _ _ _ _ _ e]
theorem kp_c (k : Nat) : KpL i (fun en st => some (k, [], en, st)) := fun en st c vs en' st' e => by cases e; rfl
theorem kp_seq {A B : XR} (hA : KpL i A) (hB_w : KpL i B) : KpL i (s_seq A B) := fun en st c vs en' st' e => by
  unfold s_seq at e
  obtain ⟨⟨c1_w, v1_w, en1, st1_w⟩, e1_w, e2_w⟩ := j_bd e
  dsimp only at e2_w
  have h1 := hA _ _ _ _ _ _ e1_w
  split at e2_w
  · exact (hB_w _ _ _ _ _ _ e2_w).trans h1
  · cases e2_w
    exact h1
theorem kp_if {X : XE} {A B : XR} (hA : KpL i A) (hB_w : KpL i B) : KpL i (s_if X A B) := fun en st c vs en' st' e => by
  unfold s_if at e
  obtain ⟨x, -, e2_w⟩ := j_bd e
  split at e2_w
  · exact hB_w _ _ _ _ _ _ e2_w
  · exact hA _ _ _ _ _ _ e2_w
theorem kp_loop {X : XE} {A B : XR} (hA : KpL i A) (hB_w : KpL i B) : ∀ k, KpL i (s_loop X A B k)
  | 0 => fun en st c vs en' st' e => by cases e
  | k + 1 => fun en st c vs en' st' e => by
    unfold s_loop at e
    obtain ⟨x, -, e2_w⟩ := j_bd e
    split at e2_w
    · cases e2_w; rfl
    · obtain ⟨⟨c1_w, v1_w, en1, st1_w⟩, e3_w, e4_w⟩ := j_bd e2_w
      have h1 := hA _ _ _ _ _ _ e3_w
      dsimp only at e4_w
      split at e4_w
      · obtain ⟨⟨c2, v2, en2, st2_w⟩, e5_w, e6_w⟩ := j_bd e4_w
        have h2 := hB_w _ _ _ _ _ _ e5_w
        dsimp only at e6_w
        split at e6_w
        · exact ((kp_loop hA hB_w k) _ _ _ _ _ _ e6_w).trans (h2.trans h1)
        · cases e6_w
      · split at e4_w
        · cases e4_w; exact h1
        · cases e4_w; exact h1
theorem kp_do {X : XE} {A : XR} (hA : KpL i A) : ∀ k, KpL i (s_do A X k)
  | 0 => fun en st c vs en' st' e => by cases e
  | k + 1 => fun en st c vs en' st' e => by
    unfold s_do at e
    obtain ⟨⟨c1_w, v1_w, en1, st1_w⟩, e3_w, e4_w⟩ := j_bd e
    have h1 := hA _ _ _ _ _ _ e3_w
    dsimp only at e4_w
    split at e4_w
    · obtain ⟨x, -, e6_w⟩ := j_bd e4_w
      split at e6_w
      · cases e6_w; exact h1
      · exact ((kp_do hA k) _ _ _ _ _ _ e6_w).trans h1
    · split at e4_w
      · cases e4_w; exact h1
      · cases e4_w; exact h1
theorem kp_S : ∀ (t : SX), (∀ h : (nw2 i t).1 = true, KpL i (evS xs L ck F K cW t)) ∧ (∀ h : (nw2 i t).2 = true, KtL i (evS xs L ck F K cW t))
  | .op (.var t) (.op a (.op b c)) => by
    have iA := kp_S a
    have iB_w := kp_S b
    have iC := kp_S c
    have sm_w : ∀ {A : XR}, (∀ en st c vs en' st', A en st = some (c, vs, en', st') → en' = en) → KpL i A := fun h => kp_same h
    constructor
    · intro h
      show KpL i (nodeS xs L ck F K cW t a b c (evS xs L ck F K cW a) (evS xs L ck F K cW b) (evS xs L ck F K cW c))
      unfold nw2 at h
      dsimp only at h
      split at h
      · exact sm_w fun en st c vs en' st' e => by cases e; rfl
      · rw [Bool.and_eq_true] at h
        exact kp_seq (iA.1 h.1) (iB_w.1 h.2)
      · intro en st c vs en' st' e
        obtain ⟨x, -, e2_w⟩ := j_bd (show ((evE xs L ck F cW b en st).bind fun x => some (0, [], en.set (sx_n a) (j_hd x.1), x.2)) = _ from e)
        cases e2_w
        exact set_ne (by simpa using h)
      · intro en st c vs en' st' e
        cases e
        exact set_ne (by simpa using h)
      · refine sm_w fun en st c vs en' st' e => ?_
        obtain ⟨x, -, e2_w⟩ := j_bd e
        obtain ⟨y, -, e3_w⟩ := j_bd e2_w
        cases e3_w; rfl
      · refine sm_w fun en st c vs en' st' e => ?_
        obtain ⟨x, -, e2_w⟩ := j_bd e
        obtain ⟨y, -, e3_w⟩ := j_bd e2_w
        cases e3_w; rfl
      · refine sm_w fun en st c' vs en' st' e => ?_
        match c, e with
        | .op (.var ty_w) v, e =>
          obtain ⟨x, -, e2_w⟩ := j_bd e
          obtain ⟨y, -, e3_w⟩ := j_bd e2_w
          obtain ⟨z, -, e4_w⟩ := j_bd e3_w
          obtain ⟨-, e5_w⟩ := j_if e4_w
          cases e5_w; rfl
        | .var _, e => cases e
        | .op (.op _ _) _, e => cases e
      · refine sm_w fun en st c' vs en' st' e => ?_
        match c, e with
        | .op (.var op_w) v, e =>
          obtain ⟨x, -, e2_w⟩ := j_bd e
          obtain ⟨y, -, e3_w⟩ := j_bd e2_w
          obtain ⟨-, e4_w⟩ := j_ifx e3_w
          obtain ⟨z, -, e5_w⟩ := j_bd e4_w
          obtain ⟨-, e6_w⟩ := j_if e5_w
          cases e6_w; rfl
        | .var _, e => cases e
        | .op (.op _ _) _, e => cases e
      · refine sm_w fun en st c vs en' st' e => ?_
        obtain ⟨x, -, e2_w⟩ := j_bd e
        cases e2_w; rfl
      · exact kp_if (iB_w.1 h) (kp_c _)
      · rw [Bool.and_eq_true] at h
        exact kp_if (iB_w.1 h.1) (iC.1 h.2)
      · rw [Bool.and_eq_true] at h
        exact kp_loop (iB_w.1 h.1) (iC.1 h.2) K
      · exact kp_do (iB_w.1 h) K
      · exact sm_w fun en st c vs en' st' e => by cases e; rfl
      · exact sm_w fun en st c vs en' st' e => by cases e; rfl
      · refine sm_w fun en st c vs en' st' e => ?_
        obtain ⟨x, -, e2_w⟩ := j_bd e
        cases e2_w; rfl
      · exact sm_w fun en st c vs en' st' e => by cases e; rfl
      · exact sm_w fun en st c vs en' st' e => by cases e; rfl
      · intro en st c vs en' st' e
        obtain ⟨x, -, e2_w⟩ := j_bd (show ((evE xs L ck F cW a en st).bind fun x => (evS xs L ck F K cW b (j_hd x.1 :: en) x.2).bind fun r => if r.1 = 2 then some (0, r.2) else some r) = _ from e)
        obtain ⟨⟨c1_w, v1_w, en1, st1_w⟩, e3_w, e4_w⟩ := j_bd e2_w
        have h1 := iB_w.2 h _ _ _ _ _ _ _ e3_w
        dsimp only at e4_w
        split at e4_w
        · cases e4_w; exact h1
        · cases e4_w; exact h1
      · exact iA.1 h
      · refine sm_w fun en st c vs en' st' e => ?_
        obtain ⟨x, -, e2_w⟩ := j_bd e
        obtain ⟨y, -, e3_w⟩ := j_bd e2_w
        obtain ⟨-, e4_w⟩ := j_if e3_w
        cases e4_w; rfl
      · refine sm_w fun en st c vs en' st' e => ?_
        obtain ⟨x, -, e2_w⟩ := j_bd e
        obtain ⟨-, e3_w⟩ := j_if e2_w
        cases e3_w; rfl
      · exact kp_if (iB_w.1 h) (kp_c _)
      · cases h
    · intro h
      show KtL i (nodeS xs L ck F K cW t a b c (evS xs L ck F K cW a) (evS xs L ck F K cW b) (evS xs L ck F K cW c))
      unfold nw2 at h
      dsimp only at h
      split at h
      · rw [Bool.and_eq_true] at h
        intro v en st c' vs en' st' e
        have e' : (if (sx_l a).any (fun n => decide ((v :: en).headD 0 = sx_z n)) then (evS xs L ck F K cW b (v :: en).tail st).bind fun r => if r.1 = 0 then none else some r else evS xs L ck F K cW c (v :: en) st) = some (c', vs, en', st') := e
        split at e'
        · obtain ⟨⟨c1_w, v1_w, en1, st1_w⟩, e3_w, e4_w⟩ := j_bd e'
          have h1 := iB_w.1 h.1 _ _ _ _ _ _ e3_w
          dsimp only at e4_w
          split at e4_w
          · cases e4_w
          · cases e4_w; exact h1
        · exact iC.2 h.2 _ _ _ _ _ _ _ e'
      · intro v en st c' vs en' st' e
        exact iA.1 h _ _ _ _ _ _ e
      · cases h
  | .var _ => ⟨fun h => (by cases h), fun h => (by cases h)⟩
  | .op (.op _ _) _ => ⟨fun h => (by cases h), fun h => (by cases h)⟩
  | .op (.var _) (.var _) => ⟨fun h => (by cases h), fun h => (by cases h)⟩
  | .op (.var _) (.op _ (.var _)) => ⟨fun h => (by cases h), fun h => (by cases h)⟩
end KEEP
end
section
/-! ===== the fourth reading_w: statements ===== -/
abbrev QTB : Type := Option (List IT) × Option (List IT) × Option (List IT)
def q_join (x y : Option (List IT)) : Option (Option (List IT)) := match x, y with
  | none, y => some y
  | some a, none => some (some a)
  | some a, some b => bif a.length == b.length then some (some (i_zip i_lub a b)) else none
def q_joins (x y : QTB) : Option QTB := (q_join x.1 y.1).bind fun a => (q_join x.2.1 y.2.1).bind fun b => (q_join x.2.2 y.2.2).bind fun c => some (a, b, c)
def q_lp (i : Nat) (u c3 : Bool) (A : List IT → QO) (B : List IT → Option QTB) : Nat → List IT → Option QTB
  | 0, _ => none
  | n + 1, τ => bif !(Nat.blt i τ.length && i_is (τ.getD i (0, 0, 0))) then none else (q_one (A τ)).bind fun x =>
    bif i_is (x.2.1.getD i (0, 0, 0)) && (bif u then decide ((i_wd (x.2.1.getD i (0, 0, 0))).2.2 < 2147483647) else decide (0 ≤ (i_wd (x.2.1.getD i (0, 0, 0))).2.1)) then
      (bif c3 then B x.2.1 else some (some x.2.1, none, none)).bind fun ob => (q_join ob.1 ob.2.2).bind fun e => (q_join (some x.2.2) ob.2.1).bind fun ex_w => match e with
        | none => some (ex_w, none, none)
        | some w => bif i_subs (w.set i (i_op 0 (x.2.1.getD i (0, 0, 0)) (bif u then (1, 1, 1) else (1, -1, -1)))) τ then some (ex_w, none, none)
          else bif τ.length == w.length then q_lp i u c3 A B n (i_zip (bif Nat.ble n 2 then i_wid else i_lub) τ (w.set i (i_op 0 (x.2.1.getD i (0, 0, 0)) (bif u then (1, 1, 1) else (1, -1, -1))))) else none
    else none
def q_head (i : Nat) (u : Bool) (τ : List IT) : List IT := τ.set i (bif u then (1, (i_wd (τ.getD i (0, 0, 0))).2.1, 2147483647) else (1, min (i_wd (τ.getD i (0, 0, 0))).2.1 (-1), (i_wd (τ.getD i (0, 0, 0))).2.2))
def q_kd (q : Nat) (w : IT) : Bool := match r_kd q with
  | 1 => i_is w
  | 2 => w.1 == 2
  | 100 => i_sub w q_bool
  | _ => false
def q_isThis (t : IT) : Bool := t.1 == 4 && decide (t.2.1 = 182)
def qSN (T : QT) (rt : List IT) (t : Nat) (a b c : SX) (A B C : (List IT → Option QTB) × (List IT → Option QTB)) : (List IT → Option QTB) × (List IT → Option QTB) :=
  (fun τ => match t with
  | 1 => some (some τ, none, none)
  | 22 => some (some τ, none, none)
  | 2 => (A.1 τ).bind fun o => match o.1 with
    | none => some o
    | some τ1 => (B.1 τ1).bind fun q => q_joins (none, o.2) q
  | 3 => (q_one (qE T b τ)).bind fun x => some (some (τ.set (sx_n a) x.1), none, none)
  | 4 => bif sx_n b == 1 then some (some (τ.set (sx_n a) (i_op 0 (τ.getD (sx_n a) (0, 0, 0)) (bif sx_n c == 0 then (1, 1, 1) else (1, -1, -1)))), none, none) else none
  | 5 => (q_one (qE T a τ)).bind fun x => (q_one (qE T b τ)).bind fun y => bif q_isThis x.1 && ((qF T (sx_n c)).1 == 1 || (qF T (sx_n c)).1 == 2) && i_sub y.1 (qF T (sx_n c)) then some (some τ, none, none) else none
  | 6 => (q_one (qE T a τ)).bind fun x => (q_one (qE T b τ)).bind fun y => bif q_isThis x.1 && (qF T (sx_n c / 16)).1 == 1 && i_sub (i_op (sx_n c % 16) (qF T (sx_n c / 16)) y.1) (qF T (sx_n c / 16)) then some (some τ, none, none) else none
  | 7 => match c with
    | .op (.var ty_w) v => (q_one (qE T a τ)).bind fun x => (q_one (qE T b τ)).bind fun y => (q_one (qE T v τ)).bind fun z => bif q_arr x.1 && qW T x.1.2.1.toNat && ar_st (qA T x.1.2.1.toNat) y.1 z.1 && q_kd x.1.2.1.toNat z.1 && !(ty_w == 8) && (!(ty_w == 9) || i_sub z.1 q_bool) then some (some τ, none, none) else none
    | _ => none
  | 8 => match c with
    | .op (.var op_w) v => (q_one (qE T a τ)).bind fun x => (q_one (qE T b τ)).bind fun y => (q_one (qE T v τ)).bind fun z => (ar_ld (qA T x.1.2.1.toNat) y.1).bind fun u => bif q_arr x.1 && qW T x.1.2.1.toNat && ar_st (qA T x.1.2.1.toNat) y.1 (i_op op_w u z.1) && r_kd x.1.2.1.toNat == 1 then some (some τ, none, none) else none
    | _ => none
  | 9 => (qE T a τ).bind fun _ => some (some τ, none, none)
  | 10 => (q_one (qE T a τ)).bind fun x => (B.1 x.2.1).bind fun o => q_joins o (some x.2.2, none, none)
  | 11 => (q_one (qE T a τ)).bind fun x => (B.1 x.2.1).bind fun o => (C.1 x.2.2).bind fun q => q_joins o q
  | 28 => (q_one (qE T a τ)).bind fun x => (B.1 x.2.1).bind fun o => q_joins o (none, some x.2.2, none)
  | 12 => match lp_step b c with
    | some (i, u, c3) => bif (!c3 || nw i b) && i_is (τ.getD i (0, 0, 0)) then q_lp i u c3 (qE T a) B.1 7 (q_head i u τ) else none
    | none => none
  | 14 => some (none, some τ, none)
  | 15 => some (none, none, some τ)
  | 16 => (qE T a τ).bind fun x => bif i_subs x.1 rt then some (none, none, none) else none
  | 27 => (qE T a τ).bind fun x => bif i_subs x.1 rt && i_subs x.1 [q_bool] then some (none, none, none) else none
  | 17 => bif rt.isEmpty then some (none, none, none) else none
  | 19 => (q_one (qE T a τ)).bind fun _ => (B.2 τ).bind fun o => (q_join o.1 o.2.1).bind fun e => some (e, none, o.2.2)
  | 20 => A.1 τ
  | _ => none,
  fun τ => match t with
  | 25 => (B.1 τ).bind fun o => bif o.1.isNone then (C.2 τ).bind fun q => q_joins o q else none
  | 26 => A.1 τ
  | _ => none)
def qS (T : QT) (rt : List IT) : SX → (List IT → Option QTB) × (List IT → Option QTB)
  | .op (.var t) (.op a (.op b c)) => qSN T rt t a b c (qS T rt a) (qS T rt b) (qS T rt c)
  | _ => (fun _ => none, fun _ => none)
/-- a method_w by itself_w; one that is_w a single answer_w may_w say_w what its truth says_w -/
def q_ret (T : QT) (f : Nat) (b : SX) (τ : List IT) : Bool := match b with
  | .op (.var 27) (.op a (.op _ _)) => (match qE T a τ with
    | some (us, τt, _) => i_subs us (qR T f) && i_subs us [q_bool] && i_subs (τt.take (qP T f).length) (qU T f)
    | none => false)
  | _ => false
def qM (T : QT) (M : Nat → XM) (f : Nat) : Bool :=
  let τ := j_pad (0, 0, 0) (M f).2.1 (qP T f)
  (M f).2.2.1.all (fun k => !(k == 2)) && (M f).2.2.1.length == (qP T f).length && Nat.ble (qP T f).length (M f).2.1 &&
  (q_ret T f (M f).2.2.2.2 τ || (i_subs (qP T f) (qU T f) && (match (qS T (qR T f) (M f).2.2.2.2).1 τ with
    | some (none, none, none) => true
    | _ => false)))
/-! ===== the fourth reading_w of statements is_w right ===== -/
def OutQ (P : Int × Int) (rt : List IT) (o : QTB) (c : Nat) (vals_w en' : List Int) : Prop :=
  (c = 0 ∧ ∃ τ', o.1 = some τ' ∧ IL P τ' en') ∨ (c = 1 ∧ IL P rt vals_w) ∨ (c = 2 ∧ ∃ τ', o.2.1 = some τ' ∧ IL P τ' en') ∨ (c = 3 ∧ ∃ τ', o.2.2 = some τ' ∧ IL P τ' en')
def TotQ (P : Int × Int) (T : QT) (J : XH → Prop) (g : Nat × Nat) (rt τ : List IT) (o : QTB) (A : XR) : Prop :=
  ∀ (en : List Int) (h : XH), QK P T J h → IL P τ en → ∃ c vals_w en' h', A en ((a_g3, g), h) = some (c, vals_w, en', ((a_g3, g), h')) ∧ QK P T J h' ∧ KR T h h' ∧ OutQ P rt o c vals_w en'
def TotK (P : Int × Int) (T : QT) (J : XH → Prop) (g : Nat × Nat) (rt τ : List IT) (o : QTB) (A : XR) : Prop :=
  ∀ (v : Int) (en : List Int) (h : XH), QK P T J h → IL P τ en → ∃ c vals_w en' h', A (v :: en) ((a_g3, g), h) = some (c, vals_w, en', ((a_g3, g), h')) ∧ QK P T J h' ∧ KR T h h' ∧ OutQ P rt o c vals_w en'
/-- what stands in x stands in y -/
def leJ (P : Int × Int) (x y : Option (List IT)) : Prop := ∀ τ, x = some τ → ∃ τ', y = some τ' ∧ ∀ en, IL P τ en → IL P τ' en
def leQ (P : Int × Int) (x y : QTB) : Prop := leJ P x.1 y.1 ∧ leJ P x.2.1 y.2.1 ∧ leJ P x.2.2 y.2.2
section QS_w
variable {xs : Nat → Int} {L K : Nat} {ck : Nat → List Nat} {F : XP} {cW : Nat → Nat → Int} {P : Int × Int} {T : QT} {J : XH → Prop} {g : Nat × Nat} {rt τ : List IT} {o q r : QTB}
theorem leJ.rf {x : Option (List IT)} : leJ P x x := fun τ e => ⟨τ, e, fun _ h => h⟩
theorem leJ.no {x : Option (List IT)} : leJ P none x := fun τ e => by cases e
theorem qjoin_l {x y z : Option (List IT)} (h : q_join x y = some z) : leJ P x z := by
  unfold q_join at h
  split at h
  · exact leJ.no
  · cases h; exact leJ.rf
  · obtain ⟨h1, h⟩ := b_if h
    cases h
    exact fun τ e => by cases e; exact ⟨_, rfl, fun en hv => zip_l (fun _ _ _ => ilub_l) (by simpa using h1) hv⟩
theorem qjoin_r {x y z : Option (List IT)} (h : q_join x y = some z) : leJ P y z := by
  unfold q_join at h
  split at h
  · cases h; exact leJ.rf
  · exact leJ.no
  · obtain ⟨h1, h⟩ := b_if h
    cases h
    exact fun τ e => by cases e; exact ⟨_, rfl, fun en hv => zip_r (fun _ _ _ => ilub_r) (by simpa using h1) hv⟩
theorem qjoins_l {x y z : QTB} (h : q_joins x y = some z) : leQ P x z := by
  obtain ⟨a, h1, h⟩ := j_bd h
  obtain ⟨b, h2, h⟩ := j_bd h
  obtain ⟨c, h3, h⟩ := j_bd h
  cases h
  exact ⟨qjoin_l h1, qjoin_l h2, qjoin_l h3⟩
theorem qjoins_r {x y z : QTB} (h : q_joins x y = some z) : leQ P y z := by
  obtain ⟨a, h1, h⟩ := j_bd h
  obtain ⟨b, h2, h⟩ := j_bd h
  obtain ⟨c, h3, h⟩ := j_bd h
  cases h
  exact ⟨qjoin_r h1, qjoin_r h2, qjoin_r h3⟩
theorem OutQ.mono {c : Nat} {vals_w en' : List Int} (hle : leQ P o q) (h : OutQ P rt o c vals_w en') : OutQ P rt q c vals_w en' := by
  rcases h with ⟨h1, τ, h3, h4⟩ | h | ⟨h1, τ, h3, h4⟩ | ⟨h1, τ, h3, h4⟩
  · obtain ⟨τ', e1_w, e2_w⟩ := hle.1 τ h3
    exact Or.inl ⟨h1, τ', e1_w, e2_w _ h4⟩
  · exact Or.inr (Or.inl h)
  · obtain ⟨τ', e1_w, e2_w⟩ := hle.2.1 τ h3
    exact Or.inr (Or.inr (Or.inl ⟨h1, τ', e1_w, e2_w _ h4⟩))
  · obtain ⟨τ', e1_w, e2_w⟩ := hle.2.2 τ h3
    exact Or.inr (Or.inr (Or.inr ⟨h1, τ', e1_w, e2_w _ h4⟩))
theorem qs_skip : TotQ P T J g rt τ (some τ, none, none) (fun en st => some (0, [], en, st)) := fun en h hQ hv => ⟨0, [], en, h, rfl, hQ, KR.rf, Or.inl ⟨rfl, τ, rfl, hv⟩⟩
theorem qs_brk : TotQ P T J g rt τ (none, some τ, none) (fun en st => some (2, [], en, st)) := fun en h hQ hv => ⟨2, [], en, h, rfl, hQ, KR.rf, Or.inr (Or.inr (Or.inl ⟨rfl, τ, rfl, hv⟩))⟩
theorem qs_cnt : TotQ P T J g rt τ (none, none, some τ) (fun en st => some (3, [], en, st)) := fun en h hQ hv => ⟨3, [], en, h, rfl, hQ, KR.rf, Or.inr (Or.inr (Or.inr ⟨rfl, τ, rfl, hv⟩))⟩
theorem qs_seq {A B : XR} (hA : TotQ P T J g rt τ o A) (hB_w : ∀ τ1, o.1 = some τ1 → TotQ P T J g rt τ1 q B) (hl : leQ P (none, o.2) r) (hr : o.1 ≠ none → leQ P q r) : TotQ P T J g rt τ r (s_seq A B) := by
  intro en h hQ hv
  obtain ⟨c, vals_w, en', h', e1_w, e2_w, e3_w, e4_w⟩ := hA en h hQ hv
  unfold s_seq
  rw [e1_w, Option.bind_some]
  dsimp only
  rcases e4_w with ⟨rfl, τ1, k1_w, k2⟩ | ⟨rfl, k⟩ | ⟨rfl, k⟩ | ⟨rfl, k⟩
  · rw [if_pos rfl]
    obtain ⟨c, vals_w, en2, h2, f1_w, f2_w, f3_w, f4_w⟩ := hB_w τ1 k1_w en' h' e2_w k2
    exact ⟨c, vals_w, en2, h2, f1_w, f2_w, e3_w.tr f3_w, f4_w.mono (hr (by rw [k1_w]; exact fun e => by cases e))⟩
  · exact ⟨1, vals_w, en', h', rfl, e2_w, e3_w, OutQ.mono hl (Or.inr (Or.inl ⟨rfl, k⟩))⟩
  · exact ⟨2, vals_w, en', h', rfl, e2_w, e3_w, OutQ.mono hl (Or.inr (Or.inr (Or.inl ⟨rfl, k⟩)))⟩
  · exact ⟨3, vals_w, en', h', rfl, e2_w, e3_w, OutQ.mono hl (Or.inr (Or.inr (Or.inr ⟨rfl, k⟩)))⟩
theorem qs_if {A : XE} {B C : XR} {t : IT} {τt τf : List IT} (hA : TotI P T J g τ [t] τt τf A) (hB_w : TotQ P T J g rt τt o B) (hC : TotQ P T J g rt τf q C) (h1 : leQ P o r) (h2 : leQ P q r) : TotQ P T J g rt τ r (s_if A B C) := by
  intro en h hQ hv
  obtain ⟨v, h', e1_w, e2_w, e3_w, e4_w, e5_w, e6_w⟩ := qi_one hA hQ hv
  unfold s_if
  rw [e1_w, Option.bind_some]
  dsimp only
  by_cases h0 : v = 0
  · rw [if_pos (show j_hd [v] = 0 from h0)]
    obtain ⟨c, vals_w, en2, h2', f1_w, f2_w, f3_w, f4_w⟩ := hC en h' e2_w (e6_w h0)
    exact ⟨c, vals_w, en2, h2', f1_w, f2_w, e3_w.tr f3_w, f4_w.mono h2⟩
  · rw [if_neg (show ¬ j_hd [v] = 0 from h0)]
    obtain ⟨c, vals_w, en2, h2', f1_w, f2_w, f3_w, f4_w⟩ := hB_w en h' e2_w (e5_w h0)
    exact ⟨c, vals_w, en2, h2', f1_w, f2_w, e3_w.tr f3_w, f4_w.mono h1⟩
theorem qs_sw {A : XE} {B : XR} {t : IT} {τt τf : List IT} {e : Option (List IT)} (hA : TotI P T J g τ [t] τt τf A) (hB_w : TotK P T J g rt τ o B) (hj : q_join o.1 o.2.1 = some e) : TotQ P T J g rt τ (e, none, o.2.2) (s_sw A B) := by
  intro en h hQ hv
  obtain ⟨v, h', e1_w, e2_w, e3_w, -, -, -⟩ := qi_one hA hQ hv
  obtain ⟨c, vals_w, en2, h2, f1_w, f2_w, f3_w, f4_w⟩ := hB_w v en h' e2_w hv
  unfold s_sw
  rw [e1_w, Option.bind_some]
  dsimp only
  rw [show j_hd [v] = v from rfl, f1_w, Option.bind_some]
  dsimp only
  rcases f4_w with ⟨rfl, τ1, k1_w, k2⟩ | ⟨rfl, k⟩ | ⟨rfl, τ1, k1_w, k2⟩ | ⟨rfl, k⟩
  · obtain ⟨τ2, j1, j2_w⟩ := qjoin_l (P := P) hj τ1 k1_w
    exact ⟨0, vals_w, en2, h2, rfl, f2_w, e3_w.tr f3_w, Or.inl ⟨rfl, τ2, j1, j2_w _ k2⟩⟩
  · exact ⟨1, vals_w, en2, h2, rfl, f2_w, e3_w.tr f3_w, Or.inr (Or.inl ⟨rfl, k⟩)⟩
  · obtain ⟨τ2, j1, j2_w⟩ := qjoin_r (P := P) hj τ1 k1_w
    exact ⟨0, vals_w, en2, h2, rfl, f2_w, e3_w.tr f3_w, Or.inl ⟨rfl, τ2, j1, j2_w _ k2⟩⟩
  · exact ⟨3, vals_w, en2, h2, rfl, f2_w, e3_w.tr f3_w, Or.inr (Or.inr (Or.inr ⟨rfl, k⟩))⟩
theorem qs_case {l : List Nat} {B C : XR} (hB_w : TotQ P T J g rt τ o B) (h0 : o.1 = none) (hC : TotK P T J g rt τ q C) (h1 : leQ P o r) (h2 : leQ P q r) : TotK P T J g rt τ r (fun en st => if l.any (fun n => decide (en.headD 0 = sx_z n)) then (B en.tail st).bind fun r => if r.1 = 0 then none else some r else C en st) := by
  intro v en h hQ hv
  dsimp only
  split
  · obtain ⟨c, vals_w, en2, h2', f1_w, f2_w, f3_w, f4_w⟩ := hB_w en h hQ hv
    have hc_w : c ≠ 0 := by
      rintro rfl
      rcases f4_w with ⟨-, τ1, k1_w, -⟩ | ⟨k, -⟩ | ⟨k, -⟩ | ⟨k, -⟩
      · rw [h0] at k1_w; cases k1_w
      · cases k
      · cases k
      · cases k
    refine ⟨c, vals_w, en2, h2', ?_, f2_w, f3_w, f4_w.mono h1⟩
    show ((B en ((a_g3, g), h)).bind _) = _
    rw [f1_w, Option.bind_some]
    exact if_neg hc_w
  · obtain ⟨c, vals_w, en2, h2', f1_w, f2_w, f3_w, f4_w⟩ := hC v en h hQ hv
    exact ⟨c, vals_w, en2, h2', f1_w, f2_w, f3_w, f4_w.mono h2⟩
/-- a loop_w whose head_w keeps_w what is_w known_w and whose counter_w goes_w its way_w -/
theorem qlp_run {i : Nat} {u : Bool} {τ1 : List IT} {x : Option (List IT)} {C'_w : XE} {B' P'_w : XR} (hin : ∀ en, IL P τ1 en → InI (en.getD i 0))
    (hC : ∀ en h, IL P τ1 en → QK P T J h → ∃ v h', C'_w en ((a_g3, g), h) = some ([v], ((a_g3, g), h')) ∧ QK P T J h' ∧ KR T h h' ∧ (v = 0 → ∃ τ', x = some τ' ∧ IL P τ' en) ∧
      (v ≠ 0 → (if u = true then en.getD i 0 < 2147483647 else 0 ≤ en.getD i 0) ∧ ∃ c vals_w en' h2, B' en ((a_g3, g), h') = some (c, vals_w, en', ((a_g3, g), h2)) ∧ QK P T J h2 ∧ KR T h' h2 ∧
      (((c = 0 ∨ c = 3) ∧ ∃ en2, P'_w en' ((a_g3, g), h2) = some (0, [], en2, ((a_g3, g), h2)) ∧ IL P τ1 en2 ∧ en2.getD i 0 = j32 (en.getD i 0 + dir u)) ∨ (c = 2 ∧ ∃ τ', x = some τ' ∧ IL P τ' en') ∨ (c = 1 ∧ IL P rt vals_w)))) :
    ∀ (k m : Nat) (en : List Int) (h : XH), IL P τ1 en → QK P T J h → mea u (en.getD i 0) ≤ m → m < k → ∃ c vals_w en' h', s_loop C'_w B' P'_w k en ((a_g3, g), h) = some (c, vals_w, en', ((a_g3, g), h')) ∧ QK P T J h' ∧ KR T h h' ∧ OutQ P rt (x, none, none) c vals_w en' := by
  intro k
  induction k with
  | zero => exact fun m en h _ _ _ hk => absurd hk (by omega)
  | succ k ih_w =>
    intro m en h hv hQ hm_w hk
    obtain ⟨v, h2, e1_w, e2_w, e3_w, e4_w, e5_w⟩ := hC en h hv hQ
    by_cases hv0 : v = 0
    · obtain ⟨τ', x1_w, x2_w⟩ := e4_w hv0
      refine ⟨0, [], en, h2, ?_, e2_w, e3_w, Or.inl ⟨rfl, τ', x1_w, x2_w⟩⟩
      unfold s_loop
      rw [e1_w, Option.bind_some]
      exact if_pos hv0
    · obtain ⟨e6_w, c, vals_w, en', h3, f1_w, f2_w, f3_w, f4_w⟩ := e5_w hv0
      have hs : s_loop C'_w B' P'_w (k + 1) en ((a_g3, g), h) = (if c = 0 ∨ c = 3 then (P'_w en' ((a_g3, g), h3)).bind fun q => if q.1 = 0 then s_loop C'_w B' P'_w k q.2.2.1 q.2.2.2 else none else if c = 2 then some (0, [], en', ((a_g3, g), h3)) else some (c, vals_w, en', ((a_g3, g), h3))) := by
        conv => lhs; unfold s_loop
        rw [e1_w, Option.bind_some]
        refine (if_neg hv0).trans ?_
        dsimp only
        rw [f1_w, Option.bind_some]
      rcases f4_w with ⟨hc_w, en2, p1_w, p2_w, p3_w⟩ | ⟨rfl, τ', p1_w, p2_w⟩ | ⟨rfl, p1_w⟩
      · have hml := mea_lt (hin en hv) e6_w
        cases m with
        | zero => exact absurd hml (by omega)
        | succ m =>
          obtain ⟨c9, v9, n9, h9, q1_w, q2_w, q3_w, q4_w⟩ := ih_w m en2 h3 p2_w f2_w (by rw [p3_w]; omega) (by omega)
          refine ⟨c9, v9, n9, h9, ?_, q2_w, (e3_w.tr f3_w).tr q3_w, q4_w⟩
          rw [hs, if_pos hc_w, p1_w, Option.bind_some]
          exact q1_w
      · refine ⟨0, [], en', h3, ?_, f2_w, e3_w.tr f3_w, Or.inl ⟨rfl, τ', p1_w, p2_w⟩⟩
        rw [hs]
        rfl
      · refine ⟨1, vals_w, en', h3, ?_, f2_w, e3_w.tr f3_w, Or.inr (Or.inl ⟨rfl, p1_w⟩)⟩
        rw [hs]
        rfl
theorem InI_of {t : IT} {v : Int} (h : i_is t = true) (hv : IV P t v) : InI v := (IV.int h hv).2.2
theorem IL_setD {i : Nat} {en : List Int} {l : List IT} (hi_w : i < l.length) (hv : IL P l en) (v : Int) : (en.set i v).getD i 0 = v := t_setD (by rw [IL.len hv]; exact hi_w)
theorem qlp_ok {i : Nat} {u c3 : Bool} {TA : List IT → QO} {TB : List IT → Option QTB} {C'_w : XE} {B' P'_w : XR} (hK_w : 4294967300 ≤ K)
    (hA : ∀ τ us τt τf, TA τ = some (us, τt, τf) → TotI P T J g τ us τt τf C'_w)
    (hB_w : c3 = true → ∀ τ o, TB τ = some o → TotQ P T J g rt τ o B')
    (hN_w : c3 = true → KpL i B')
    (hP : c3 = true → ∀ en st, P'_w en st = some (0, [], en.set i (j32 (en.getD i 0 + dir u)), st))
    (hB2 : c3 = false → ∀ en st, B' en st = some (0, [], en.set i (j32 (en.getD i 0 + dir u)), st))
    (hP2 : c3 = false → ∀ en st, P'_w en st = some (0, [], en, st)) : ∀ (n : Nat) (τ : List IT) (o : QTB), q_lp i u c3 TA TB n τ = some o → TotQ P T J g rt τ o (s_loop C'_w B' P'_w K)
  | 0, _, _, h => by cases h
  | n + 1, τ, o, h => by
    unfold q_lp at h
    obtain ⟨hi0_w, h⟩ : (Nat.blt i τ.length && i_is (τ.getD i (0, 0, 0))) = true ∧ _ = some o := by
      cases hb_w : Nat.blt i τ.length && i_is (τ.getD i (0, 0, 0)) with
      | true => rw [hb_w] at h; exact ⟨rfl, h⟩
      | false => rw [hb_w] at h; cases h
    rw [Bool.and_eq_true, Nat.blt_eq] at hi0_w
    obtain ⟨hi_w, hii⟩ := hi0_w
    obtain ⟨x, a1_w, h⟩ := j_bd h
    obtain ⟨a2, h⟩ := b_ifx h
    obtain ⟨ob, b1, h⟩ := j_bd h
    obtain ⟨e, b2, h⟩ := j_bd h
    obtain ⟨ex_w, b3, h⟩ := j_bd h
    rw [Bool.and_eq_true] at a2
    have hcond := hA _ _ _ _ (q_one_s a1_w)
    have hdir : ∀ v : Int, j_iop 0 v (dir u) = j32 (v + dir u) := fun _ => rfl
    have hdi : IV P (bif u then ((1, 1, 1) : IT) else (1, -1, -1)) (dir u) := by
      cases u
      · exact ⟨Int.le_refl _, Int.le_refl _, by decide, by decide⟩
      · exact ⟨Int.le_refl _, Int.le_refl _, by decide, by decide⟩
    have hin : ∀ en, IL P τ en → InI (en.getD i 0) := fun en hv => InI_of hii (IL.at i hv)
    have main_w : (∀ w, e = some w → i_subs (w.set i (i_op 0 (x.2.1.getD i (0, 0, 0)) (bif u then (1, 1, 1) else (1, -1, -1)))) τ = true) → TotQ P T J g rt τ (ex_w, none, none) (s_loop C'_w B' P'_w K) := by
      intro hw en h hQ hv
      refine qlp_run (x := ex_w) (u := u) (i := i) hin (fun en h hv hQ => ?_) K _ en h hv hQ (Nat.le_refl _) (Nat.lt_of_lt_of_le (mea_b (hin en hv)) hK_w)
      obtain ⟨v, h', e1_w, e2_w, e3_w, -, e5_w, e6_w⟩ := qi_one hcond hQ hv
      refine ⟨v, h', e1_w, e2_w, e3_w, fun h0 => ?_, fun h0 => ?_⟩
      · obtain ⟨τ', j1, j2_w⟩ := qjoin_l (P := P) b3 _ rfl
        exact ⟨τ', j1, j2_w _ (e6_w h0)⟩
      · have hvt := e5_w h0
        have hat := IL.at i hvt
        obtain ⟨w1_w, w2_w, w3_w⟩ := IV.int a2.1 hat
        refine ⟨?_, ?_⟩
        · cases u with
          | true =>
            have := a2.2
            simp only [cond_true, decide_eq_true_eq] at this
            rw [if_pos rfl]
            omega
          | false =>
            have := a2.2
            simp only [cond_false, decide_eq_true_eq] at this
            rw [if_neg (by decide)]
            omega
        · have back : ∀ (τ3 : List IT) (en1 : List Int), (ob.1 = some τ3 ∨ ob.2.2 = some τ3) → IL P τ3 en1 → en1.getD i 0 = en.getD i 0 → IL P τ (en1.set i (j32 (en1.getD i 0 + dir u))) ∧ (en1.set i (j32 (en1.getD i 0 + dir u))).getD i 0 = j32 (en.getD i 0 + dir u) := by
            intro τ3 en1 h3 hv3 heq
            obtain ⟨w, j1, j2_w⟩ : ∃ w, e = some w ∧ ∀ en, IL P τ3 en → IL P w en := by
              rcases h3 with h3 | h3
              · exact qjoin_l (P := P) b2 _ h3
              · exact qjoin_r (P := P) b2 _ h3
            have hs := hw w j1
            have hlen : w.length = τ.length := by
              have := isubs_len hs
              rwa [List.length_set] at this
            have hvw := j2_w _ hv3
            refine ⟨IL.sub hs (IL.set i hvw ?_), ?_⟩
            · rw [heq, ← hdir]
              exact i_op_ok hat hdi
            · rw [IL_setD (by omega) hvw, heq]
          cases c3 with
          | true =>
            have b1' : TB x.2.1 = some ob := b1
            obtain ⟨c, vals_w, en', h2, f1_w, f2_w, f3_w, f4_w⟩ := hB_w rfl _ _ b1' en h' e2_w hvt
            have hk := hN_w rfl _ _ _ _ _ _ f1_w
            refine ⟨c, vals_w, en', h2, f1_w, f2_w, f3_w, ?_⟩
            rcases f4_w with ⟨rfl, τ3, k1_w, k2⟩ | ⟨rfl, k⟩ | ⟨rfl, τ3, k1_w, k2⟩ | ⟨rfl, τ3, k1_w, k2⟩
            · obtain ⟨m1_w, m2_w⟩ := back τ3 en' (Or.inl k1_w) k2 hk
              exact Or.inl ⟨Or.inl rfl, _, hP rfl _ _, m1_w, m2_w⟩
            · exact Or.inr (Or.inr ⟨rfl, k⟩)
            · obtain ⟨τ', j1, j2_w⟩ := qjoin_r (P := P) b3 _ k1_w
              exact Or.inr (Or.inl ⟨rfl, τ', j1, j2_w _ k2⟩)
            · obtain ⟨m1_w, m2_w⟩ := back τ3 en' (Or.inr k1_w) k2 hk
              exact Or.inl ⟨Or.inr rfl, _, hP rfl _ _, m1_w, m2_w⟩
          | false =>
            have b1' : some (some x.2.1, none, none) = some ob := b1
            cases b1'
            obtain ⟨m1_w, m2_w⟩ := back x.2.1 en (Or.inl rfl) hvt rfl
            exact ⟨0, [], _, h', hB2 rfl _ _, e2_w, KR.rf, Or.inl ⟨Or.inl rfl, _, hP2 rfl _ _, m1_w, m2_w⟩⟩
    cases e with
    | none =>
      cases h
      exact main_w (fun w hw => by cases hw)
    | some w =>
      dsimp only at h
      cases hs : i_subs (w.set i (i_op 0 (x.2.1.getD i (0, 0, 0)) (bif u then (1, 1, 1) else (1, -1, -1)))) τ with
      | true =>
        rw [hs] at h
        cases h
        exact main_w (fun w' hw => by cases hw; exact hs)
      | false =>
        rw [hs, cond_false] at h
        obtain ⟨h1, h⟩ := b_ifx h
        have hlen : τ.length = (w.set i (i_op 0 (x.2.1.getD i (0, 0, 0)) (bif u then (1, 1, 1) else (1, -1, -1)))).length := by
          rw [List.length_set]
          simpa using h1
        have hz : ∀ (a b : IT) (v : Int), IV P a v → IV P ((bif Nat.ble n 2 then i_wid else i_lub) a b) v := fun a b v hv => by
          cases Nat.ble n 2
          · exact ilub_l hv
          · exact wid_l hv
        have ih_w := qlp_ok hK_w hA hB_w hN_w hP hB2 hP2 n _ _ h
        exact fun en h' hQ hv => ih_w en h' hQ (zip_l hz hlen hv)
end QS_w
end
section
/-! ===== the fourth reading_w: every statement, every method_w ===== -/
section QV
variable {xs : Nat → Int} {L K : Nat} {ck : Nat → List Nat} {F : XP} {cW : Nat → Nat → Int} {P : Int × Int} {T : QT} {J : XH → Prop} {g : Nat × Nat} {rt : List IT}
theorem this_eq {t : IT} {v : Int} (h : q_isThis t = true) (hv : IV P t v) : v = 182 := by
  simp only [q_isThis, Bool.and_eq_true, beq_iff_eq, decide_eq_true_eq] at h
  rw [iv4 h.1 hv, h.2]
theorem fld_HT (hT_w : RTab T) {h : XH} {k : Nat} {v : Int} (hH : HT g_fk a_g3 h) (hk : (qF T k).1 = 1 ∨ (qF T k).1 = 2) (hv : IV P (qF T k) v) : HT g_fk a_g3 (j_up h 182 k v) := by
  obtain ⟨c1_w, c2⟩ := hT_w.1 k
  generalize qF T k = t at hk hv c1_w c2
  obtain ⟨tt, l, u⟩ := t
  dsimp only at hk c1_w c2
  rcases hk with rfl | rfl
  · refine hH.up (fun _ => hv.2.2) (fun e => absurd ((c1_w rfl).symm.trans e) (by decide)) (fun e => absurd ((c1_w rfl).symm.trans e) (by decide))
  · refine hH.up (fun e => absurd ((c2 rfl).symm.trans e) (by decide)) (fun _ => hv.2.2) (fun e => absurd ((c2 rfl).symm.trans e) (by decide))
theorem arr_HT {h : XH} {q i : Nat} {w : IT} {v : Int} (hH : HT g_fk a_g3 h) (hc_w : ∀ k, c_ty g_fk a_g3 q k = r_kd q) (hk : q_kd q w = true) (hv : IV P w v) : HT g_fk a_g3 (j_up h q i v) := by
  unfold q_kd at hk
  split at hk
  · rename_i e
    refine hH.up (fun _ => InI_of hk hv) (fun e2_w => absurd ((hc_w i).symm.trans e2_w) (by rw [e]; decide)) (fun e2_w => absurd ((hc_w i).symm.trans e2_w) (by rw [e]; decide))
  · rename_i e
    obtain ⟨tt, l, u⟩ := w
    rw [beq_iff_eq] at hk
    dsimp only at hk
    subst hk
    refine hH.up (fun e2_w => absurd ((hc_w i).symm.trans e2_w) (by rw [e]; decide)) (fun _ => hv.2.2) (fun e2_w => absurd ((hc_w i).symm.trans e2_w) (by rw [e]; decide))
  · rename_i e
    refine hH.up (fun e2_w => absurd ((hc_w i).symm.trans e2_w) (by rw [e]; decide)) (fun e2_w => absurd ((hc_w i).symm.trans e2_w) (by rw [e]; decide)) (fun _ => iv_bool (IV.sub hk hv))
  · cases hk
theorem and1 {v : Int} (h : v = 0 ∨ v = 1) : (Int32.ofInt v &&& 1).toInt = v := by
  rcases h with rfl | rfl <;> decide
theorem ty_val (ty_w : Nat) (v : Int) : ty_w ≠ 8 → (ty_w = 9 → v = 0 ∨ v = 1) → (match ty_w with
  | 8 => ((Int32.ofInt v).toInt8.toInt32).toInt
  | 9 => (Int32.ofInt v &&& 1).toInt
  | _ => v) = v := by
  intro h8 h9
  match ty_w, h8, h9 with
  | 8, h8, _ => exact absurd rfl h8
  | 9, _, h9 => exact and1 (h9 rfl)
  | 0, _, _ => rfl
  | 1, _, _ => rfl
  | 2, _, _ => rfl
  | 3, _, _ => rfl
  | 4, _, _ => rfl
  | 5, _, _ => rfl
  | 6, _, _ => rfl
  | 7, _, _ => rfl
  | n + 10, _, _ => rfl
theorem qS_ok (hT_w : RTab T) (hJ : JS T J) (hF : ∀ f, qC T f = true → TotR P T J g F f) (hW : TotW g F) (hB_w : TotB P T J g F) (hK_w : 4294967300 ≤ K) : ∀ (t : SX),
    (∀ τ o, (qS T rt t).1 τ = some o → TotQ P T J g rt τ o (evS xs L ck F K cW t)) ∧ (∀ τ o, (qS T rt t).2 τ = some o → TotK P T J g rt τ o (evS xs L ck F K cW t))
  | .op (.var t) (.op a (.op b c)) => by
    have iA := qS_ok hT_w hJ hF hW hB_w hK_w a
    have iB_w := qS_ok hT_w hJ hF hW hB_w hK_w b
    have iC := qS_ok hT_w hJ hF hW hB_w hK_w c
    have e := fun t τ us τt τf h => q_ok (xs := xs) (L := L) (ck := ck) (cW := cW) hT_w hF hW hB_w t τ us τt τf h
    have e1_w : ∀ (t : SX) τ x, q_one (qE T t τ) = some x → TotI P T J g τ [x.1] x.2.1 x.2.2 (evE xs L ck F cW t) := fun t τ x h => e t τ _ _ _ (q_one_s h)
    constructor
    · intro τ o h
      show TotQ P T J g rt τ o (nodeS xs L ck F K cW t a b c (evS xs L ck F K cW a) (evS xs L ck F K cW b) (evS xs L ck F K cW c))
      have h : (qSN T rt t a b c (qS T rt a) (qS T rt b) (qS T rt c)).1 τ = some o := h
      unfold qSN at h
      dsimp only at h
      split at h
      · cases h; exact qs_skip
      · cases h; exact qs_skip
      · obtain ⟨o1, h1, h⟩ := j_bd h
        have hA := iA.1 τ o1 h1
        split at h
        · rename_i hn
          cases h
          exact qs_seq (q := o) hA (fun τ1 k => by rw [hn] at k; cases k) ⟨leJ.no, leJ.rf, leJ.rf⟩ (fun k => absurd hn k)
        · rename_i τ1 hn
          obtain ⟨q, h2, h⟩ := j_bd h
          exact qs_seq hA (fun τ2 k => by rw [hn] at k; cases k; exact iB_w.1 τ1 q h2) (qjoins_l h) (fun _ => qjoins_r h)
      · obtain ⟨x, h1, h⟩ := j_bd h
        cases h
        intro en hh hQ hv
        obtain ⟨v, h', f1_w, f2_w, f3_w, f4_w, -⟩ := qi_one (e1_w b τ x h1) hQ hv
        refine ⟨0, [], en.set (sx_n a) v, h', ?_, f2_w, f3_w, Or.inl ⟨rfl, _, rfl, IL.set (sx_n a) hv f4_w⟩⟩
        show (evE xs L ck F cW b en _).bind _ = _
        rw [f1_w]
        rfl
      · obtain ⟨h1, h⟩ := b_if h
        cases h
        rw [beq_iff_eq] at h1
        intro en hh hQ hv
        refine ⟨0, [], _, hh, rfl, hQ, KR.rf, Or.inl ⟨rfl, _, rfl, IL.set (sx_n a) hv ?_⟩⟩
        rw [h1]
        by_cases hc_w : sx_n c = 0
        · rw [if_pos hc_w, show (sx_n c == 0) = true from by rw [beq_iff_eq]; exact hc_w]
          exact i_op_ok (op_w := 0) (IL.at _ hv) (b := (1, 1, 1)) ⟨Int.le_refl _, Int.le_refl _, by decide, by decide⟩
        · rw [if_neg hc_w, show (sx_n c == 0) = false from by rw [beq_eq_false_iff_ne]; exact hc_w]
          exact i_op_ok (op_w := 0) (IL.at _ hv) (b := (1, -1, -1)) ⟨Int.le_refl _, Int.le_refl _, by decide, by decide⟩
      · obtain ⟨x, h1, h⟩ := j_bd h
        obtain ⟨y, h2, h⟩ := j_bd h
        obtain ⟨h3, h⟩ := b_if h
        cases h
        simp only [Bool.and_eq_true, Bool.or_eq_true, beq_iff_eq] at h3
        intro en hh hQ hv
        obtain ⟨v, ha_w, a1_w, a2, a3, a4, -⟩ := qi_one (e1_w a τ x h1) hQ hv
        obtain ⟨w, hb_w, b1, b2, b3, b4, -⟩ := qi_one (e1_w b τ y h2) a2 hv
        have ev_w := this_eq h3.1.1 a4
        subst ev_w
        have hw := IV.sub h3.2 b4
        refine ⟨0, [], en, j_up hb_w 182 (sx_n c) w, ?_, ⟨fld_HT hT_w b2.1 h3.1.2 hw, RI.fld hJ hT_w.2.2.2 b2.2 hw⟩, (a3.tr b3).tr (KR.up hT_w.2.2.2), Or.inl ⟨rfl, _, rfl, hv⟩⟩
        show s_putf _ _ _ en _ = _
        unfold s_putf
        rw [a1_w, Option.bind_some, b1]
        rfl
      · obtain ⟨x, h1, h⟩ := j_bd h
        obtain ⟨y, h2, h⟩ := j_bd h
        obtain ⟨h3, h⟩ := b_if h
        cases h
        simp only [Bool.and_eq_true, beq_iff_eq] at h3
        intro en hh hQ hv
        obtain ⟨v, ha_w, a1_w, a2, a3, a4, -⟩ := qi_one (e1_w a τ x h1) hQ hv
        obtain ⟨w, hb_w, b1, b2, b3, b4, -⟩ := qi_one (e1_w b τ y h2) a2 hv
        have ev_w := this_eq h3.1.1 a4
        subst ev_w
        have hw := IV.sub h3.2 (i_op_ok (op_w := sx_n c % 16) (a2.2.1 (sx_n c / 16)) b4)
        refine ⟨0, [], en, j_up hb_w 182 (sx_n c / 16) (j_iop (sx_n c % 16) (ha_w 182 (sx_n c / 16)) w), ?_, ⟨fld_HT hT_w b2.1 (Or.inl h3.1.2) hw, RI.fld hJ hT_w.2.2.2 b2.2 hw⟩, (a3.tr b3).tr (KR.up hT_w.2.2.2), Or.inl ⟨rfl, _, rfl, hv⟩⟩
        show s_putfC _ _ _ _ en _ = _
        unfold s_putfC
        rw [a1_w, Option.bind_some, b1]
        rfl
      · match c, h with
        | .op (.var ty_w) v, h =>
          obtain ⟨x, h1, h⟩ := j_bd h
          obtain ⟨y, h2, h⟩ := j_bd h
          obtain ⟨z, h3, h⟩ := j_bd h
          obtain ⟨h4, h⟩ := b_if h
          cases h
          simp only [q_arr, Bool.and_eq_true, Bool.or_eq_true, Bool.not_eq_true', beq_iff_eq, beq_eq_false_iff_ne, decide_eq_true_eq] at h4
          obtain ⟨⟨⟨⟨⟨⟨⟨q1_w, q2_w⟩, q3_w⟩, q4_w⟩, q5_w⟩, q6_w⟩, q7_w⟩, q8_w⟩ := h4
          intro en hh hQ hv
          obtain ⟨va, ha_w, a1_w, a2, a3, a4, -⟩ := qi_one (e1_w a τ x h1) hQ hv
          obtain ⟨vb, hb_w, b1, b2, b3, b4, -⟩ := qi_one (e1_w b τ y h2) a2 hv
          obtain ⟨vc, hc_w, c1_w, c2, c3, c4, -⟩ := qi_one (e1_w v τ z h3) b2 hv
          have ev_w := iv4 q1_w a4
          obtain ⟨k1_w, k2, k3, k4⟩ := hT_w.2.2.1 x.1.2.1.toNat (by omega) (by omega)
          have hst : (match ar_ld (qA T x.1.2.1.toNat) y.1 with
            | some _ => true
            | none => false) = true := by
            unfold ar_st at q5_w
            rw [Bool.and_eq_true] at q5_w
            exact q5_w.1
          cases hl : ar_ld (qA T x.1.2.1.toNat) y.1 with
          | none => rw [hl] at hst; cases hst
          | some u =>
            obtain ⟨i0, i1_w, -⟩ := ar_ld_ok (c2.2.2.1 x.1.2.1.toNat (by omega)) k2 hl b4
            refine ⟨0, [], en, j_up hc_w x.1.2.1.toNat vb.toNat vc, ?_, ⟨arr_HT c2.1 k4 q6_w c4, RI.arr hJ q4_w c2.2 (by omega) k3 q5_w b4 c4⟩, ((a3.tr b3).tr c3).tr (KR.up q4_w), Or.inl ⟨rfl, _, rfl, hv⟩⟩
            show s_ast ty_w _ _ _ en _ = _
            unfold s_ast
            rw [a1_w, Option.bind_some, b1, Option.bind_some, c1_w, Option.bind_some]
            have e3_w : (j_hd [va]).toNat = x.1.2.1.toNat := by rw [← ev_w]; rfl
            dsimp only
            rw [if_pos ⟨i0, by
              show vb < j_len a_g3 (j_hd [va]).toNat
              rw [e3_w, k1_w]
              exact i1_w⟩, e3_w]
            exact congrArg (fun z => some (0, ([] : List Int), en, ((a_g3, g), j_up hc_w x.1.2.1.toNat vb.toNat z))) (ty_val ty_w vc q7_w (fun k => iv_bool (IV.sub (q8_w.resolve_left (fun k2 => k2 k)) c4)))
        | .var _, h => cases h
        | .op (.op _ _) _, h => cases h
      · match c, h with
        | .op (.var op_w) v, h =>
          obtain ⟨x, h1, h⟩ := j_bd h
          obtain ⟨y, h2, h⟩ := j_bd h
          obtain ⟨z, h3, h⟩ := j_bd h
          obtain ⟨u, h5, h⟩ := j_bd h
          obtain ⟨h4, h⟩ := b_if h
          cases h
          simp only [q_arr, Bool.and_eq_true, beq_iff_eq, decide_eq_true_eq] at h4
          obtain ⟨⟨⟨⟨⟨q1_w, q2_w⟩, q3_w⟩, q4_w⟩, q5_w⟩, q6_w⟩ := h4
          intro en hh hQ hv
          obtain ⟨va, ha_w, a1_w, a2, a3, a4, -⟩ := qi_one (e1_w a τ x h1) hQ hv
          obtain ⟨vb, hb_w, b1, b2, b3, b4, -⟩ := qi_one (e1_w b τ y h2) a2 hv
          obtain ⟨vc, hc_w, c1_w, c2, c3, c4, -⟩ := qi_one (e1_w v τ z h3) b2 hv
          have ev_w := iv4 q1_w a4
          obtain ⟨k1_w, k2, k3, k4⟩ := hT_w.2.2.1 x.1.2.1.toNat (by omega) (by omega)
          obtain ⟨i0, i1_w, i2_w⟩ := ar_ld_ok (b2.2.2.1 x.1.2.1.toNat (by omega)) k2 h5 b4
          have e3_w : (j_hd [va]).toNat = x.1.2.1.toNat := by rw [← ev_w]; rfl
          have hop := i_op_ok (op_w := op_w) i2_w c4
          refine ⟨0, [], en, j_up hc_w x.1.2.1.toNat vb.toNat (j_iop op_w (hb_w x.1.2.1.toNat vb.toNat) vc), ?_, ⟨?_, RI.arr hJ q4_w c2.2 (by omega) k3 q5_w b4 hop⟩, ((a3.tr b3).tr c3).tr (KR.up q4_w), Or.inl ⟨rfl, _, rfl, hv⟩⟩
          · show s_astC op_w _ _ _ en _ = _
            unfold s_astC
            rw [a1_w, Option.bind_some, b1, Option.bind_some]
            have hl : j_hd [vb] < j_len a_g3 (j_hd [va]).toNat := by
              rw [e3_w, k1_w]
              exact i1_w
            dsimp only
            rw [if_pos ⟨i0, hl⟩, c1_w, Option.bind_some]
            dsimp only
            rw [if_pos hl, e3_w]
            rfl
          · exact c2.1.up (fun _ => iop_in _ _ _) (fun e2_w => absurd ((k4 _).symm.trans e2_w) (by rw [q6_w]; decide)) (fun e2_w => absurd ((k4 _).symm.trans e2_w) (by rw [q6_w]; decide))
        | .var _, h => cases h
        | .op (.op _ _) _, h => cases h
      · obtain ⟨x, h1, h⟩ := j_bd h
        cases h
        intro en hh hQ hv
        obtain ⟨v, h', f1_w, f2_w, f3_w, -⟩ := e a τ _ _ _ (show qE T a τ = some (x.1, x.2.1, x.2.2) from h1) en hh hQ hv
        refine ⟨0, [], en, h', ?_, f2_w, f3_w, Or.inl ⟨rfl, _, rfl, hv⟩⟩
        show (evE xs L ck F cW a en _).bind _ = _
        rw [f1_w]
        rfl
      · obtain ⟨x, h1, h⟩ := j_bd h
        obtain ⟨o1, h2, h⟩ := j_bd h
        exact qs_if (e1_w a τ x h1) (iB_w.1 _ o1 h2) qs_skip (qjoins_l h) (qjoins_r h)
      · obtain ⟨x, h1, h⟩ := j_bd h
        obtain ⟨o1, h2, h⟩ := j_bd h
        obtain ⟨o2, h3, h⟩ := j_bd h
        exact qs_if (e1_w a τ x h1) (iB_w.1 _ o1 h2) (iC.1 _ o2 h3) (qjoins_l h) (qjoins_r h)
      · obtain ⟨x, h1, h⟩ := j_bd h
        obtain ⟨o1, h2, h⟩ := j_bd h
        exact qs_if (e1_w a τ x h1) (iB_w.1 _ o1 h2) qs_brk (qjoins_l h) (qjoins_r h)
      · split at h
        · rename_i i u c3 hst
          obtain ⟨h1, h⟩ := b_ifx h
          obtain ⟨p1_w, p2_w, p3_w⟩ := step_ok (xs := xs) (L := L) (ck := ck) (F := F) (K := K) (cW := cW) hst
          rw [Bool.and_eq_true] at h1
          obtain ⟨h1, h0⟩ := h1
          intro en hh hQ hv
          have hL := qlp_ok (K := K) (P'_w := evS xs L ck F K cW c) hK_w (fun τ us τt τf k => e a τ us τt τf k) (fun _ τ o k => iB_w.1 τ o k) (fun k => by
            rw [k] at h1
            exact (kp_S b).1 (by simpa [nw] using h1)) p1_w p2_w p3_w 7 (q_head i u τ) o h
          refine hL en hh hQ ?_
          unfold q_head
          refine IL.put i hv ?_
          obtain ⟨w1_w, w2_w, w3_w⟩ := IV.int h0 (IL.at i hv)
          have w4_w := w3_w
          unfold InI at w4_w
          cases u with
          | true => exact ⟨w1_w, by omega, w3_w⟩
          | false => exact ⟨by omega, w2_w, w3_w⟩
        · cases h
      · cases h; exact qs_brk
      · cases h; exact qs_cnt
      · obtain ⟨x, h1, h⟩ := j_bd h
        obtain ⟨h2, h⟩ := b_if h
        cases h
        intro en hh hQ hv
        obtain ⟨v, h', f1_w, f2_w, f3_w, f4_w, -⟩ := e a τ _ _ _ (show qE T a τ = some (x.1, x.2.1, x.2.2) from h1) en hh hQ hv
        refine ⟨1, v, en, h', ?_, f2_w, f3_w, Or.inr (Or.inl ⟨rfl, IL.sub h2 f4_w⟩)⟩
        show (evE xs L ck F cW a en _).bind _ = _
        rw [f1_w]
        rfl
      · obtain ⟨x, h1, h⟩ := j_bd h
        obtain ⟨h2, h⟩ := b_if h
        cases h
        rw [Bool.and_eq_true] at h2
        intro en hh hQ hv
        obtain ⟨v, h', f1_w, f2_w, f3_w, f4_w, -⟩ := e a τ _ _ _ (show qE T a τ = some (x.1, x.2.1, x.2.2) from h1) en hh hQ hv
        obtain ⟨w, rfl, hw⟩ := IL.one (IL.sub h2.2 f4_w)
        refine ⟨1, [w], en, h', ?_, f2_w, f3_w, Or.inr (Or.inl ⟨rfl, IL.sub h2.1 f4_w⟩)⟩
        show (evE xs L ck F cW a en _).bind _ = _
        rw [f1_w, Option.bind_some]
        exact if_pos (iv_bool hw)
      · obtain ⟨h1, h⟩ := b_if h
        cases h
        refine fun en hh hQ hv => ⟨1, [], en, hh, rfl, hQ, KR.rf, Or.inr (Or.inl ⟨rfl, ?_⟩)⟩
        match rt, h1 with
        | [], _ => trivial
      · obtain ⟨x, h1, h⟩ := j_bd h
        obtain ⟨o1, h2, h⟩ := j_bd h
        obtain ⟨ex_w, h3, h⟩ := j_bd h
        cases h
        exact qs_sw (e1_w a τ x h1) (iB_w.2 _ o1 h2) h3
      · exact iA.1 τ o h
      · cases h
    · intro τ o h
      show TotK P T J g rt τ o (nodeS xs L ck F K cW t a b c (evS xs L ck F K cW a) (evS xs L ck F K cW b) (evS xs L ck F K cW c))
      have h : (qSN T rt t a b c (qS T rt a) (qS T rt b) (qS T rt c)).2 τ = some o := h
      unfold qSN at h
      dsimp only at h
      split at h
      · obtain ⟨o1, h1, h⟩ := j_bd h
        obtain ⟨h2, h⟩ := b_ifx h
        obtain ⟨q, h3, h⟩ := j_bd h
        exact qs_case (iB_w.1 τ o1 h1) (by simpa using h2) (iC.2 τ q h3) (qjoins_l h) (qjoins_r h)
      · exact fun v en hh hQ hv => iA.1 τ o h en hh hQ hv
      · cases h
  | .var _ => ⟨fun _ _ h => (by cases h), fun _ _ h => (by cases h)⟩
  | .op (.op _ _) _ => ⟨fun _ _ h => (by cases h), fun _ _ h => (by cases h)⟩
  | .op (.var _) (.var _) => ⟨fun _ _ h => (by cases h), fun _ _ h => (by cases h)⟩
  | .op (.var _) (.op _ (.var _)) => ⟨fun _ _ h => (by cases h), fun _ _ h => (by cases h)⟩
/-! ===== methods ===== -/
theorem ilay_eq : ∀ {pk_w : List Nat} {av : List Int}, pk_w.all (fun k => !(k == 2)) = true → pk_w.length = av.length → j_lay pk_w av = av
  | [], [], _, _ => rfl
  | k :: pk_w, v :: av, h, hl => by
    rw [List.all_cons, Bool.and_eq_true] at h
    have hk : k ≠ 2 := by simpa using h.1
    show (if k = 2 then v :: 0 :: j_lay pk_w av else v :: j_lay pk_w av) = v :: av
    rw [if_neg hk, ilay_eq h.2 (by simpa using hl)]
  | [], _ :: _, _, hl => by simp at hl
  | _ :: _, [], _, hl => by simp at hl
theorem IL.pad {n : Nat} {ts : List IT} {vs : List Int} (h : IL P ts vs) : IL P (j_pad (0, 0, 0) n ts) (j_pad 0 n vs) := by
  unfold j_pad
  rw [IL.len h]
  exact IL.app h (IL.rep _)
theorem take_pad {n : Nat} {vs : List Int} : (j_pad 0 n vs).take vs.length = vs := by
  unfold j_pad
  exact List.take_left
theorem qM_ok {M : Nat → XM} {n f : Nat} (hT_w : RTab T) (hJ : JS T J) (hF : ∀ f, qC T f = true → TotR P T J g (evF xs L ck K cW M n) f) (hW : TotW g (evF xs L ck K cW M n)) (hB_w : TotB P T J g (evF xs L ck K cW M n)) (hK_w : 4294967300 ≤ K) (h : qM T M f = true) : TotR P T J g (evF xs L ck K cW M (n + 1)) f := by
  unfold qM at h
  simp only [Bool.and_eq_true, Bool.or_eq_true] at h
  obtain ⟨⟨⟨h1, h2⟩, h3⟩, h4⟩ := h
  rw [beq_iff_eq] at h2
  intro av hh hQ hv
  have hl := IL.len hv
  have hlay : j_lay (M f).2.2.1 av = av := ilay_eq h1 (by omega)
  have hpad : IL P (j_pad (0, 0, 0) (M f).2.1 (qP T f)) (j_pad 0 (M f).2.1 av) := IL.pad hv
  rw [evF_s, hlay]
  rcases h4 with h4 | ⟨h4, h5⟩
  · unfold q_ret at h4
    split at h4
    · rename_i a x y hbody
      split at h4
      · rename_i us τt τf hq
        simp only [Bool.and_eq_true] at h4
        obtain ⟨⟨k1_w, k2⟩, k3⟩ := h4
        obtain ⟨v, h', f1_w, f2_w, f3_w, f4_w, f5_w, -⟩ := q_ok (xs := xs) (L := L) (ck := ck) (cW := cW) hT_w hF hW hB_w a _ us τt τf hq _ hh hQ hpad
        obtain ⟨w, rfl, hw⟩ := IL.one (IL.sub k2 f4_w)
        refine ⟨[w], h', ?_, f2_w, f3_w, IL.sub k1_w f4_w, fun h0 => ?_⟩
        · rw [hbody]
          show (((evE xs L ck (evF xs L ck K cW M n) cW a _ _).bind fun x => if j_hd x.1 = 0 ∨ j_hd x.1 = 1 then some (1, x.1, _, x.2) else none).bind _) = _
          rw [f1_w, Option.bind_some]
          dsimp only
          rw [if_pos (show j_hd [w] = 0 ∨ j_hd [w] = 1 from iv_bool hw), Option.bind_some]
          exact if_pos ⟨Or.inl rfl, Nat.le_refl _, Nat.le_refl _, List.isPrefixOf_iff_prefix.mpr (List.prefix_refl _)⟩
        · have h7 := IL.take (qP T f).length (f5_w h0)
          rw [← hl, take_pad] at h7
          rw [hl] at h7
          exact IL.sub k3 h7
      · cases h4
    · cases h4
  · split at h5
    · rename_i ho
      obtain ⟨c, vals_w, en', h', e1_w, e2_w, e3_w, e4_w⟩ := (qS_ok (xs := xs) (L := L) (ck := ck) (cW := cW) (K := K) (rt := qR T f) hT_w hJ hF hW hB_w hK_w (M f).2.2.2.2).1 _ _ ho _ hh hQ hpad
      rcases e4_w with ⟨-, τ, k, -⟩ | ⟨rfl, k⟩ | ⟨-, τ, k, -⟩ | ⟨-, τ, k, -⟩
      · cases k
      · refine ⟨vals_w, h', ?_, e2_w, e3_w, k, fun _ => IL.sub h4 hv⟩
        rw [e1_w, Option.bind_some]
        exact if_pos ⟨Or.inl rfl, Nat.le_refl _, Nat.le_refl _, List.isPrefixOf_iff_prefix.mpr (List.prefix_refl _)⟩
      · cases k
      · cases k
    · cases h5
end QV
end
