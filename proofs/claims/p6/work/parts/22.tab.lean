/-! ===== the tables of this claim, by programs: each row is looked up at its place ===== -/
abbrev XQ : Type := Nat × Nat × Nat × Int
abbrev XL : Type := List (List (Nat × XQ × List Nat))
def q_look : List (Nat × XQ × List Nat) → Nat → Option XQ
  | [], _ => none
  | e :: r, i => bif Nat.beq e.1 i then some e.2.1 else q_look r i
theorem q_look_mem : ∀ {l : List (Nat × XQ × List Nat)} {i : Nat} {q : XQ}, q_look l i = some q → ∃ ps, (i, q, ps) ∈ l
  | [], _, _, h => by cases h
  | e :: r, i, q, h => by
    unfold q_look at h
    cases hb : Nat.beq e.1 i with
    | true =>
      rw [hb] at h
      have he : e.1 = i := Nat.eq_of_beq_eq_true hb
      have hq : e.2.1 = q := Option.some.inj h
      refine ⟨e.2.2, ?_⟩
      rw [← he, ← hq]
      exact List.mem_cons_self
    | false =>
      rw [hb] at h
      obtain ⟨ps, h1⟩ := q_look_mem (l := r) h
      exact ⟨ps, List.mem_cons_of_mem _ h1⟩
def q_lk (cs : XL) : XK := fun i => q_look (cs.getD (i / 16) []) i
theorem q_lk_mem {cs : XL} {i : Nat} {q : XQ} (h : q_lk cs i = some q) : ∃ ps, (i, q, ps) ∈ cs.flatten := by
  obtain ⟨ps, h1⟩ := q_look_mem h
  refine ⟨ps, List.mem_flatten.mpr ⟨cs.getD (i / 16) [], ?_, h1⟩⟩
  rw [List.getD_eq_getElem?_getD] at h1 ⊢
  cases hg : cs[i / 16]? with
  | none => rw [hg] at h1; exact absurd h1 List.not_mem_nil
  | some l => exact List.mem_of_getElem? hg
def t_at {α : Type} (cs : List (List α)) (d : α) (f : Nat) : α := (cs.getD (f / 16) []).getD (f % 16) d
/-- the rows of lw_tbl, in pieces -/
def tb (k : Nat) : List Cond := match k with
  | 0 => k2_sels lw_privs
  | 1 => tables_1_1
  | 2 => tables_1_2
  | 3 => tables_1_3
  | 4 => tables_1_4
  | 5 => tables_1_5
  | 6 => tables_1_6
  | 7 => tables_1_7
  | 8 => tables_1_8
  | _ => tables_1_9
theorem tb_tbl {w : Cond} (h : w ∈ tables_1) : w ∈ lw_tbl := List.mem_append.mpr (Or.inr h)
theorem tb_sub {k : Nat} {w : Cond} (h : w ∈ tb k) : w ∈ lw_tbl := by
  unfold tb at h
  split at h
  · exact List.mem_append.mpr (Or.inl h)
  all_goals
    refine tb_tbl ?_
    show w ∈ tables_1_1 ++ (tables_1_2 ++ (tables_1_3 ++ (tables_1_4 ++ (tables_1_5 ++ (tables_1_6 ++ (tables_1_7 ++ (tables_1_8 ++ tables_1_9)))))))
    simp only [List.mem_append]
    simp only [h, true_or, or_true]
/-- the rows that hold wherever the tables do -/
def lw_nic : List Cond := lw_tbl.filter niceW
theorem nic_sub {w : Cond} (h : w ∈ lw_nic) : w ∈ lw_tbl := (List.mem_filter.mp h).1
theorem nic_nice : ∀ w ∈ lw_nic, niceW w = true := fun _ h => (List.mem_filter.mp h).2
def tw (w : Cond) (p : Nat) : Bool := decide ((tb (p / 1000))[p % 1000]? = some w)
theorem tw_mem {w : Cond} {p : Nat} (h : tw w p = true) : w ∈ lw_tbl := tb_sub (List.mem_of_getElem? (of_decide_eq_true h))
def tk (w : Cond) (p : Nat) : Bool := tw w p && niceW w
theorem tk_mem {w : Cond} {p : Nat} (h : tk w p = true) : w ∈ lw_nic := List.mem_filter.mpr ⟨tw_mem ((Bool.and_eq_true _ _).mp h).1, ((Bool.and_eq_true _ _).mp h).2⟩
def fkB (d : String) (v : Int) : Bool := match parseFieldDescriptor d with
  | some .int => decide (v = 1)
  | some .long => decide (v = 2)
  | some .boolean => decide (v = -1)
  | some (.object _) => decide (6 ≤ v)
  | some (.array _) => decide (6 ≤ v)
  | _ => false
theorem fkB_ok {d : String} {v : Int} (h : fkB d v = true) : FK d v := by
  unfold fkB at h
  split at h
  · rename_i e
    have := of_decide_eq_true h
    subst this
    exact ⟨_, e, fun _ => rfl, fun z => (by omega), fun z => (by omega), fun z => (by omega)⟩
  · rename_i e
    have := of_decide_eq_true h
    subst this
    exact ⟨_, e, fun z => (by omega), fun _ => rfl, fun z => (by omega), fun z => (by omega)⟩
  · rename_i e
    have := of_decide_eq_true h
    subst this
    exact ⟨_, e, fun z => (by omega), fun z => (by omega), fun _ => rfl, fun z => (by omega)⟩
  · rename_i n e
    have := of_decide_eq_true h
    exact ⟨_, e, fun z => (by omega), fun z => (by omega), fun z => (by omega), fun _ => Or.inl ⟨n, rfl⟩⟩
  · rename_i n e
    have := of_decide_eq_true h
    exact ⟨_, e, fun z => (by omega), fun z => (by omega), fun z => (by omega), fun _ => Or.inr ⟨n, rfl⟩⟩
  · cases h
def g_fl (own : String) (i : Nat) (O n d : String) (ps : List Nat) : Bool := tk (.fieldLink own i O n d) (ps.getD 0 0) || tk (.fieldLinkNest own i O n d "FeederShares") (ps.getD 0 0)
theorem g_fl_ok {own : String} {i : Nat} {O n d : String} {ps : List Nat} (h : g_fl own i O n d ps = true) : Cond.fieldLink own i O n d ∈ lw_nic ∨ ∃ h, Cond.fieldLinkNest own i O n d h ∈ lw_nic := by
  rcases (Bool.or_eq_true _ _).mp h with h | h
  · exact Or.inl (tk_mem h)
  · exact Or.inr ⟨_, tk_mem h⟩
section TAB
variable (cl : List vw_C) (ck : Nat → List Nat) (wn : Nat → String) (Y : Nat → MethodName) (RT : Nat → XRt) (PK : Nat → List Nat)
/-- the static fields that the code reads -/
def g_Zs (wn : Nat → String) (adW : Nat → Nat) (aT : Nat) : String → String → String → Value → Prop := fun C n d v =>
  (C = "FeederShares" ∧ n = "WORDS" ∧ d = "[LFeederShares$Word;" ∧ v = .ref aT) ∨ ∃ k, k < 24 ∧ C = "FeederShares$Word" ∧ n = wn k ∧ d = "LFeederShares$Word;" ∧ v = .ref (adW k)
def okF (own : String) (e : Nat × XQ × List Nat) : Bool := match e with
  | (i, (0, ci, k, v), ps) => match cl[ci]? with
    | some (_, T, N) => decide (k < N) && decide ((ck ci)[k]? = some (j_kd v)) && fkB (T k).2.2.1 v && g_fl own i (T k).1 (T k).2.1 (T k).2.2.1 ps
    | none => false
  | (i, (1, _, k, v), ps) => (decide (k = 0 ∧ v = 2) && tk (.fieldLinkNest own i "FeederShares$Word" "code" "J" "FeederShares") (ps.getD 0 0)) || (decide (k = 1 ∧ v = 1) && tk (.fieldLinkNest own i "FeederShares$Word" "kept" "Z" "FeederShares") (ps.getD 0 0))
  | (i, (2, kd, _, v), ps) => (decide (kd = 3 ∧ 0 ≤ v ∧ v < 24) && g_fl own i "FeederShares$Word" (wn v.toNat) "LFeederShares$Word;" ps) || (decide (kd = 4) && g_fl own i "FeederShares" "WORDS" "[LFeederShares$Word;" ps)
  | (i, (3, _, _, v), ps) => tk (.constant own i (Int32.ofInt v)) (ps.getD 0 0) && decide (-2147483648 ≤ v ∧ v < 2147483648)
  | (i, (4, _, _, v), ps) => tk (.constantLong own i (Int64.ofInt v)) (ps.getD 0 0) && decide (-9223372036854775808 ≤ v ∧ v < 9223372036854775808)
  | (i, (5, ci, _, _), ps) => match cl[ci]? with
    | some (C, _, N) => decide ((ck ci).length = N) && tk (.classLink own i C) (ps.getD 0 0) && tk (.instantiable C N) (ps.getD 1 0) && tk (.initialized C) (ps.getD 2 0)
    | none => false
  | _ => true
theorem okF_ok {own : String} {e : Nat × XQ × List Nat} {adW : Nat → Nat} {aT : Nat} (h : okF cl ck wn own e = true) : LF lw_nic cl own ck adW aT (g_Zs wn adW aT) e.1 e.2.1 := by
  unfold okF at h
  split at h
  · rename_i i ci k v ps
    split at h
    · rename_i C T N hc
      simp only [Bool.and_eq_true, decide_eq_true_eq] at h
      obtain ⟨⟨⟨h1, h2⟩, h3⟩, h4⟩ := h
      exact ⟨C, T, N, hc, h1, h2, fkB_ok h3, g_fl_ok h4⟩
    · cases h
  · rename_i i z k v ps
    simp only [Bool.or_eq_true, Bool.and_eq_true, decide_eq_true_eq] at h
    rcases h with ⟨⟨rfl, rfl⟩, h⟩ | ⟨⟨rfl, rfl⟩, h⟩
    · exact ⟨_, _, _, tk_mem h, Or.inl ⟨rfl, rfl, rfl, rfl⟩⟩
    · exact ⟨_, _, _, tk_mem h, Or.inr ⟨rfl, rfl, rfl, rfl⟩⟩
  · rename_i i kd z v ps
    simp only [Bool.or_eq_true, Bool.and_eq_true, decide_eq_true_eq] at h
    rcases h with ⟨⟨rfl, h0, h1⟩, h⟩ | ⟨rfl, h⟩
    · exact ⟨_, _, _, Or.inr ⟨v.toNat, by omega, rfl, rfl, rfl, rfl⟩, Or.inl ⟨rfl, h0, h1⟩, g_fl_ok h⟩
    · exact ⟨_, _, _, Or.inl ⟨rfl, rfl, rfl, rfl⟩, Or.inr rfl, g_fl_ok h⟩
  · rename_i i y z v ps
    simp only [Bool.and_eq_true, decide_eq_true_eq] at h
    exact ⟨tk_mem h.1, h.2⟩
  · rename_i i y z v ps
    simp only [Bool.and_eq_true, decide_eq_true_eq] at h
    exact ⟨tk_mem h.1, h.2⟩
  · rename_i i ci y z ps
    split at h
    · rename_i C T N hc
      simp only [Bool.and_eq_true, decide_eq_true_eq] at h
      obtain ⟨⟨⟨h1, h2⟩, h3⟩, h4⟩ := h
      exact ⟨C, T, N, hc, h1, tk_mem h2, tk_mem h3, tk_mem h4⟩
    · cases h
  · rename_i h0 h1 h2 h3 h4 h5
    obtain ⟨i, ⟨a, b, c, d⟩, ps⟩ := e
    match a with
    | 0 => exact absurd rfl (h0 i b c d ps)
    | 1 => exact absurd rfl (h1 i b c d ps)
    | 2 => exact absurd rfl (h2 i b c d ps)
    | 3 => exact absurd rfl (h3 i b c d ps)
    | 4 => exact absurd rfl (h4 i b c d ps)
    | 5 => exact absurd rfl (h5 i b c d ps)
    | _ + 6 => trivial
/-- calls -/
def nps (y : MethodName) : Option Nat := (parseMethodDescriptor y.desc).map fun d => d.parameters.length
def okM (own : String) (e : Nat × XQ × List Nat) : Bool := match e with
  | (i, (6, f, 0, _), ps) => decide ((RT f).2 = []) && decide (nps (Y f) = some ((PK f).length - 1)) && tk (.methodLink own i (Y f)) (ps.getD 0 0) && tk (.instanceMethod (Y f)) (ps.getD 1 0) && tk (.selects (Y f).cls (Y f) (Y f)) (ps.getD 2 0) && (match PK f with
    | k :: _ => decide (10 ≤ k) && (match cl[k - 10]? with
      | some (C, _, _) => decide (C = (Y f).cls)
      | none => false)
    | [] => false)
  | (i, (6, f, 1, _), ps) => decide (nps (Y f) = some (PK f).length) && tk (.static (Y f)) (ps.getD 1 0) && (tk (.methodLink own i (Y f)) (ps.getD 0 0) || (decide ((RT f).2 = []) && tk (.methodLinkNest own i (Y f) "FeederShares") (ps.getD 0 0)))
  | (i, (6, f, 2, _), ps) => decide (nps (Y f) = some ((PK f).length - 1)) && tk (.instanceMethod (Y f)) (ps.getD 1 0) && decide ((Y f).name = "<init>") && decide (RT f = (none, [])) && (tk (.methodLink own i (Y f)) (ps.getD 0 0) || tk (.methodLinkNest own i (Y f) "FeederShares") (ps.getD 0 0)) && (match PK f with
    | k :: _ => decide (10 ≤ k)
    | [] => false)
  | (_, (6, _, _, _), _) => false
  | (i, (10, _, _, _), ps) => tk (.methodLink own i Lib.objectInit) (ps.getD 0 0) && tk (.instanceMethod Lib.objectInit) (ps.getD 1 0) && tk (.code Lib.objectInit ⟨#[0xb1]⟩ 1 none) (ps.getD 2 0)
  | _ => true
theorem okM_call {own : String} {i f how : Nat} {z : Int} {ps : List Nat} (h : okM cl Y RT PK own (i, (6, f, how, z), ps) = true) : LC lw_nic cl own Y RT PK i f how := by
  match how with
  | 0 =>
    simp only [okM, Bool.and_eq_true, decide_eq_true_eq] at h
    obtain ⟨⟨⟨⟨⟨h1, h2⟩, h3⟩, h4⟩, h5⟩, h6⟩ := h
    refine ⟨h1, h2, tk_mem h3, tk_mem h4, tk_mem h5, ?_⟩
    split at h6
    · rename_i k ks hk
      simp only [Bool.and_eq_true, decide_eq_true_eq] at h6
      obtain ⟨h7, h8⟩ := h6
      split at h8
      · rename_i C T N hc
        have := of_decide_eq_true h8
        subst this
        refine ⟨k - 10, T, N, ks, ?_, hc⟩
        rw [hk]
        congr 1
        omega
      · cases h8
    · cases h6
  | 1 =>
    simp only [okM, Bool.and_eq_true, Bool.or_eq_true, decide_eq_true_eq] at h
    obtain ⟨⟨h1, h2⟩, h3⟩ := h
    refine ⟨h1, tk_mem h2, ?_⟩
    rcases h3 with h3 | ⟨h3, h4⟩
    · exact Or.inl (tk_mem h3)
    · exact Or.inr ⟨h3, _, tk_mem h4⟩
  | 2 =>
    simp only [okM, Bool.and_eq_true, Bool.or_eq_true, decide_eq_true_eq] at h
    obtain ⟨⟨⟨⟨⟨h1, h2⟩, h3⟩, h4⟩, h5⟩, h6⟩ := h
    refine ⟨h1, tk_mem h2, h3, h4, ?_, ?_⟩
    · rcases h5 with h5 | h5
      · exact Or.inl (tk_mem h5)
      · exact Or.inr ⟨_, tk_mem h5⟩
    · split at h6
      · rename_i k ks hk
        have h7 := of_decide_eq_true h6
        refine ⟨k - 10, ks, ?_⟩
        rw [hk]
        congr 1
        omega
      · cases h6
  | _ + 3 => cases h
theorem okM_init {own : String} {i b c : Nat} {z : Int} {ps : List Nat} (h : okM cl Y RT PK own (i, (10, b, c, z), ps) = true) : LO lw_nic own i := by
  simp only [okM, Bool.and_eq_true] at h
  exact ⟨tk_mem h.1.1, tk_mem h.1.2, tk_mem h.2⟩
/-- what is written: a final field in its own class's constructor alone -/
def okP (own : String) (ini : Bool) (e : Nat × XQ × List Nat) : Bool := okF cl ck wn own e && (match e with
  | (i, (0, ci, k, _), ps) => (match cl[ci]? with
    | some (_, T, _) => !(T k).2.2.2 || (ini && decide ((T k).1 = own) && tk (.fieldLink own i (T k).1 (T k).2.1 (T k).2.2.1) (ps.getD 0 0))
    | none => true)
  | _ => true)
theorem FO_of {own name : String} {ini : Bool} {lt pt : XL} {adW : Nat → Nat} {aT : Nat} (h1 : lt.flatten.all (fun e => okF cl ck wn own e && okM cl Y RT PK own e) = true) (h2 : pt.flatten.all (okP cl ck wn own ini) = true) (hn : ini = true → name = "<init>") :
    FO lw_nic cl ck adW aT (g_Zs wn adW aT) Y RT PK own name (q_lk lt) (q_lk pt) := by
  rw [List.all_eq_true] at h1 h2
  refine ⟨fun i q hq => ?_, fun i q hq => ?_, fun i f how z hq => ?_, fun i z hq => ?_⟩
  · obtain ⟨ps, hm⟩ := q_lk_mem hq
    exact okF_ok cl ck wn ((Bool.and_eq_true _ _).mp (h1 _ hm)).1
  · obtain ⟨ps, hm⟩ := q_lk_mem hq
    have h3 := (Bool.and_eq_true _ _).mp (h2 _ hm)
    refine ⟨okF_ok cl ck wn h3.1, fun h0 C T N hc ht => ?_⟩
    obtain ⟨a, ci, k, v⟩ := q
    dsimp only at h0 hc ht ⊢
    subst h0
    have h4 : (match cl[ci]? with
    | some (_, T, _) => !(T k).2.2.2 || (ini && decide ((T k).1 = own) && tk (.fieldLink own i (T k).1 (T k).2.1 (T k).2.2.1) (ps.getD 0 0))
    | none => true) = true := h3.2
    rw [hc] at h4
    dsimp only at h4
    rw [ht] at h4
    simp only [Bool.not_true, Bool.false_or, Bool.and_eq_true, decide_eq_true_eq] at h4
    exact ⟨h4.1.2, tk_mem h4.2, hn h4.1.1⟩
  · obtain ⟨ps, hm⟩ := q_lk_mem hq
    exact okM_call cl Y RT PK ((Bool.and_eq_true _ _).mp (h1 _ hm)).2
  · obtain ⟨b, c, d⟩ := z
    obtain ⟨ps, hm⟩ := q_lk_mem hq
    exact okM_init cl Y RT PK ((Bool.and_eq_true _ _).mp (h1 _ hm)).2
end TAB
section TAC
variable (cl : List vw_C) (ck : Nat → List Nat) (wn : Nat → String) (Y : Nat → MethodName) (CC : Nat → ByteArray) (RT : Nat → XRt) (M : Nat → XM) (THR RZ : Nat → Bool) (HN : Nat → Option (Nat × Nat × Nat))
/-- the fields of a class -/
def okC (q : vw_C × Nat × List Nat) : Bool := decide ((ck q.2.1).length = q.1.2.2) && ((u_ws q.1.1 q.1.2.1 q.1.2.2).zip q.2.2).all (fun z => tk z.1 z.2) && decide (q.2.2.length = q.1.2.2) &&
  decide (∀ a, a < q.1.2.2 → ∀ b, b < q.1.2.2 → a ≠ b → (q.1.2.1 a).2.1 ≠ (q.1.2.1 b).2.1) && decide (∀ k, k < q.1.2.2 → (let v : Int := if (q.1.2.1 k).2.2.1 = "Z" then -1 else ((ck q.2.1).getD k 0 : Nat)
    (ck q.2.1)[k]? = some (j_kd v) ∧ fkB (q.1.2.1 k).2.2.1 v = true ∧ (v = 1 ∨ v = 2 ∨ v = -1 ∨ 6 ≤ v)))
theorem zip_all {α β : Type} {f : α → β → Bool} : ∀ {l : List α} {m : List β}, l.length = m.length → (l.zip m).all (fun z => f z.1 z.2) = true → ∀ x ∈ l, ∃ y, f x y = true
  | [], _, _, _, _, h => absurd h List.not_mem_nil
  | a :: l, [], h, _, _, _ => by cases h
  | a :: l, b :: m, h, h1, x, hx => by
    rw [List.zip_cons_cons, List.all_cons, Bool.and_eq_true] at h1
    rcases List.mem_cons.mp hx with rfl | hx
    · exact ⟨b, h1.1⟩
    · exact zip_all (by simpa using h) h1.2 x hx
theorem CF_of {pls : List (List Nat)} (h : ∀ ci C T N, cl[ci]? = some (C, T, N) → okC ck ((C, T, N), ci, pls.getD ci []) = true) : CF lw_nic cl ck := by
  intro ci C T N hc
  have h1 := h ci C T N hc
  simp only [okC, Bool.and_eq_true, decide_eq_true_eq] at h1
  obtain ⟨⟨⟨⟨h1, h2⟩, h3⟩, h4⟩, h5⟩ := h1
  refine ⟨fun w hw => ?_, h1, h4, fun k hk => ⟨_, (h5 k hk).1, fkB_ok (h5 k hk).2.1, (h5 k hk).2.2⟩⟩
  obtain ⟨p, hp⟩ := zip_all (by rw [h3]; simp [u_ws]) h2 w hw
  exact tk_mem hp
def g_HND (HN : Nat → Option (Nat × Nat × Nat)) (f pc : Nat) : Option (Nat × Nat) := match HN f with
  | some (p, q) => if pc = p then some q else none
  | none => none
/-- a method by itself but for its tree; ps: the places of its code's row, of its class's -/
def okH (f : Nat) (ps : Nat × Nat) : Bool := tk (cwd (Y f) (CC f) (m_L M f) (RT f)) ps.1 && tk (.initialized (Y f).cls) ps.2 && decide ((Y f).cls ≠ "java/lang/invoke/MethodHandle") && decide ((Y f).cls ≠ "java/lang/invoke/VarHandle") && decide (m_L M f ≤ 40) && decide ((m_R M f).length ≤ 1) && plainFor (Y f) &&
  (match m_R M f with
  | [] => decide ((RT f).1 = none)
  | [1] => decide ((RT f).1 = some (if RZ f then .boolean else .int))
  | [2] => decide ((RT f).1 = some .long) && !RZ f
  | [3] => decide ((RT f).1 = some (.object "FeederShares$Word")) && !RZ f
  | _ => false)
theorem okH_ok {f : Nat} {ps : Nat × Nat} (h : okH Y CC RT M RZ f ps = true) : MF lw_nic Y CC (m_L M) RT (m_R M) f ∧ RTok (m_R M f) (RZ f) (RT f).1 ∧ plainFor (Y f) = true := by
  simp only [okH, Bool.and_eq_true, decide_eq_true_eq] at h
  obtain ⟨⟨⟨⟨⟨⟨⟨h1, h2⟩, h3⟩, h4⟩, h5⟩, h6⟩, h7⟩, h8⟩ := h
  refine ⟨⟨tk_mem h1, tk_mem h2, ⟨h3, h4⟩, h5, h6⟩, ?_, h7⟩
  unfold RTok
  split at h8
  · rename_i e; rw [e]; have h9 := of_decide_eq_true h8; exact h9
  · rename_i e; rw [e]; have h9 := of_decide_eq_true h8; exact h9
  · rename_i e
    rw [e]
    have h9 := (Bool.and_eq_true _ _).mp h8
    exact ⟨of_decide_eq_true h9.1, by simpa using h9.2⟩
  · rename_i e
    rw [e]
    have h9 := (Bool.and_eq_true _ _).mp h8
    exact ⟨⟨_, of_decide_eq_true h9.1⟩, by simpa using h9.2⟩
  · cases h8
/-- the tree, as one answer -/
def okK (dec : XD) (lk lp : XK) (f : Nat) : Bool := decide ((chS dec lk (m_P M) (m_R M) THR lp (m_R M f) (RZ f) (g_HND HN f) (m_B M f) (j_pad 0 (m_L M f) (j_layT (m_P M f))) [] [] 0).map (fun r => r.2.2) = some (false, [], [])) && k_ok (j_pad 0 (m_L M f) (j_layT (m_P M f))) && decide ((j_layT (m_P M f)).length ≤ m_L M f)
theorem okK_ok {LK LP : Nat → XK} {DE : Nat → XD} {f : Nat} (h : okK M THR RZ HN (DE f) (LK f) (LP f) f = true) : CK M DE LK LP THR RZ (g_HND HN) f := by
  simp only [okK, Bool.and_eq_true, decide_eq_true_eq] at h
  exact ⟨h.1.1, h.1.2, h.2⟩
/-- the handler of the law's helpers -/
def okX (own : String) (dec : XD) (hh : List (Nat × Nat × Nat × Nat)) (z : Option (Nat × Nat × Nat)) (ps : Nat × Nat) : Bool := match z with
  | none => true
  | some (pc, q, k) => match tableOf hh with
    | [x] => covers x pc && decide (x.catchType ≠ 0) && tk (.classLink own x.catchType nsee) ps.1 && tk (.castable nsee nsee) ps.2 && decide (c_ins dec x.handlerPc a_store = some ((3, k), q))
    | _ => false
theorem okX_ok {own : String} {dec : XD} {hh : List (Nat × Nat × Nat × Nat)} {f : Nat} {ps : Nat × Nat} (h : okX own dec hh (HN f) ps = true) : HX lw_nic own dec hh (g_HND HN f) := by
  intro pc q k hq
  unfold g_HND at hq
  cases hz : HN f with
  | none => rw [hz] at hq; cases hq
  | some z =>
    obtain ⟨p0, q0, k0⟩ := z
    rw [hz] at hq h
    dsimp only at hq
    obtain ⟨e1, hq⟩ := j_ifx hq
    cases hq
    subst e1
    unfold okX at h
    dsimp only at h
    split at h
    · rename_i x hx
      simp only [Bool.and_eq_true, decide_eq_true_eq] at h
      obtain ⟨⟨⟨⟨h1, h2⟩, h3⟩, h4⟩, h5⟩ := h
      exact ⟨x, hx, by simpa using h1, h2, tk_mem h3, tk_mem h4, h5⟩
    · cases h
/-- the words of a throw: ps: the places of its rows -/
def okT (own : String) (ik ic p1 p2 : Nat) (ps : List Nat) : Bool := tk (.classLink own ik nsee) p1 && tk (.initialized nsee) p2 && ((vx_at0 own ic nsee nseeN).zip ps).all (fun z => tk z.1 z.2) && decide ((vx_at0 own ic nsee nseeN).length = ps.length) && (Cond.classLink own ik nsee :: Cond.initialized nsee :: vx_at0 own ic nsee nseeN).all vx_ot
theorem okT_ok {own : String} {lt : XL} {ik ic p1 p2 : Nat} {ps : List Nat} (h : okT own ik ic p1 p2 ps = true) (h1 : lt.flatten.all (fun e => (decide (e.2.1.1 ≠ 8) || decide (e.1 = ik)) && (decide (e.2.1.1 ≠ 9) || decide (e.1 = ic))) = true) : LT lw_nic own (q_lk lt) := by
  intro i1 z i2 z' e1 e2
  simp only [okT, Bool.and_eq_true, decide_eq_true_eq] at h
  obtain ⟨⟨⟨⟨a1, a2⟩, a3⟩, a4⟩, a5⟩ := h
  rw [List.all_eq_true] at h1
  obtain ⟨_, m1⟩ := q_lk_mem e1
  obtain ⟨_, m2⟩ := q_lk_mem e2
  have b1 : i1 = ik := by simpa using ((Bool.and_eq_true _ _).mp (h1 _ m1)).1
  have b2 : i2 = ic := by simpa using ((Bool.and_eq_true _ _).mp (h1 _ m2)).2
  subst b1
  subst b2
  refine ⟨tk_mem a1, tk_mem a2, fun w hw => ?_, fun w hw => List.all_eq_true.mp a5 w hw⟩
  obtain ⟨p, hp⟩ := zip_all a4 a3 w hw
  exact tk_mem hp
theorem virt_ok {lt : XL} (h : lt.flatten.all (fun e => decide (e.2.1.1 ≠ 6) || !THR e.2.1.2.1 || decide (e.2.1.2.2.1 = 0)) = true) : ∀ i g how z, q_lk lt i = some (6, g, how, z) → THR g = true → how = 0 := by
  intro i g how z e1 e2
  obtain ⟨_, m1⟩ := q_lk_mem e1
  have := List.all_eq_true.mp h _ m1
  simp only [e2, Bool.or_eq_true, decide_eq_true_eq, Bool.not_true] at this
  rcases this with (h | h) | h
  · exact absurd rfl h
  · cases h
  · exact h
end TAC
theorem ab_one {P : Nat → Prop} {a : Nat} (h : P a) : ∀ f, a ≤ f → f < a + 1 → P f := fun f h1 h2 => by
  have : f = a := by omega
  rw [this]
  exact h
theorem ab_two {P : Nat → Prop} {a b c : Nat} (h1 : ∀ f, a ≤ f → f < b → P f) (h2 : ∀ f, b ≤ f → f < c → P f) : ∀ f, a ≤ f → f < c → P f := fun f p q => by
  by_cases h : f < b
  · exact h1 f p h
  · exact h2 f (by omega) q
