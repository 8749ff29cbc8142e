/-! ===== the fourth reading_w: statements ===== -/
abbrev QTB : Type := Option (List IT) × Option (List IT) × Option (List IT)
def q_join (x y : Option (List IT)) : Option (Option (List IT)) := match x, y with
  | none, y => some y
  | some a, none => some (some a)
  | some a, some b => bif a.length == b.length then some (some (i_zip i_lub a b)) else none
def q_joins (x y : QTB) : Option QTB := (q_join x.1 y.1).bind fun a => (q_join x.2.1 y.2.1).bind fun b => (q_join x.2.2 y.2.2).bind fun c => some (a, b, c)
def q_lp (i : Nat) (u c3 : Bool) (A : List IT → QO) (B : List IT → Option QTB) : Nat → List IT → Option QTB
  | 0, _ => none
  | n + 1, τ => bif !(Nat.blt i τ.length && i_is (τ.getD i (0, 0, 0))) then none else (q_one (A τ)).bind fun x =>
    bif i_is (x.2.1.getD i (0, 0, 0)) && (bif u then decide ((i_wd (x.2.1.getD i (0, 0, 0))).2.2 < 2147483647) else decide (0 ≤ (i_wd (x.2.1.getD i (0, 0, 0))).2.1)) then
      (bif c3 then B x.2.1 else some (some x.2.1, none, none)).bind fun ob => (q_join ob.1 ob.2.2).bind fun e => (q_join (some x.2.2) ob.2.1).bind fun ex_w => match e with
        | none => some (ex_w, none, none)
        | some w => bif i_subs (w.set i (i_op 0 (x.2.1.getD i (0, 0, 0)) (bif u then (1, 1, 1) else (1, -1, -1)))) τ then some (ex_w, none, none)
          else bif τ.length == w.length then q_lp i u c3 A B n (i_zip (bif Nat.ble n 2 then i_wid else i_lub) τ (w.set i (i_op 0 (x.2.1.getD i (0, 0, 0)) (bif u then (1, 1, 1) else (1, -1, -1))))) else none
    else none
def q_head (i : Nat) (u : Bool) (τ : List IT) : List IT := τ.set i (bif u then (1, (i_wd (τ.getD i (0, 0, 0))).2.1, 2147483647) else (1, min (i_wd (τ.getD i (0, 0, 0))).2.1 (-1), (i_wd (τ.getD i (0, 0, 0))).2.2))
def q_kd (q : Nat) (w : IT) : Bool := match r_kd q with
  | 1 => i_is w
  | 2 => w.1 == 2
  | 100 => i_sub w q_bool
  | _ => false
def q_isThis (t : IT) : Bool := t.1 == 4 && decide (t.2.1 = 182)
def qSN (T : QT) (rt : List IT) (t : Nat) (a b c : SX) (A B C : (List IT → Option QTB) × (List IT → Option QTB)) : (List IT → Option QTB) × (List IT → Option QTB) :=
  (fun τ => match t with
  | 1 => some (some τ, none, none)
  | 22 => some (some τ, none, none)
  | 2 => (A.1 τ).bind fun o => match o.1 with
    | none => some o
    | some τ1 => (B.1 τ1).bind fun q => q_joins (none, o.2) q
  | 3 => (q_one (qE T b τ)).bind fun x => some (some (τ.set (sx_n a) x.1), none, none)
  | 4 => bif sx_n b == 1 then some (some (τ.set (sx_n a) (i_op 0 (τ.getD (sx_n a) (0, 0, 0)) (bif sx_n c == 0 then (1, 1, 1) else (1, -1, -1)))), none, none) else none
  | 5 => (q_one (qE T a τ)).bind fun x => (q_one (qE T b τ)).bind fun y => bif q_isThis x.1 && ((qF T (sx_n c)).1 == 1 || (qF T (sx_n c)).1 == 2) && i_sub y.1 (qF T (sx_n c)) then some (some τ, none, none) else none
  | 6 => (q_one (qE T a τ)).bind fun x => (q_one (qE T b τ)).bind fun y => bif q_isThis x.1 && (qF T (sx_n c / 16)).1 == 1 && i_sub (i_op (sx_n c % 16) (qF T (sx_n c / 16)) y.1) (qF T (sx_n c / 16)) then some (some τ, none, none) else none
  | 7 => match c with
    | .op (.var ty_w) v => (q_one (qE T a τ)).bind fun x => (q_one (qE T b τ)).bind fun y => (q_one (qE T v τ)).bind fun z => bif q_arr x.1 && qW T x.1.2.1.toNat && ar_st (qA T x.1.2.1.toNat) y.1 z.1 && q_kd x.1.2.1.toNat z.1 && !(ty_w == 8) && (!(ty_w == 9) || i_sub z.1 q_bool) then some (some τ, none, none) else none
    | _ => none
  | 8 => match c with
    | .op (.var op_w) v => (q_one (qE T a τ)).bind fun x => (q_one (qE T b τ)).bind fun y => (q_one (qE T v τ)).bind fun z => (ar_ld (qA T x.1.2.1.toNat) y.1).bind fun u => bif q_arr x.1 && qW T x.1.2.1.toNat && ar_st (qA T x.1.2.1.toNat) y.1 (i_op op_w u z.1) && r_kd x.1.2.1.toNat == 1 then some (some τ, none, none) else none
    | _ => none
  | 9 => (qE T a τ).bind fun _ => some (some τ, none, none)
  | 10 => (q_one (qE T a τ)).bind fun x => (B.1 x.2.1).bind fun o => q_joins o (some x.2.2, none, none)
  | 11 => (q_one (qE T a τ)).bind fun x => (B.1 x.2.1).bind fun o => (C.1 x.2.2).bind fun q => q_joins o q
  | 28 => (q_one (qE T a τ)).bind fun x => (B.1 x.2.1).bind fun o => q_joins o (none, some x.2.2, none)
  | 12 => match lp_step b c with
    | some (i, u, c3) => bif (!c3 || nw i b) && i_is (τ.getD i (0, 0, 0)) then q_lp i u c3 (qE T a) B.1 7 (q_head i u τ) else none
    | none => none
  | 14 => some (none, some τ, none)
  | 15 => some (none, none, some τ)
  | 16 => (qE T a τ).bind fun x => bif i_subs x.1 rt then some (none, none, none) else none
  | 27 => (qE T a τ).bind fun x => bif i_subs x.1 rt && i_subs x.1 [q_bool] then some (none, none, none) else none
  | 17 => bif rt.isEmpty then some (none, none, none) else none
  | 19 => (q_one (qE T a τ)).bind fun _ => (B.2 τ).bind fun o => (q_join o.1 o.2.1).bind fun e => some (e, none, o.2.2)
  | 20 => A.1 τ
  | _ => none,
  fun τ => match t with
  | 25 => (B.1 τ).bind fun o => bif o.1.isNone then (C.2 τ).bind fun q => q_joins o q else none
  | 26 => A.1 τ
  | _ => none)
def qS (T : QT) (rt : List IT) : SX → (List IT → Option QTB) × (List IT → Option QTB)
  | .op (.var t) (.op a (.op b c)) => qSN T rt t a b c (qS T rt a) (qS T rt b) (qS T rt c)
  | _ => (fun _ => none, fun _ => none)
/-- a method_w by itself_w; one that is_w a single answer_w may_w say_w what its truth says_w -/
def q_ret (T : QT) (f : Nat) (b : SX) (τ : List IT) : Bool := match b with
  | .op (.var 27) (.op a (.op _ _)) => (match qE T a τ with
    | some (us, τt, _) => i_subs us (qR T f) && i_subs us [q_bool] && i_subs (τt.take (qP T f).length) (qU T f)
    | none => false)
  | _ => false
def q_eq (x y : List IT) : Bool := x.length == y.length && i_subs x y
def qM (T : QT) (M : Nat → XM) (f : Nat) : Bool :=
  let τ := j_pad (0, 0, 0) (M f).2.1 (qP T f)
  (M f).2.2.1.all (fun k => !(k == 2)) && (M f).2.2.1.length == (qP T f).length && Nat.ble (qP T f).length (M f).2.1 &&
  (q_ret T f (M f).2.2.2.2 τ || (i_subs (qP T f) (qU T f) && (match (qS T (qR T f) (M f).2.2.2.2).1 τ with
    | some (none, none, none) => true
    | _ => false)))
/-! ===== the fourth reading_w of statements is_w right ===== -/
def OutQ (P : Int × Int) (rt : List IT) (o : QTB) (c : Nat) (vals_w en' : List Int) : Prop :=
  (c = 0 ∧ ∃ τ', o.1 = some τ' ∧ IL P τ' en') ∨ (c = 1 ∧ IL P rt vals_w) ∨ (c = 2 ∧ ∃ τ', o.2.1 = some τ' ∧ IL P τ' en') ∨ (c = 3 ∧ ∃ τ', o.2.2 = some τ' ∧ IL P τ' en')
def TotQ (P : Int × Int) (T : QT) (J : XH → Prop) (g : Nat × Nat) (rt τ : List IT) (o : QTB) (A : XR) : Prop :=
  ∀ (en : List Int) (h : XH), QK P T J h → IL P τ en → ∃ c vals_w en' h', A en ((a_g3, g), h) = some (c, vals_w, en', ((a_g3, g), h')) ∧ QK P T J h' ∧ KR T h h' ∧ OutQ P rt o c vals_w en'
def TotK (P : Int × Int) (T : QT) (J : XH → Prop) (g : Nat × Nat) (rt τ : List IT) (o : QTB) (A : XR) : Prop :=
  ∀ (v : Int) (en : List Int) (h : XH), QK P T J h → IL P τ en → ∃ c vals_w en' h', A (v :: en) ((a_g3, g), h) = some (c, vals_w, en', ((a_g3, g), h')) ∧ QK P T J h' ∧ KR T h h' ∧ OutQ P rt o c vals_w en'
/-- what stands in x stands in y -/
def leJ (P : Int × Int) (x y : Option (List IT)) : Prop := ∀ τ, x = some τ → ∃ τ', y = some τ' ∧ ∀ en, IL P τ en → IL P τ' en
def leQ (P : Int × Int) (x y : QTB) : Prop := leJ P x.1 y.1 ∧ leJ P x.2.1 y.2.1 ∧ leJ P x.2.2 y.2.2
section QS_w
variable {xs : Nat → Int} {L K : Nat} {ck : Nat → List Nat} {F : XP} {cW : Nat → Nat → Int} {P : Int × Int} {T : QT} {J : XH → Prop} {g : Nat × Nat} {rt τ : List IT} {o q r : QTB}
theorem leJ.rf {x : Option (List IT)} : leJ P x x := fun τ e => ⟨τ, e, fun _ h => h⟩
theorem leJ.no {x : Option (List IT)} : leJ P none x := fun τ e => by cases e
theorem leQ.rf : leQ P o o := ⟨leJ.rf, leJ.rf, leJ.rf⟩
theorem qjoin_l {x y z : Option (List IT)} (h : q_join x y = some z) : leJ P x z := by
  unfold q_join at h
  split at h
  · exact leJ.no
  · cases h; exact leJ.rf
  · obtain ⟨h1, h⟩ := b_if h
    cases h
    exact fun τ e => by cases e; exact ⟨_, rfl, fun en hv => zip_l (fun _ _ _ => ilub_l) (by simpa using h1) hv⟩
theorem qjoin_r {x y z : Option (List IT)} (h : q_join x y = some z) : leJ P y z := by
  unfold q_join at h
  split at h
  · cases h; exact leJ.rf
  · exact leJ.no
  · obtain ⟨h1, h⟩ := b_if h
    cases h
    exact fun τ e => by cases e; exact ⟨_, rfl, fun en hv => zip_r (fun _ _ _ => ilub_r) (by simpa using h1) hv⟩
theorem qjoins_l {x y z : QTB} (h : q_joins x y = some z) : leQ P x z := by
  obtain ⟨a, h1, h⟩ := j_bd h
  obtain ⟨b, h2, h⟩ := j_bd h
  obtain ⟨c, h3, h⟩ := j_bd h
  cases h
  exact ⟨qjoin_l h1, qjoin_l h2, qjoin_l h3⟩
theorem qjoins_r {x y z : QTB} (h : q_joins x y = some z) : leQ P y z := by
  obtain ⟨a, h1, h⟩ := j_bd h
  obtain ⟨b, h2, h⟩ := j_bd h
  obtain ⟨c, h3, h⟩ := j_bd h
  cases h
  exact ⟨qjoin_r h1, qjoin_r h2, qjoin_r h3⟩
theorem OutQ.mono {c : Nat} {vals_w en' : List Int} (hle : leQ P o q) (h : OutQ P rt o c vals_w en') : OutQ P rt q c vals_w en' := by
  rcases h with ⟨h1, τ, h3, h4⟩ | h | ⟨h1, τ, h3, h4⟩ | ⟨h1, τ, h3, h4⟩
  · obtain ⟨τ', e1_w, e2_w⟩ := hle.1 τ h3
    exact Or.inl ⟨h1, τ', e1_w, e2_w _ h4⟩
  · exact Or.inr (Or.inl h)
  · obtain ⟨τ', e1_w, e2_w⟩ := hle.2.1 τ h3
    exact Or.inr (Or.inr (Or.inl ⟨h1, τ', e1_w, e2_w _ h4⟩))
  · obtain ⟨τ', e1_w, e2_w⟩ := hle.2.2 τ h3
    exact Or.inr (Or.inr (Or.inr ⟨h1, τ', e1_w, e2_w _ h4⟩))
theorem qs_skip : TotQ P T J g rt τ (some τ, none, none) (fun en st => some (0, [], en, st)) := fun en h hQ hv => ⟨0, [], en, h, rfl, hQ, KR.rf, Or.inl ⟨rfl, τ, rfl, hv⟩⟩
theorem qs_brk : TotQ P T J g rt τ (none, some τ, none) (fun en st => some (2, [], en, st)) := fun en h hQ hv => ⟨2, [], en, h, rfl, hQ, KR.rf, Or.inr (Or.inr (Or.inl ⟨rfl, τ, rfl, hv⟩))⟩
theorem qs_cnt : TotQ P T J g rt τ (none, none, some τ) (fun en st => some (3, [], en, st)) := fun en h hQ hv => ⟨3, [], en, h, rfl, hQ, KR.rf, Or.inr (Or.inr (Or.inr ⟨rfl, τ, rfl, hv⟩))⟩
theorem qs_seq {A B : XR} (hA : TotQ P T J g rt τ o A) (hB_w : ∀ τ1, o.1 = some τ1 → TotQ P T J g rt τ1 q B) (hl : leQ P (none, o.2) r) (hr : o.1 ≠ none → leQ P q r) : TotQ P T J g rt τ r (s_seq A B) := by
  intro en h hQ hv
  obtain ⟨c, vals_w, en', h', e1_w, e2_w, e3_w, e4_w⟩ := hA en h hQ hv
  unfold s_seq
  rw [e1_w, Option.bind_some]
  dsimp only
  rcases e4_w with ⟨rfl, τ1, k1_w, k2⟩ | ⟨rfl, k⟩ | ⟨rfl, k⟩ | ⟨rfl, k⟩
  · rw [if_pos rfl]
    obtain ⟨c, vals_w, en2, h2, f1_w, f2_w, f3_w, f4_w⟩ := hB_w τ1 k1_w en' h' e2_w k2
    exact ⟨c, vals_w, en2, h2, f1_w, f2_w, e3_w.tr f3_w, f4_w.mono (hr (by rw [k1_w]; exact fun e => by cases e))⟩
  · exact ⟨1, vals_w, en', h', rfl, e2_w, e3_w, OutQ.mono hl (Or.inr (Or.inl ⟨rfl, k⟩))⟩
  · exact ⟨2, vals_w, en', h', rfl, e2_w, e3_w, OutQ.mono hl (Or.inr (Or.inr (Or.inl ⟨rfl, k⟩)))⟩
  · exact ⟨3, vals_w, en', h', rfl, e2_w, e3_w, OutQ.mono hl (Or.inr (Or.inr (Or.inr ⟨rfl, k⟩)))⟩
theorem qs_if {A : XE} {B C : XR} {t : IT} {τt τf : List IT} (hA : TotI P T J g τ [t] τt τf A) (hB_w : TotQ P T J g rt τt o B) (hC : TotQ P T J g rt τf q C) (h1 : leQ P o r) (h2 : leQ P q r) : TotQ P T J g rt τ r (s_if A B C) := by
  intro en h hQ hv
  obtain ⟨v, h', e1_w, e2_w, e3_w, e4_w, e5_w, e6_w⟩ := qi_one hA hQ hv
  unfold s_if
  rw [e1_w, Option.bind_some]
  dsimp only
  by_cases h0 : v = 0
  · rw [if_pos (show j_hd [v] = 0 from h0)]
    obtain ⟨c, vals_w, en2, h2', f1_w, f2_w, f3_w, f4_w⟩ := hC en h' e2_w (e6_w h0)
    exact ⟨c, vals_w, en2, h2', f1_w, f2_w, e3_w.tr f3_w, f4_w.mono h2⟩
  · rw [if_neg (show ¬ j_hd [v] = 0 from h0)]
    obtain ⟨c, vals_w, en2, h2', f1_w, f2_w, f3_w, f4_w⟩ := hB_w en h' e2_w (e5_w h0)
    exact ⟨c, vals_w, en2, h2', f1_w, f2_w, e3_w.tr f3_w, f4_w.mono h1⟩
theorem qs_sw {A : XE} {B : XR} {t : IT} {τt τf : List IT} {e : Option (List IT)} (hA : TotI P T J g τ [t] τt τf A) (hB_w : TotK P T J g rt τ o B) (hj : q_join o.1 o.2.1 = some e) : TotQ P T J g rt τ (e, none, o.2.2) (s_sw A B) := by
  intro en h hQ hv
  obtain ⟨v, h', e1_w, e2_w, e3_w, -, -, -⟩ := qi_one hA hQ hv
  obtain ⟨c, vals_w, en2, h2, f1_w, f2_w, f3_w, f4_w⟩ := hB_w v en h' e2_w hv
  unfold s_sw
  rw [e1_w, Option.bind_some]
  dsimp only
  rw [show j_hd [v] = v from rfl, f1_w, Option.bind_some]
  dsimp only
  rcases f4_w with ⟨rfl, τ1, k1_w, k2⟩ | ⟨rfl, k⟩ | ⟨rfl, τ1, k1_w, k2⟩ | ⟨rfl, k⟩
  · obtain ⟨τ2, j1, j2_w⟩ := qjoin_l (P := P) hj τ1 k1_w
    exact ⟨0, vals_w, en2, h2, rfl, f2_w, e3_w.tr f3_w, Or.inl ⟨rfl, τ2, j1, j2_w _ k2⟩⟩
  · exact ⟨1, vals_w, en2, h2, rfl, f2_w, e3_w.tr f3_w, Or.inr (Or.inl ⟨rfl, k⟩)⟩
  · obtain ⟨τ2, j1, j2_w⟩ := qjoin_r (P := P) hj τ1 k1_w
    exact ⟨0, vals_w, en2, h2, rfl, f2_w, e3_w.tr f3_w, Or.inl ⟨rfl, τ2, j1, j2_w _ k2⟩⟩
  · exact ⟨3, vals_w, en2, h2, rfl, f2_w, e3_w.tr f3_w, Or.inr (Or.inr (Or.inr ⟨rfl, k⟩))⟩
theorem qs_case {l : List Nat} {B C : XR} (hB_w : TotQ P T J g rt τ o B) (h0 : o.1 = none) (hC : TotK P T J g rt τ q C) (h1 : leQ P o r) (h2 : leQ P q r) : TotK P T J g rt τ r (fun en st => if l.any (fun n => decide (en.headD 0 = sx_z n)) then (B en.tail st).bind fun r => if r.1 = 0 then none else some r else C en st) := by
  intro v en h hQ hv
  dsimp only
  split
  · obtain ⟨c, vals_w, en2, h2', f1_w, f2_w, f3_w, f4_w⟩ := hB_w en h hQ hv
    have hc_w : c ≠ 0 := by
      rintro rfl
      rcases f4_w with ⟨-, τ1, k1_w, -⟩ | ⟨k, -⟩ | ⟨k, -⟩ | ⟨k, -⟩
      · rw [h0] at k1_w; cases k1_w
      · cases k
      · cases k
      · cases k
    refine ⟨c, vals_w, en2, h2', ?_, f2_w, f3_w, f4_w.mono h1⟩
    show ((B en ((a_g3, g), h)).bind _) = _
    rw [f1_w, Option.bind_some]
    exact if_neg hc_w
  · obtain ⟨c, vals_w, en2, h2', f1_w, f2_w, f3_w, f4_w⟩ := hC v en h hQ hv
    exact ⟨c, vals_w, en2, h2', f1_w, f2_w, f3_w, f4_w.mono h2⟩
/-- a loop_w whose head_w keeps_w what is_w known_w and whose counter_w goes_w its way_w -/
theorem qlp_run {i : Nat} {u : Bool} {τ1 : List IT} {x : Option (List IT)} {C'_w : XE} {B' P'_w : XR} (hin : ∀ en, IL P τ1 en → InI (en.getD i 0))
    (hC : ∀ en h, IL P τ1 en → QK P T J h → ∃ v h', C'_w en ((a_g3, g), h) = some ([v], ((a_g3, g), h')) ∧ QK P T J h' ∧ KR T h h' ∧ (v = 0 → ∃ τ', x = some τ' ∧ IL P τ' en) ∧
      (v ≠ 0 → (if u = true then en.getD i 0 < 2147483647 else 0 ≤ en.getD i 0) ∧ ∃ c vals_w en' h2, B' en ((a_g3, g), h') = some (c, vals_w, en', ((a_g3, g), h2)) ∧ QK P T J h2 ∧ KR T h' h2 ∧
      (((c = 0 ∨ c = 3) ∧ ∃ en2, P'_w en' ((a_g3, g), h2) = some (0, [], en2, ((a_g3, g), h2)) ∧ IL P τ1 en2 ∧ en2.getD i 0 = j32 (en.getD i 0 + dir u)) ∨ (c = 2 ∧ ∃ τ', x = some τ' ∧ IL P τ' en') ∨ (c = 1 ∧ IL P rt vals_w)))) :
    ∀ (k m : Nat) (en : List Int) (h : XH), IL P τ1 en → QK P T J h → mea u (en.getD i 0) ≤ m → m < k → ∃ c vals_w en' h', s_loop C'_w B' P'_w k en ((a_g3, g), h) = some (c, vals_w, en', ((a_g3, g), h')) ∧ QK P T J h' ∧ KR T h h' ∧ OutQ P rt (x, none, none) c vals_w en' := by
  intro k
  induction k with
  | zero => exact fun m en h _ _ _ hk => absurd hk (by omega)
  | succ k ih_w =>
    intro m en h hv hQ hm_w hk
    obtain ⟨v, h2, e1_w, e2_w, e3_w, e4_w, e5_w⟩ := hC en h hv hQ
    by_cases hv0 : v = 0
    · obtain ⟨τ', x1_w, x2_w⟩ := e4_w hv0
      refine ⟨0, [], en, h2, ?_, e2_w, e3_w, Or.inl ⟨rfl, τ', x1_w, x2_w⟩⟩
      unfold s_loop
      rw [e1_w, Option.bind_some]
      exact if_pos hv0
    · obtain ⟨e6_w, c, vals_w, en', h3, f1_w, f2_w, f3_w, f4_w⟩ := e5_w hv0
      have hs : s_loop C'_w B' P'_w (k + 1) en ((a_g3, g), h) = (if c = 0 ∨ c = 3 then (P'_w en' ((a_g3, g), h3)).bind fun q => if q.1 = 0 then s_loop C'_w B' P'_w k q.2.2.1 q.2.2.2 else none else if c = 2 then some (0, [], en', ((a_g3, g), h3)) else some (c, vals_w, en', ((a_g3, g), h3))) := by
        conv => lhs; unfold s_loop
        rw [e1_w, Option.bind_some]
        refine (if_neg hv0).trans ?_
        dsimp only
        rw [f1_w, Option.bind_some]
      rcases f4_w with ⟨hc_w, en2, p1_w, p2_w, p3_w⟩ | ⟨rfl, τ', p1_w, p2_w⟩ | ⟨rfl, p1_w⟩
      · have hml := mea_lt (hin en hv) e6_w
        cases m with
        | zero => exact absurd hml (by omega)
        | succ m =>
          obtain ⟨c9, v9, n9, h9, q1_w, q2_w, q3_w, q4_w⟩ := ih_w m en2 h3 p2_w f2_w (by rw [p3_w]; omega) (by omega)
          refine ⟨c9, v9, n9, h9, ?_, q2_w, (e3_w.tr f3_w).tr q3_w, q4_w⟩
          rw [hs, if_pos hc_w, p1_w, Option.bind_some]
          exact q1_w
      · refine ⟨0, [], en', h3, ?_, f2_w, e3_w.tr f3_w, Or.inl ⟨rfl, τ', p1_w, p2_w⟩⟩
        rw [hs]
        rfl
      · refine ⟨1, vals_w, en', h3, ?_, f2_w, e3_w.tr f3_w, Or.inr (Or.inl ⟨rfl, p1_w⟩)⟩
        rw [hs]
        rfl
theorem InI_of {t : IT} {v : Int} (h : i_is t = true) (hv : IV P t v) : InI v := (IV.int h hv).2.2
theorem IL_setD {i : Nat} {en : List Int} {l : List IT} (hi_w : i < l.length) (hv : IL P l en) (v : Int) : (en.set i v).getD i 0 = v := t_setD (by rw [IL.len hv]; exact hi_w)
theorem qlp_ok {i : Nat} {u c3 : Bool} {TA : List IT → QO} {TB : List IT → Option QTB} {C'_w : XE} {B' P'_w : XR} (hK_w : 4294967300 ≤ K)
    (hA : ∀ τ us τt τf, TA τ = some (us, τt, τf) → TotI P T J g τ us τt τf C'_w)
    (hB_w : c3 = true → ∀ τ o, TB τ = some o → TotQ P T J g rt τ o B')
    (hN_w : c3 = true → KpL i B')
    (hP : c3 = true → ∀ en st, P'_w en st = some (0, [], en.set i (j32 (en.getD i 0 + dir u)), st))
    (hB2 : c3 = false → ∀ en st, B' en st = some (0, [], en.set i (j32 (en.getD i 0 + dir u)), st))
    (hP2 : c3 = false → ∀ en st, P'_w en st = some (0, [], en, st)) : ∀ (n : Nat) (τ : List IT) (o : QTB), q_lp i u c3 TA TB n τ = some o → TotQ P T J g rt τ o (s_loop C'_w B' P'_w K)
  | 0, _, _, h => by cases h
  | n + 1, τ, o, h => by
    unfold q_lp at h
    obtain ⟨hi0_w, h⟩ : (Nat.blt i τ.length && i_is (τ.getD i (0, 0, 0))) = true ∧ _ = some o := by
      cases hb_w : Nat.blt i τ.length && i_is (τ.getD i (0, 0, 0)) with
      | true => rw [hb_w] at h; exact ⟨rfl, h⟩
      | false => rw [hb_w] at h; cases h
    rw [Bool.and_eq_true, Nat.blt_eq] at hi0_w
    obtain ⟨hi_w, hii⟩ := hi0_w
    obtain ⟨x, a1_w, h⟩ := j_bd h
    obtain ⟨a2, h⟩ := b_ifx h
    obtain ⟨ob, b1, h⟩ := j_bd h
    obtain ⟨e, b2, h⟩ := j_bd h
    obtain ⟨ex_w, b3, h⟩ := j_bd h
    rw [Bool.and_eq_true] at a2
    have hcond := hA _ _ _ _ (q_one_s a1_w)
    have hdir : ∀ v : Int, j_iop 0 v (dir u) = j32 (v + dir u) := fun _ => rfl
    have hdi : IV P (bif u then ((1, 1, 1) : IT) else (1, -1, -1)) (dir u) := by
      cases u
      · exact ⟨Int.le_refl _, Int.le_refl _, by decide, by decide⟩
      · exact ⟨Int.le_refl _, Int.le_refl _, by decide, by decide⟩
    have hin : ∀ en, IL P τ en → InI (en.getD i 0) := fun en hv => InI_of hii (IL.at i hv)
    have main_w : (∀ w, e = some w → i_subs (w.set i (i_op 0 (x.2.1.getD i (0, 0, 0)) (bif u then (1, 1, 1) else (1, -1, -1)))) τ = true) → TotQ P T J g rt τ (ex_w, none, none) (s_loop C'_w B' P'_w K) := by
      intro hw en h hQ hv
      refine qlp_run (x := ex_w) (u := u) (i := i) hin (fun en h hv hQ => ?_) K _ en h hv hQ (Nat.le_refl _) (Nat.lt_of_lt_of_le (mea_b (hin en hv)) hK_w)
      obtain ⟨v, h', e1_w, e2_w, e3_w, -, e5_w, e6_w⟩ := qi_one hcond hQ hv
      refine ⟨v, h', e1_w, e2_w, e3_w, fun h0 => ?_, fun h0 => ?_⟩
      · obtain ⟨τ', j1, j2_w⟩ := qjoin_l (P := P) b3 _ rfl
        exact ⟨τ', j1, j2_w _ (e6_w h0)⟩
      · have hvt := e5_w h0
        have hat := IL.at i hvt
        obtain ⟨w1_w, w2_w, w3_w⟩ := IV.int a2.1 hat
        refine ⟨?_, ?_⟩
        · cases u with
          | true =>
            have := a2.2
            simp only [cond_true, decide_eq_true_eq] at this
            rw [if_pos rfl]
            omega
          | false =>
            have := a2.2
            simp only [cond_false, decide_eq_true_eq] at this
            rw [if_neg (by decide)]
            omega
        · have back : ∀ (τ3 : List IT) (en1 : List Int), (ob.1 = some τ3 ∨ ob.2.2 = some τ3) → IL P τ3 en1 → en1.getD i 0 = en.getD i 0 → IL P τ (en1.set i (j32 (en1.getD i 0 + dir u))) ∧ (en1.set i (j32 (en1.getD i 0 + dir u))).getD i 0 = j32 (en.getD i 0 + dir u) := by
            intro τ3 en1 h3 hv3 heq
            obtain ⟨w, j1, j2_w⟩ : ∃ w, e = some w ∧ ∀ en, IL P τ3 en → IL P w en := by
              rcases h3 with h3 | h3
              · exact qjoin_l (P := P) b2 _ h3
              · exact qjoin_r (P := P) b2 _ h3
            have hs := hw w j1
            have hlen : w.length = τ.length := by
              have := isubs_len hs
              rwa [List.length_set] at this
            have hvw := j2_w _ hv3
            refine ⟨IL.sub hs (IL.set i hvw ?_), ?_⟩
            · rw [heq, ← hdir]
              exact i_op_ok hat hdi
            · rw [IL_setD (by omega) hvw, heq]
          cases c3 with
          | true =>
            have b1' : TB x.2.1 = some ob := b1
            obtain ⟨c, vals_w, en', h2, f1_w, f2_w, f3_w, f4_w⟩ := hB_w rfl _ _ b1' en h' e2_w hvt
            have hk := hN_w rfl _ _ _ _ _ _ f1_w
            refine ⟨c, vals_w, en', h2, f1_w, f2_w, f3_w, ?_⟩
            rcases f4_w with ⟨rfl, τ3, k1_w, k2⟩ | ⟨rfl, k⟩ | ⟨rfl, τ3, k1_w, k2⟩ | ⟨rfl, τ3, k1_w, k2⟩
            · obtain ⟨m1_w, m2_w⟩ := back τ3 en' (Or.inl k1_w) k2 hk
              exact Or.inl ⟨Or.inl rfl, _, hP rfl _ _, m1_w, m2_w⟩
            · exact Or.inr (Or.inr ⟨rfl, k⟩)
            · obtain ⟨τ', j1, j2_w⟩ := qjoin_r (P := P) b3 _ k1_w
              exact Or.inr (Or.inl ⟨rfl, τ', j1, j2_w _ k2⟩)
            · obtain ⟨m1_w, m2_w⟩ := back τ3 en' (Or.inr k1_w) k2 hk
              exact Or.inl ⟨Or.inr rfl, _, hP rfl _ _, m1_w, m2_w⟩
          | false =>
            have b1' : some (some x.2.1, none, none) = some ob := b1
            cases b1'
            obtain ⟨m1_w, m2_w⟩ := back x.2.1 en (Or.inl rfl) hvt rfl
            exact ⟨0, [], _, h', hB2 rfl _ _, e2_w, KR.rf, Or.inl ⟨Or.inl rfl, _, hP2 rfl _ _, m1_w, m2_w⟩⟩
    cases e with
    | none =>
      cases h
      exact main_w (fun w hw => by cases hw)
    | some w =>
      dsimp only at h
      cases hs : i_subs (w.set i (i_op 0 (x.2.1.getD i (0, 0, 0)) (bif u then (1, 1, 1) else (1, -1, -1)))) τ with
      | true =>
        rw [hs] at h
        cases h
        exact main_w (fun w' hw => by cases hw; exact hs)
      | false =>
        rw [hs, cond_false] at h
        obtain ⟨h1, h⟩ := b_ifx h
        have hlen : τ.length = (w.set i (i_op 0 (x.2.1.getD i (0, 0, 0)) (bif u then (1, 1, 1) else (1, -1, -1)))).length := by
          rw [List.length_set]
          simpa using h1
        have hz : ∀ (a b : IT) (v : Int), IV P a v → IV P ((bif Nat.ble n 2 then i_wid else i_lub) a b) v := fun a b v hv => by
          cases Nat.ble n 2
          · exact ilub_l hv
          · exact wid_l hv
        have ih_w := qlp_ok hK_w hA hB_w hN_w hP hB2 hP2 n _ _ h
        exact fun en h' hQ hv => ih_w en h' hQ (zip_l hz hlen hv)
end QS_w
