/-! ===== the third reading of statements ===== -/
abbrev TO : Type := Option (List Nat) × Option (List Nat) × Option (List Nat)
def t_join (x y : Option (List Nat)) : Option (Option (List Nat)) := match x, y with
  | none, y => some y
  | x, none => some x
  | some a, some b => if a.length = b.length then some (some (t_lubs a b)) else none
def t_joins (x y : TO) : Option TO := (t_join x.1 y.1).bind fun a => (t_join x.2.1 y.2.1).bind fun b => (t_join x.2.2 y.2.2).bind fun c => some (a, b, c)
def t_no (i : Nat) (τ : List Nat) : Bool := τ.all fun t => !(t == 300 + i)
/-- a loop's counter: where it lies, does it go up -/
def lp_up (i : Nat) : SX → Bool
  | .op (.var 25) (.op a (.op b _)) => lp_up i a || lp_up i b
  | .op (.var 20) (.op (.op (.var 3) (.op (.var j) (.op _ _))) (.op b (.var k))) => j == i && (k == 2 || (k == 5 && (match b with
    | .op (.var 1) (.op a' (.op b' c')) => sx_n b' == 1 && decide (sx_c a' b' c' < 2147483647)
    | _ => false)))
  | _ => false
def lp_dn (i : Nat) : SX → Bool
  | .op (.var 25) (.op a (.op b _)) => lp_dn i a || lp_dn i b
  | .op (.var 21) (.op (.op (.var 3) (.op (.var j) (.op _ _))) (.op _ (.var k))) => j == i && k == 3
  | _ => false
def lp_inc : SX → Option (Nat × Bool)
  | .op (.var 4) (.op (.var i) (.op (.var 1) (.var c))) => some (i, c == 0)
  | _ => none
/-- the counter's step: behind the body, or the body itself -/
def lp_step (b c : SX) : Option (Nat × Bool × Bool) := match lp_inc c with
  | some (i, u) => some (i, u, true)
  | none => match c with
    | .op (.var 1) (.op _ (.op _ _)) => (match b with
      | .op (.var 20) (.op b' (.op _ _)) => (lp_inc b').map fun q => (q.1, q.2, false)
      | _ => none)
    | _ => none
/-- a loop's body from the kinds at its head: what stands behind it, and where it breaks -/
def ty_lp (T : TT) (i : Nat) (c3 : Bool) (A : List Nat → Option (List Nat)) (B : List Nat → Option TO) : Nat → List Nat → Option TO
  | 0, _ => none
  | n + 1, τ => let τ1 := τ.set i 1
    let th := τ1.set i (300 + i)
    if i < τ.length ∧ t_no i τ1 = true ∧ isI (t_one (A th)) = true ∧ t_sub (τ.getD i 0) 1 = true then
      (if c3 then B th else some (some th, none, none)).bind fun ob => (t_join ob.1 ob.2.2).bind fun e =>
        (t_join (some τ1) ob.2.1).bind fun ex => match ex with
        | none => none
        | some x => if t_no i x = true then match e with
            | none => some (some x, none, none)
            | some w => if w.getD i 0 = 300 + i then
                (if t_subs (w.set i 1) τ1 = true then some (some x, none, none) else if τ1.length = (w.set i 1).length then ty_lp T i c3 A B n (t_lubs τ1 (w.set i 1)) else none) else none
          else none
    else none
def ty_first (A : Option (List Nat)) (x : Option TO) : Option TO := if isI (t_one A) = true then x else none
def tySN (T : TT) (rt : List Nat) (thr : Bool) (t : Nat) (a b c : SX) (A B C : (List Nat → Option TO) × (List Nat → Option TO)) : (List Nat → Option TO) × (List Nat → Option TO) :=
  (fun τ => match t with
  | 1 => some (some τ, none, none)
  | 22 => some (some τ, none, none)
  | 2 => (A.1 τ).bind fun o => match o.1 with
    | none => some o
    | some τ1 => (B.1 τ1).bind fun q => t_joins (none, o.2) q
  | 3 => let u := t_one (tyF T τ b)
    if u ≠ 0 ∧ sx_n a < τ.length then some (some (τ.set (sx_n a) u), none, none) else none
  | 4 => if isI (τ.getD (sx_n a) 0) = true ∨ 300 ≤ τ.getD (sx_n a) 0 then some (some (τ.set (sx_n a) 1), none, none) else none
  | 5 => let ta := t_one (tyF T τ a)
    let kd := (T.1 (ta - 10)).getD (sx_n c) 0
    if 10 ≤ ta ∧ ta < 100 ∧ T.2.2.2.2 (ta - 10) (sx_n c) = true ∧ ((kd = 1 ∧ isI (t_one (tyF T τ b)) = true) ∨ (kd = 2 ∧ t_one (tyF T τ b) = 2)) then some (some τ, none, none) else none
  | 6 => let ta := t_one (tyF T τ a)
    let kd := (T.1 (ta - 10)).getD (sx_n c / 16) 0
    if 10 ≤ ta ∧ ta < 100 ∧ T.2.2.2.2 (ta - 10) (sx_n c / 16) = true ∧ kd = 1 ∧ isI (t_one (tyF T τ b)) = true then some (some τ, none, none) else none
  | 23 => let ta := t_one (tyF T τ a)
    let kd := (T.1 (ta - 10)).getD (sx_n c) 0
    if 10 ≤ ta ∧ ta < 100 ∧ T.2.2.2.2 (ta - 10) (sx_n c) = true ∧ kd = 100 ∧ t_one (tyF T τ b) = 100 then some (some τ, none, none) else none
  | 9 => match tyF T τ a with
    | some _ => some (some τ, none, none)
    | none => none
  | 10 => ty_first (tyF T τ a) ((B.1 τ).bind fun o => t_joins o (some τ, none, none))
  | 11 => ty_first (tyF T τ a) ((B.1 τ).bind fun o => (C.1 τ).bind fun q => t_joins o q)
  | 28 => ty_first (tyF T τ a) ((B.1 τ).bind fun o => t_joins o (none, some τ, none))
  | 12 => match lp_step b c with
    | some (i, u, c3) => if (if u then lp_up i a else lp_dn i a) = true then ty_lp T i c3 (fun t => tyF T t a) B.1 6 τ else none
    | none => none
  | 14 => some (none, some τ, none)
  | 15 => some (none, none, some τ)
  | 16 => match tyF T τ a with
    | some x => if t_subs x rt = true then some (none, none, none) else none
    | none => none
  | 27 => if t_one (tyF T τ a) = 100 ∧ rt = [100] then some (none, none, none) else none
  | 17 => if rt = [] then some (none, none, none) else none
  | 18 => if thr = true then some (none, none, none) else none
  | 19 => ty_first (tyF T τ a) ((B.2 τ).bind fun o => (t_join o.1 o.2.1).bind fun e => some (e, none, o.2.2))
  | 20 => A.1 τ
  | _ => none,
  fun τ => match t with
  | 25 => (B.1 τ).bind fun o => if o.1 = none then (C.2 τ).bind fun q => t_joins o q else none
  | 26 => A.1 τ
  | _ => none)
def tyS (T : TT) (rt : List Nat) (thr : Bool) : SX → (List Nat → Option TO) × (List Nat → Option TO)
  | .op (.var t) (.op a (.op b c)) => tySN T rt thr t a b c (tyS T rt thr a) (tyS T rt thr b) (tyS T rt thr c)
  | _ => (fun _ => none, fun _ => none)
/-- a method by itself -/
def tyM (T : TT) (M : Nat → XM) (THR : Nat → Bool) (f : Nat) : Bool := match (tyS T (T.2.2.1 f) (THR f) (M f).2.2.2.2).1 (j_pad 0 (M f).2.1 (j_layT (T.2.1 f))) with
  | some (none, none, none) => (j_layT (T.2.1 f)).length ≤ (M f).2.1
  | _ => false
