/-! ===== a small language: numbers are Int, cells by number, the shape of the world apart from its numbers ===== -/
abbrev SX : Type := Lean.Data.AC.Expr
abbrev XH : Type := Nat → Nat → Int
abbrev XC : Type := Nat × Nat × List (Nat × Nat)
abbrev XS : Type := List XC
abbrev XT : Type := (XS × Nat × Nat) × XH
abbrev XK : Type := Nat → Option (Nat × Nat × Nat × Int)
abbrev XD : Type := Nat → Option (Instr × Nat)
def j32 (x : Int) : Int := (Int32.ofInt x).toInt
def j64 (x : Int) : Int := (Int64.ofInt x).toInt
def j_iop (k : Nat) (x y : Int) : Int := match k with
  | 0 => j32 (x + y)
  | 1 => j32 (x - y)
  | 2 => j32 (x * y)
  | 3 => (Int32.ofInt x &&& Int32.ofInt y).toInt
  | 4 => (Int32.ofInt x ||| Int32.ofInt y).toInt
  | 5 => (Int32.ofInt x ^^^ Int32.ofInt y).toInt
  | 6 => (Int32.ofInt x <<< (Int32.ofInt y &&& 31)).toInt
  | 7 => (Int32.ofInt x >>> (Int32.ofInt y &&& 31)).toInt
  | _ => ((Int32.ofInt x).toUInt32 >>> ((Int32.ofInt y).toUInt32 &&& Int32.toUInt32 31)).toInt32.toInt
def j_lop (k : Nat) (x y : Int) : Int := match k with
  | 0 => j64 (x + y)
  | 1 => j64 (x - y)
  | 2 => j64 (x * y)
  | 3 => (Int64.ofInt x &&& Int64.ofInt y).toInt
  | _ => (Int64.ofInt x ||| Int64.ofInt y).toInt
def j_lsh (k : Nat) (x y : Int) : Int := match k with
  | 0 => (Int64.ofInt x <<< ((Int32.ofInt y).toInt64 &&& 63)).toInt
  | 1 => (Int64.ofInt x >>> ((Int32.ofInt y).toInt64 &&& 63)).toInt
  | _ => ((Int64.ofInt x).toUInt64 >>> ((Int32.ofInt y).toInt64.toUInt64 &&& Int64.toUInt64 63)).toInt64.toInt
def j_div (k : Nat) (x y : Int) : Int := match k with
  | 0 => j32 (x.tdiv y)
  | 1 => x.tmod y
  | 2 => j64 (x.tdiv y)
  | _ => x.tmod y
def j_un (k : Nat) (x : Int) : Int := match k with
  | 0 => j32 (-x)
  | 1 => j64 (-x)
  | 2 => x
  | 3 => j32 x
  | _ => ((Int32.ofInt x).toInt8.toInt32).toInt
def j_cmp (k : Nat) (x y : Int) : Bool := match k with
  | 0 => decide (x = y)
  | 1 => decide (x ≠ y)
  | 2 => decide (x < y)
  | 3 => decide (x ≥ y)
  | 4 => decide (x > y)
  | _ => decide (x ≤ y)
def j_b (b : Bool) : Int := if b then 1 else 0
def j_hd (x : List Int) : Int := x.headD 0
def j_up (h : XH) (o k : Nat) (v : Int) : XH := fun a b => if a = o ∧ b = k then v else h a b
def j_len (g : XS) (o : Nat) : Int := match g[o]? with
  | some (_, n, _) => (n : Int)
  | none => 0
def j_rf (g : XS) (o k : Nat) : Option Int := match g[o]? with
  | some (_, _, sl) => match sl[k]? with
    | some (_, r + 1) => some (r : Int)
    | _ => none
  | none => none
def j_setR (g : XS) (o k : Nat) (r : Nat) : XS := match g[o]? with
  | some (kd, n, sl) => match sl[k]? with
    | some (ty, _) => g.set o (kd, n, sl.set k (ty, r + 1))
    | none => g
  | none => g
def sx_n (x : SX) : Nat := match x with
  | .var n => n
  | _ => 0
def sx_l : SX → List Nat
  | .op (.var n) r => n :: sx_l r
  | _ => []
/-- a label: n / 2, less than 0 where n is odd -/
def sx_z (n : Nat) : Int := if n % 2 = 0 then ((n / 2 : Nat) : Int) else -((n / 2 + 1 : Nat) : Int)
abbrev XP : Type := Nat → List Int → XT → Option (Nat × List Int × XT)
abbrev XE : Type := List Int → XT → Option (List Int × XT)
abbrev XR : Type := List Int → XT → Option (Nat × List Int × List Int × XT)
section JEV
variable (xs : Nat → Int) (L : Nat) (ck : Nat → List Nat) (F : XP)
def n_aload (k : Nat) (A B : XE) : XE := fun en st => (A en st).bind fun x => (B en x.2).bind fun y =>
  match k with
  | 0 => if 0 ≤ j_hd y.1 ∧ j_hd y.1 < j_len y.2.1.1 (j_hd x.1).toNat then some ([y.2.2 (j_hd x.1).toNat (j_hd y.1).toNat], y.2) else none
  | 1 => if 0 ≤ j_hd y.1 ∧ j_hd y.1 < (L : Int) then some ([xs (j_hd y.1).toNat], y.2) else none
  | _ => if 0 ≤ j_hd y.1 ∧ j_hd y.1 < 24 then some ([j_hd y.1], y.2) else none
def n_alen (k : Nat) (A : XE) : XE := fun en st => (A en st).bind fun x =>
  match k with
  | 0 => some ([j_len x.2.1.1 (j_hd x.1).toNat], x.2)
  | 1 => some ([(L : Int)], x.2)
  | _ => some ([24], x.2)
def n_bin (op : Int → Int → Int) (A B : XE) : XE := fun en st => (A en st).bind fun x => (B en x.2).bind fun y => some ([op (j_hd x.1) (j_hd y.1)], y.2)
def n_cmp (op : Int → Int → Bool) (A B : XE) : XE := fun en st => (A en st).bind fun x => (B en x.2).bind fun y => some ([j_b (op (j_hd x.1) (j_hd y.1))], y.2)
def n_nz (B : XE) : XE := fun en st => (B en st).bind fun x => some ([j_b (decide (j_hd x.1 ≠ 0))], x.2)
def n_ife (A B C : XE) : XE := fun en st => (A en st).bind fun x => if j_hd x.1 = 0 then C en x.2 else B en x.2
def n_call (f : Nat) (A : XE) : XE := fun en st => (A en st).bind fun x => (F f x.1 x.2).bind fun r => if r.1 = 1 then some r.2 else none
/-- codeW, keptW of the Word -/
def n_wf (cW : Nat → Nat → Int) (k : Nat) (A : XE) : XE := fun en st => (A en st).bind fun x => some ([cW k (j_hd x.1).toNat], x.2)
def n_new (ci f : Nat) (A : XE) : XE := fun en st =>
  let o := st.1.1.length
  (A en ((st.1.1 ++ [(10 + ci, 0, (ck ci).map fun k => (k, 0))], st.1.2.1 + 1, st.1.2.2 + (ck ci).length), fun a b => if a = o then 0 else st.2 a b)).bind fun x =>
    (F f ((o : Int) :: x.1) x.2).bind fun r => if r.1 = 1 then some ([(o : Int)], r.2.2) else none
def n_newa (ty : Nat) (A : XE) : XE := fun en st => (A en st).bind fun x =>
  if 0 ≤ j_hd x.1 ∧ j_hd x.1 ≤ 67108864 then
    let o := x.2.1.1.length
    some ([(o : Int)], ((x.2.1.1 ++ [(ty, (j_hd x.1).toNat, [])], x.2.1.2.1 + 1, x.2.1.2.2 + (j_hd x.1).toNat), fun a b => if a = o then 0 else x.2.2 a b))
  else none
/-- the array that A answers, then a place of it gets B's value -/
def n_ainit (i : Nat) (A B : XE) : XE := fun en st => (A en st).bind fun x => (B en x.2).bind fun y =>
  if (i : Int) < j_len y.2.1.1 (j_hd x.1).toNat then some (x.1, (y.2.1, j_up y.2.2 (j_hd x.1).toNat i (j_hd y.1))) else none
def nodeE (cW : Nat → Nat → Int) (t : Nat) (a b c : SX) (A B C : XE) : XE := match t with
  | 1 => fun _ st => some ([if sx_n c = 0 then (sx_n a : Int) else -(sx_n a : Int)], st)
  | 3 => fun en st => some ([en.getD (sx_n a) 0], st)
  | 4 => fun en st => (A en st).bind fun x => some ([x.2.2 (j_hd x.1).toNat (sx_n b)], x.2)
  | 5 => fun en st => (A en st).bind fun x => (j_rf x.2.1.1 (j_hd x.1).toNat (sx_n b)).bind fun r => some ([r], x.2)
  | 7 => n_aload xs L (sx_n c) A B
  | 10 => n_alen L (sx_n c) A
  | 13 => n_wf cW (sx_n c) A
  | 14 => n_bin (j_iop (sx_n c)) A B
  | 15 => n_bin (j_lop (sx_n c)) A B
  | 16 => n_bin (j_lsh (sx_n c)) A B
  | 17 => fun en st => (A en st).bind fun x => (B en x.2).bind fun y => if j_hd y.1 = 0 then none else some ([j_div (sx_n c) (j_hd x.1) (j_hd y.1)], y.2)
  | 18 => fun en st => (A en st).bind fun x => some ([j_un (sx_n c) (j_hd x.1)], x.2)
  | 20 => n_cmp (j_cmp (sx_n c)) A B
  | 21 => fun en st => (A en st).bind fun x => some ([j_b (j_cmp (sx_n c) (j_hd x.1) 0)], x.2)
  | 22 => n_cmp (j_cmp (sx_n c)) A B
  | 23 => n_cmp (j_cmp (sx_n c)) A B
  | 24 => A
  | 25 => n_ife A (n_nz B) (fun _ st => some ([0], st))
  | 26 => n_ife A (fun _ st => some ([1], st)) (n_nz B)
  | 27 => fun en st => (A en st).bind fun x => some ([j_b (decide (j_hd x.1 = 0))], x.2)
  | 28 => n_ife A B C
  | 30 => fun en st => (A en st).bind fun x => (B en x.2).bind fun y => some (x.1 ++ y.1, y.2)
  | 31 => fun _ st => some ([], st)
  | 32 => n_call F (sx_n b) A
  | 34 => n_new ck F (sx_n b) (sx_n c) A
  | 35 => n_newa (sx_n b) A
  | 36 => n_ainit (sx_n c) A B
  | _ => fun _ _ => none
def evE (cW : Nat → Nat → Int) : SX → XE
  | .op (.var t) (.op a (.op b c)) => nodeE xs L ck F cW t a b c (evE cW a) (evE cW b) (evE cW c)
  | _ => fun _ _ => none
def s_seq (A B : XR) : XR := fun en st => (A en st).bind fun r => if r.1 = 0 then B r.2.2.1 r.2.2.2 else some r
def s_loop (C : XE) (B P : XR) : Nat → XR
  | 0 => fun _ _ => none
  | k + 1 => fun en st => (C en st).bind fun x => if j_hd x.1 = 0 then some (0, [], en, x.2) else
      (B en x.2).bind fun r =>
        if r.1 = 0 ∨ r.1 = 3 then (P r.2.2.1 r.2.2.2).bind fun q => if q.1 = 0 then s_loop C B P k q.2.2.1 q.2.2.2 else none
        else if r.1 = 2 then some (0, [], r.2.2.1, r.2.2.2) else some r
def s_do (B : XR) (C : XE) : Nat → XR
  | 0 => fun _ _ => none
  | k + 1 => fun en st => (B en st).bind fun r =>
      if r.1 = 0 ∨ r.1 = 3 then (C r.2.2.1 r.2.2.2).bind fun x => if j_hd x.1 = 0 then some (0, [], r.2.2.1, x.2) else s_do B C k r.2.2.1 x.2
      else if r.1 = 2 then some (0, [], r.2.2.1, r.2.2.2) else some r
def s_putf (k : Nat) (A B : XE) : XR := fun en st => (A en st).bind fun x => (B en x.2).bind fun y => some (0, [], en, (y.2.1, j_up y.2.2 (j_hd x.1).toNat k (j_hd y.1)))
def s_putfC (k op : Nat) (A B : XE) : XR := fun en st => (A en st).bind fun x => (B en x.2).bind fun y => some (0, [], en, (y.2.1, j_up y.2.2 (j_hd x.1).toNat k (j_iop op (x.2.2 (j_hd x.1).toNat k) (j_hd y.1))))
def s_ast (ty : Nat) (A B C : XE) : XR := fun en st => (A en st).bind fun x => (B en x.2).bind fun y => (C en y.2).bind fun z =>
  if 0 ≤ j_hd y.1 ∧ j_hd y.1 < j_len z.2.1.1 (j_hd x.1).toNat then some (0, [], en, (z.2.1, j_up z.2.2 (j_hd x.1).toNat (j_hd y.1).toNat (match ty with
    | 8 => ((Int32.ofInt (j_hd z.1)).toInt8.toInt32).toInt
    | 9 => (Int32.ofInt (j_hd z.1) &&& 1).toInt
    | _ => j_hd z.1))) else none
def s_astC (op : Nat) (A B C : XE) : XR := fun en st => (A en st).bind fun x => (B en x.2).bind fun y =>
  if 0 ≤ j_hd y.1 ∧ j_hd y.1 < j_len y.2.1.1 (j_hd x.1).toNat then (C en y.2).bind fun z =>
    if j_hd y.1 < j_len z.2.1.1 (j_hd x.1).toNat then some (0, [], en, (z.2.1, j_up z.2.2 (j_hd x.1).toNat (j_hd y.1).toNat (j_iop op (y.2.2 (j_hd x.1).toNat (j_hd y.1).toNat) (j_hd z.1)))) else none else none
def s_if (A : XE) (B C : XR) : XR := fun en st => (A en st).bind fun x => if j_hd x.1 = 0 then C en x.2 else B en x.2
def s_sw (A : XE) (B : XR) : XR := fun en st => (A en st).bind fun x => (B (j_hd x.1 :: en) x.2).bind fun r => if r.1 = 2 then some (0, r.2) else some r
/-- out[0] = f(..), caught: answers 1; else goes on -/
def s_try (f : Nat) (A B : XE) : XR := fun en st => (A en st).bind fun x => (B en x.2).bind fun y => (F f y.1 y.2).bind fun r =>
  if r.1 = 1 then (if 0 < j_len r.2.2.1.1 (j_hd x.1).toNat then some (0, [], en, (r.2.2.1, j_up r.2.2.2 (j_hd x.1).toNat 0 (j_hd r.2.1))) else none)
  else if r.1 = 4 then some (1, [1], en, r.2.2) else none
variable (K : Nat)
def nodeS (cW : Nat → Nat → Int) (t : Nat) (a b c : SX) (A B C : XR) : XR :=
  let e := evE xs L ck F cW
  match t with
  | 1 => fun en st => some (0, [], en, st)
  | 2 => s_seq A B
  | 3 => fun en st => (e b en st).bind fun x => some (0, [], en.set (sx_n a) (j_hd x.1), x.2)
  | 4 => fun en st => some (0, [], en.set (sx_n a) (j32 (en.getD (sx_n a) 0 + (if sx_n c = 0 then (sx_n b : Int) else -(sx_n b : Int)))), st)
  | 5 => s_putf (sx_n c) (e a) (e b)
  | 6 => s_putfC (sx_n c / 16) (sx_n c % 16) (e a) (e b)
  | 7 => match c with
    | .op (.var ty) v => s_ast ty (e a) (e b) (e v)
    | _ => fun _ _ => none
  | 8 => match c with
    | .op (.var op) v => s_astC op (e a) (e b) (e v)
    | _ => fun _ _ => none
  | 9 => fun en st => (e a en st).bind fun x => some (0, [], en, x.2)
  | 10 => s_if (e a) B (fun en st => some (0, [], en, st))
  | 11 => s_if (e a) B C
  | 12 => s_loop (e a) B C K
  | 13 => s_do B (e a) K
  | 14 => fun en st => some (2, [], en, st)
  | 15 => fun en st => some (3, [], en, st)
  | 16 => fun en st => (e a en st).bind fun x => some (1, x.1, en, x.2)
  | 27 => fun en st => (e a en st).bind fun x => if j_hd x.1 = 0 ∨ j_hd x.1 = 1 then some (1, x.1, en, x.2) else none
  | 17 => fun en st => some (1, [], en, st)
  | 18 => fun en st => some (4, [], en, ((st.1.1, st.1.2.1 + 1, st.1.2.2 + 6), st.2))
  | 19 => s_sw (e a) B
  | 20 => A
  | 21 => fun en st => (e a en st).bind fun x => (e b en x.2).bind fun y => some (0, [], en, ((j_setR y.2.1.1 (j_hd x.1).toNat (sx_n c) (j_hd y.1).toNat, y.2.1.2), y.2.2))
  | 22 => fun en st => some (0, [], en, st)
  | 23 => fun en st => (e a en st).bind fun x => (e b en x.2).bind fun y => if j_hd y.1 = 0 ∨ j_hd y.1 = 1 then some (0, [], en, (y.2.1, j_up y.2.2 (j_hd x.1).toNat (sx_n c) (j_hd y.1))) else none
  | 24 => s_try F (sx_n c) (e a) (e b)
  | 28 => s_if (e a) B (fun en st => some (2, [], en, st))
  | 25 => fun en st => if (sx_l a).any (fun n => decide (en.headD 0 = sx_z n)) then (B en.tail st).bind fun r => if r.1 = 0 then none else some r else C en st
  | 26 => fun en st => A en.tail st
  | _ => fun _ _ => none
def evS (cW : Nat → Nat → Int) : SX → XR
  | .op (.var t) (.op a (.op b c)) => nodeS xs L ck F K cW t a b c (evS cW a) (evS cW b) (evS cW c)
  | _ => fun _ _ => none
end JEV
def j_lay : List Nat → List Int → List Int
  | k :: ks, v :: vs => if k = 2 then v :: 0 :: j_lay ks vs else v :: j_lay ks vs
  | [], _ => []
  | _ :: _, [] => []
def j_layT : List Nat → List Nat
  | k :: ks => if k = 2 then 2 :: 0 :: j_layT ks else k :: j_layT ks
  | [] => []
def j_pad {α : Type} (z : α) (n : Nat) (l : List α) : List α := l ++ List.replicate (n - l.length) z
/-- a method: own class, maxLocals, kinds of its arguments, of its answer, body -/
abbrev XM : Type := Nat × Nat × List Nat × List Nat × SX
def evF (xs : Nat → Int) (L : Nat) (ck : Nat → List Nat) (K : Nat) (cW : Nat → Nat → Int) (M : Nat → XM) : Nat → XP
  | 0 => fun _ _ _ => none
  | n + 1 => fun f args st =>
    (evS xs L ck (evF xs L ck K cW M n) K cW (M f).2.2.2.2 (j_pad 0 (M f).2.1 (j_lay (M f).2.2.1 args)) st).bind fun r =>
      if (r.1 = 1 ∨ r.1 = 4) ∧ st.1.2.1 ≤ r.2.2.2.1.2.1 ∧ st.1.2.2 ≤ r.2.2.2.1.2.2 ∧ (st.1.1.map (·.1)).isPrefixOf (r.2.2.2.1.1.map (·.1)) = true then some (r.1, r.2.1, r.2.2.2) else none
