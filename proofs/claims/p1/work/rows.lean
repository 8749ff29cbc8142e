section
/-! ===== a small language: numbers are Int, cells by number, the shape of the world apart from its numbers ===== -/
abbrev SX : Type := Lean.Data.AC.Expr
abbrev XH : Type := Nat → Nat → Int
abbrev XC : Type := Nat × Nat × List (Nat × Nat)
abbrev XS : Type := List XC
abbrev XT : Type := (XS × Nat × Nat) × XH
abbrev XK : Type := Nat → Option (Nat × Nat × Nat × Int)
abbrev XD : Type := Nat → Option (Instr × Nat)
def j32 (x : Int) : Int := (Int32.ofInt x).toInt
def j64 (x : Int) : Int := (Int64.ofInt x).toInt
def j_iop (k : Nat) (x y : Int) : Int := match k with
  | 0 => j32 (x + y)
  | 1 => j32 (x - y)
  | 2 => j32 (x * y)
  | 3 => (Int32.ofInt x &&& Int32.ofInt y).toInt
  | 4 => (Int32.ofInt x ||| Int32.ofInt y).toInt
  | 5 => (Int32.ofInt x ^^^ Int32.ofInt y).toInt
  | 6 => (Int32.ofInt x <<< (Int32.ofInt y &&& 31)).toInt
  | 7 => (Int32.ofInt x >>> (Int32.ofInt y &&& 31)).toInt
  | _ => ((Int32.ofInt x).toUInt32 >>> ((Int32.ofInt y).toUInt32 &&& Int32.toUInt32 31)).toInt32.toInt
def j_lop (k : Nat) (x y : Int) : Int := match k with
  | 0 => j64 (x + y)
  | 1 => j64 (x - y)
  | 2 => j64 (x * y)
  | 3 => (Int64.ofInt x &&& Int64.ofInt y).toInt
  | _ => (Int64.ofInt x ||| Int64.ofInt y).toInt
def j_lsh (k : Nat) (x y : Int) : Int := match k with
  | 0 => (Int64.ofInt x <<< ((Int32.ofInt y).toInt64 &&& 63)).toInt
  | 1 => (Int64.ofInt x >>> ((Int32.ofInt y).toInt64 &&& 63)).toInt
  | _ => ((Int64.ofInt x).toUInt64 >>> ((Int32.ofInt y).toInt64.toUInt64 &&& Int64.toUInt64 63)).toInt64.toInt
def j_div (k : Nat) (x y : Int) : Int := match k with
  | 0 => j32 (x.tdiv y)
  | 1 => x.tmod y
  | 2 => j64 (x.tdiv y)
  | _ => x.tmod y
def j_un (k : Nat) (x : Int) : Int := match k with
  | 0 => j32 (-x)
  | 1 => j64 (-x)
  | 2 => x
  | 3 => j32 x
  | _ => ((Int32.ofInt x).toInt8.toInt32).toInt
def j_cmp (k : Nat) (x y : Int) : Bool := match k with
  | 0 => decide (x = y)
  | 1 => decide (x ≠ y)
  | 2 => decide (x < y)
  | 3 => decide (x ≥ y)
  | 4 => decide (x > y)
  | _ => decide (x ≤ y)
def j_b (b : Bool) : Int := if b then 1 else 0
def j_hd (x : List Int) : Int := x.headD 0
def j_up (h : XH) (o k : Nat) (v : Int) : XH := fun a b => if a = o ∧ b = k then v else h a b
def j_len (g : XS) (o : Nat) : Int := match g[o]? with
  | some (_, n, _) => (n : Int)
  | none => 0
def j_rf (g : XS) (o k : Nat) : Option Int := match g[o]? with
  | some (_, _, sl) => match sl[k]? with
    | some (_, r + 1) => some (r : Int)
    | _ => none
  | none => none
def j_setR (g : XS) (o k : Nat) (r : Nat) : XS := match g[o]? with
  | some (kd, n, sl) => match sl[k]? with
    | some (ty, _) => g.set o (kd, n, sl.set k (ty, r + 1))
    | none => g
  | none => g
def sx_n (x : SX) : Nat := match x with
  | .var n => n
  | _ => 0
def sx_l : SX → List Nat
  | .op (.var n) r => n :: sx_l r
  | _ => []
/-- a label: n / 2, less than 0 where n is odd -/
def sx_z (n : Nat) : Int := if n % 2 = 0 then ((n / 2 : Nat) : Int) else -((n / 2 + 1 : Nat) : Int)
abbrev XP : Type := Nat → List Int → XT → Option (Nat × List Int × XT)
abbrev XE : Type := List Int → XT → Option (List Int × XT)
abbrev XR : Type := List Int → XT → Option (Nat × List Int × List Int × XT)
section JEV
variable (xs : Nat → Int) (L : Nat) (ck : Nat → List Nat) (F : XP)
def n_aload (k : Nat) (A B : XE) : XE := fun en st => (A en st).bind fun x => (B en x.2).bind fun y =>
  match k with
  | 0 => if 0 ≤ j_hd y.1 ∧ j_hd y.1 < j_len y.2.1.1 (j_hd x.1).toNat then some ([y.2.2 (j_hd x.1).toNat (j_hd y.1).toNat], y.2) else none
  | 1 => if 0 ≤ j_hd y.1 ∧ j_hd y.1 < (L : Int) then some ([xs (j_hd y.1).toNat], y.2) else none
  | _ => if 0 ≤ j_hd y.1 ∧ j_hd y.1 < 24 then some ([j_hd y.1], y.2) else none
def n_alen (k : Nat) (A : XE) : XE := fun en st => (A en st).bind fun x =>
  match k with
  | 0 => some ([j_len x.2.1.1 (j_hd x.1).toNat], x.2)
  | 1 => some ([(L : Int)], x.2)
  | _ => some ([24], x.2)
def n_bin (op : Int → Int → Int) (A B : XE) : XE := fun en st => (A en st).bind fun x => (B en x.2).bind fun y => some ([op (j_hd x.1) (j_hd y.1)], y.2)
def n_cmp (op : Int → Int → Bool) (A B : XE) : XE := fun en st => (A en st).bind fun x => (B en x.2).bind fun y => some ([j_b (op (j_hd x.1) (j_hd y.1))], y.2)
def n_nz (B : XE) : XE := fun en st => (B en st).bind fun x => some ([j_b (decide (j_hd x.1 ≠ 0))], x.2)
def n_ife (A B C : XE) : XE := fun en st => (A en st).bind fun x => if j_hd x.1 = 0 then C en x.2 else B en x.2
def n_call (f : Nat) (A : XE) : XE := fun en st => (A en st).bind fun x => (F f x.1 x.2).bind fun r => if r.1 = 1 then some r.2 else none
/-- codeW, keptW of the Word -/
def n_wf (cW : Nat → Nat → Int) (k : Nat) (A : XE) : XE := fun en st => (A en st).bind fun x => some ([cW k (j_hd x.1).toNat], x.2)
def n_new (ci f : Nat) (A : XE) : XE := fun en st =>
  let o := st.1.1.length
  (A en ((st.1.1 ++ [(10 + ci, 0, (ck ci).map fun k => (k, 0))], st.1.2.1 + 1, st.1.2.2 + (ck ci).length), fun a b => if a = o then 0 else st.2 a b)).bind fun x =>
    (F f ((o : Int) :: x.1) x.2).bind fun r => if r.1 = 1 then some ([(o : Int)], r.2.2) else none
def n_newa (ty : Nat) (A : XE) : XE := fun en st => (A en st).bind fun x =>
  if 0 ≤ j_hd x.1 then
    let o := x.2.1.1.length
    some ([(o : Int)], ((x.2.1.1 ++ [(ty, (j_hd x.1).toNat, [])], x.2.1.2.1 + 1, x.2.1.2.2 + (j_hd x.1).toNat), fun a b => if a = o then 0 else x.2.2 a b))
  else none
/-- the array that A answers, then a place of it gets B's value -/
def n_ainit (i : Nat) (A B : XE) : XE := fun en st => (A en st).bind fun x => (B en x.2).bind fun y =>
  if (i : Int) < j_len y.2.1.1 (j_hd x.1).toNat then some (x.1, (y.2.1, j_up y.2.2 (j_hd x.1).toNat i (j_hd y.1))) else none
def nodeE (cW : Nat → Nat → Int) (t : Nat) (a b c : SX) (A B C : XE) : XE := match t with
  | 1 => fun _ st => some ([if sx_n c = 0 then (sx_n a : Int) else -(sx_n a : Int)], st)
  | 3 => fun en st => some ([en.getD (sx_n a) 0], st)
  | 4 => fun en st => (A en st).bind fun x => some ([x.2.2 (j_hd x.1).toNat (sx_n b)], x.2)
  | 5 => fun en st => (A en st).bind fun x => (j_rf x.2.1.1 (j_hd x.1).toNat (sx_n b)).bind fun r => some ([r], x.2)
  | 7 => n_aload xs L (sx_n c) A B
  | 10 => n_alen L (sx_n c) A
  | 13 => n_wf cW (sx_n c) A
  | 14 => n_bin (j_iop (sx_n c)) A B
  | 15 => n_bin (j_lop (sx_n c)) A B
  | 16 => n_bin (j_lsh (sx_n c)) A B
  | 17 => fun en st => (A en st).bind fun x => (B en x.2).bind fun y => if j_hd y.1 = 0 then none else some ([j_div (sx_n c) (j_hd x.1) (j_hd y.1)], y.2)
  | 18 => fun en st => (A en st).bind fun x => some ([j_un (sx_n c) (j_hd x.1)], x.2)
  | 20 => n_cmp (j_cmp (sx_n c)) A B
  | 21 => fun en st => (A en st).bind fun x => some ([j_b (j_cmp (sx_n c) (j_hd x.1) 0)], x.2)
  | 22 => n_cmp (j_cmp (sx_n c)) A B
  | 23 => n_cmp (j_cmp (sx_n c)) A B
  | 24 => A
  | 25 => n_ife A (n_nz B) (fun _ st => some ([0], st))
  | 26 => n_ife A (fun _ st => some ([1], st)) (n_nz B)
  | 27 => fun en st => (A en st).bind fun x => some ([j_b (decide (j_hd x.1 = 0))], x.2)
  | 28 => n_ife A B C
  | 30 => fun en st => (A en st).bind fun x => (B en x.2).bind fun y => some (x.1 ++ y.1, y.2)
  | 31 => fun _ st => some ([], st)
  | 32 => n_call F (sx_n b) A
  | 34 => n_new ck F (sx_n b) (sx_n c) A
  | 35 => n_newa (sx_n b) A
  | 36 => n_ainit (sx_n c) A B
  | _ => fun _ _ => none
def evE (cW : Nat → Nat → Int) : SX → XE
  | .op (.var t) (.op a (.op b c)) => nodeE xs L ck F cW t a b c (evE cW a) (evE cW b) (evE cW c)
  | _ => fun _ _ => none
def s_seq (A B : XR) : XR := fun en st => (A en st).bind fun r => if r.1 = 0 then B r.2.2.1 r.2.2.2 else some r
def s_loop (C : XE) (B P : XR) : Nat → XR
  | 0 => fun _ _ => none
  | k + 1 => fun en st => (C en st).bind fun x => if j_hd x.1 = 0 then some (0, [], en, x.2) else
      (B en x.2).bind fun r =>
        if r.1 = 0 ∨ r.1 = 3 then (P r.2.2.1 r.2.2.2).bind fun q => if q.1 = 0 then s_loop C B P k q.2.2.1 q.2.2.2 else none
        else if r.1 = 2 then some (0, [], r.2.2.1, r.2.2.2) else some r
def s_do (B : XR) (C : XE) : Nat → XR
  | 0 => fun _ _ => none
  | k + 1 => fun en st => (B en st).bind fun r =>
      if r.1 = 0 ∨ r.1 = 3 then (C r.2.2.1 r.2.2.2).bind fun x => if j_hd x.1 = 0 then some (0, [], r.2.2.1, x.2) else s_do B C k r.2.2.1 x.2
      else if r.1 = 2 then some (0, [], r.2.2.1, r.2.2.2) else some r
def s_putf (k : Nat) (A B : XE) : XR := fun en st => (A en st).bind fun x => (B en x.2).bind fun y => some (0, [], en, (y.2.1, j_up y.2.2 (j_hd x.1).toNat k (j_hd y.1)))
def s_putfC (k op : Nat) (A B : XE) : XR := fun en st => (A en st).bind fun x => (B en x.2).bind fun y => some (0, [], en, (y.2.1, j_up y.2.2 (j_hd x.1).toNat k (j_iop op (x.2.2 (j_hd x.1).toNat k) (j_hd y.1))))
def s_ast (ty : Nat) (A B C : XE) : XR := fun en st => (A en st).bind fun x => (B en x.2).bind fun y => (C en y.2).bind fun z =>
  if 0 ≤ j_hd y.1 ∧ j_hd y.1 < j_len z.2.1.1 (j_hd x.1).toNat then some (0, [], en, (z.2.1, j_up z.2.2 (j_hd x.1).toNat (j_hd y.1).toNat (match ty with
    | 8 => ((Int32.ofInt (j_hd z.1)).toInt8.toInt32).toInt
    | 9 => (Int32.ofInt (j_hd z.1) &&& 1).toInt
    | _ => j_hd z.1))) else none
def s_astC (op : Nat) (A B C : XE) : XR := fun en st => (A en st).bind fun x => (B en x.2).bind fun y =>
  if 0 ≤ j_hd y.1 ∧ j_hd y.1 < j_len y.2.1.1 (j_hd x.1).toNat then (C en y.2).bind fun z =>
    some (0, [], en, (z.2.1, j_up z.2.2 (j_hd x.1).toNat (j_hd y.1).toNat (j_iop op (y.2.2 (j_hd x.1).toNat (j_hd y.1).toNat) (j_hd z.1)))) else none
def s_if (A : XE) (B C : XR) : XR := fun en st => (A en st).bind fun x => if j_hd x.1 = 0 then C en x.2 else B en x.2
def s_sw (A : XE) (B : XR) : XR := fun en st => (A en st).bind fun x => (B (j_hd x.1 :: en) x.2).bind fun r => if r.1 = 2 then some (0, r.2) else some r
/-- out[0] = f(..), caught: answers 1; else goes on -/
def s_try (f : Nat) (A B : XE) : XR := fun en st => (A en st).bind fun x => (B en x.2).bind fun y => (F f y.1 y.2).bind fun r =>
  if r.1 = 1 then (if 0 < j_len r.2.2.1.1 (j_hd x.1).toNat then some (0, [], en, (r.2.2.1, j_up r.2.2.2 (j_hd x.1).toNat 0 (j_hd r.2.1))) else none)
  else if r.1 = 4 then some (1, [1], en, r.2.2) else none
variable (K : Nat)
def nodeS (cW : Nat → Nat → Int) (t : Nat) (a b c : SX) (A B C : XR) : XR :=
  let e := evE xs L ck F cW
  match t with
  | 1 => fun en st => some (0, [], en, st)
  | 2 => s_seq A B
  | 3 => fun en st => (e b en st).bind fun x => some (0, [], en.set (sx_n a) (j_hd x.1), x.2)
  | 4 => fun en st => some (0, [], en.set (sx_n a) (j32 (en.getD (sx_n a) 0 + (if sx_n c = 0 then (sx_n b : Int) else -(sx_n b : Int)))), st)
  | 5 => s_putf (sx_n c) (e a) (e b)
  | 6 => s_putfC (sx_n c / 16) (sx_n c % 16) (e a) (e b)
  | 7 => match c with
    | .op (.var ty) v => s_ast ty (e a) (e b) (e v)
    | _ => fun _ _ => none
  | 8 => match c with
    | .op (.var op) v => s_astC op (e a) (e b) (e v)
    | _ => fun _ _ => none
  | 9 => fun en st => (e a en st).bind fun x => some (0, [], en, x.2)
  | 10 => s_if (e a) B (fun en st => some (0, [], en, st))
  | 11 => s_if (e a) B C
  | 12 => s_loop (e a) B C K
  | 13 => s_do B (e a) K
  | 14 => fun en st => some (2, [], en, st)
  | 15 => fun en st => some (3, [], en, st)
  | 16 => fun en st => (e a en st).bind fun x => some (1, x.1, en, x.2)
  | 17 => fun en st => some (1, [], en, st)
  | 18 => fun en st => some (4, [], en, st)
  | 19 => s_sw (e a) B
  | 20 => A
  | 21 => fun en st => (e a en st).bind fun x => (e b en x.2).bind fun y => some (0, [], en, ((j_setR y.2.1.1 (j_hd x.1).toNat (sx_n c) (j_hd y.1).toNat, y.2.1.2), y.2.2))
  | 22 => fun en st => some (0, [], en, st)
  | 24 => s_try F (sx_n c) (e a) (e b)
  | 25 => fun en st => if (sx_l a).any (fun n => decide (en.headD 0 = sx_z n)) then (B en.tail st).bind fun r => if r.1 = 0 then none else some r else C en st
  | 26 => fun en st => A en.tail st
  | _ => fun _ _ => none
def evS (cW : Nat → Nat → Int) : SX → XR
  | .op (.var t) (.op a (.op b c)) => nodeS xs L ck F K cW t a b c (evS cW a) (evS cW b) (evS cW c)
  | _ => fun _ _ => none
end JEV
def j_lay : List Nat → List Int → List Int
  | 2 :: ks, v :: vs => v :: 0 :: j_lay ks vs
  | _ :: ks, v :: vs => v :: j_lay ks vs
  | _, _ => []
def j_layT : List Nat → List Nat
  | 2 :: ks => 2 :: 0 :: j_layT ks
  | k :: ks => k :: j_layT ks
  | [] => []
def j_pad {α : Type} (z : α) (n : Nat) (l : List α) : List α := l ++ List.replicate (n - l.length) z
/-- a method: own class, maxLocals, kinds of its arguments, of its answer, body -/
abbrev XM : Type := Nat × Nat × List Nat × List Nat × SX
def evF (xs : Nat → Int) (L : Nat) (ck : Nat → List Nat) (K : Nat) (cW : Nat → Nat → Int) (M : Nat → XM) : Nat → XP
  | 0 => fun _ _ _ => none
  | n + 1 => fun f args st =>
    (evS xs L ck (evF xs L ck K cW M n) K cW (M f).2.2.2.2 (j_pad 0 (M f).2.1 (j_lay (M f).2.2.1 args)) st).bind fun r =>
      if (r.1 = 1 ∨ r.1 = 4) ∧ st.1.2.1 ≤ r.2.2.2.1.2.1 ∧ st.1.2.2 ≤ r.2.2.2.1.2.2 then some (r.1, r.2.1, r.2.2.2) else none
end
section
/-! ===== the checker: does this bytecode do what that tree says ===== -/
def a_const (lk : XK) : Instr → Option (Nat × Int)
  | .iconst n => if -1 ≤ n ∧ n ≤ 5 then some (1, n) else none
  | .bipush n => if -128 ≤ n ∧ n < 128 then some (1, n) else none
  | .sipush n => if -32768 ≤ n ∧ n < 32768 then some (1, n) else none
  | .lconst n => some (2, ((n : Nat) : Int))
  | .ldc i => match lk i with
    | some (3, _, _, v) => some (1, v)
    | _ => none
  | .ldc2_w i => match lk i with
    | some (4, _, _, v) => some (2, v)
    | _ => none
  | .getstatic i => match lk i with
    | some (2, kd, _, v) => some (kd, v)
    | _ => none
  | _ => none
def a_load : Instr → Option (Nat × Nat)
  | .iload i => some (1, i)
  | .iload_n i => some (1, i.val)
  | .lload i => some (2, i)
  | .lload_n i => some (2, i.val)
  | .aload i => some (3, i)
  | .aload_n i => some (3, i.val)
  | _ => none
def a_store : Instr → Option (Nat × Nat)
  | .istore i => some (1, i)
  | .istore_n i => some (1, i.val)
  | .lstore i => some (2, i)
  | .lstore_n i => some (2, i.val)
  | .astore i => some (3, i)
  | .astore_n i => some (3, i.val)
  | _ => none
def a_getf (lk : XK) : Instr → Option (Nat × Nat × Nat × Int)
  | .getfield i => lk i
  | _ => none
def a_putf (lk : XK) : Instr → Option (Nat × Nat × Nat × Int)
  | .putfield i => lk i
  | _ => none
def a_new (lk : XK) : Instr → Option (Nat × Nat × Nat × Int)
  | .new i => lk i
  | _ => none
/-- which method, and by which instruction: 0 virtual, 1 static, 2 special -/
def a_call (lk : XK) : Instr → Option Nat
  | .invokevirtual i => match lk i with
    | some (6, f, 0, _) => some f
    | _ => none
  | .invokestatic i => match lk i with
    | some (6, f, 1, _) => some f
    | _ => none
  | .invokespecial i => match lk i with
    | some (6, f, 2, _) => some f
    | _ => none
  | _ => none
def a_ald : Instr → Option Nat
  | .iaload => some 6
  | .laload => some 7
  | .baload => some 8
  | .aaload => some 4
  | _ => none
def a_ast : Instr → Option Nat
  | .iastore => some 6
  | .lastore => some 7
  | .bastore => some 8
  | _ => none
def a_iop : Instr → Option Nat
  | .iadd => some 0
  | .isub => some 1
  | .imul => some 2
  | .iand => some 3
  | .ior => some 4
  | .ixor => some 5
  | .ishl => some 6
  | .ishr => some 7
  | .iushr => some 8
  | _ => none
def a_lop : Instr → Option Nat
  | .ladd => some 0
  | .lsub => some 1
  | .lmul => some 2
  | .land => some 3
  | .lor => some 4
  | _ => none
def a_lsh : Instr → Option Nat
  | .lshl => some 0
  | .lshr => some 1
  | .lushr => some 2
  | _ => none
/-- kind, number -/
def a_div : Instr → Option (Nat × Nat)
  | .idiv => some (1, 0)
  | .irem => some (1, 1)
  | .ldiv => some (2, 2)
  | .lrem => some (2, 3)
  | _ => none
/-- number, kind, kind behind it -/
def a_un : Instr → Option (Nat × Nat × Nat)
  | .ineg => some (0, 1, 1)
  | .lneg => some (1, 2, 2)
  | .i2l => some (2, 1, 2)
  | .l2i => some (3, 2, 1)
  | .i2b => some (4, 1, 1)
  | _ => none
def a_cn : Jvm.ClassFile.Cond → Nat
  | .eq => 0
  | .ne => 1
  | .lt => 2
  | .ge => 3
  | .gt => 4
  | .le => 5
def a_icmp : Instr → Option (Nat × Int)
  | .if_icmp q off => some (a_cn q, off)
  | _ => none
def a_if : Instr → Option (Nat × Int)
  | .ifCond q off => some (a_cn q, off)
  | _ => none
def a_acmp : Instr → Option (Nat × Int)
  | .if_acmp .eq off => some (0, off)
  | .if_acmp .ne off => some (1, off)
  | _ => none
def a_goto : Instr → Option Int
  | .goto off => some off
  | _ => none
def a_iinc : Instr → Option (Nat × Int)
  | .iinc i n => some (i, n)
  | _ => none
/-- an instruction without operands, by a number -/
def a_op0 : Instr → Nat
  | .dup => 1
  | .dup2 => 2
  | .pop => 3
  | .arraylength => 4
  | .lcmp => 5
  | .athrow => 6
  | .ireturn => 11
  | .lreturn => 12
  | .areturn => 13
  | .return_ => 14
  | _ => 0
def a_atype : Instr → Option Nat
  | .newarray .int => some 6
  | .newarray .long => some 7
  | .newarray .byte => some 8
  | .newarray .boolean => some 9
  | _ => none
def k_cl (k : Nat) : Nat := if k = 1 then 1 else if k = 2 then 2 else 3
def k_cat (k : Nat) : Nat := if k = 2 then 2 else 1
def k_cats (ks : List Nat) : Nat := (ks.map k_cat).sum
/-- which array kind an instruction that was told 8 may work at -/
def k_arr (told ty : Nat) : Bool := if told = 8 then ty == 8 || ty == 9 else ty == told
def k_elem (ty : Nat) : Nat := if ty = 7 then 2 else 1
def j_neg (k : Nat) : Nat := if k % 2 = 0 then k + 1 else k - 1
def j_tgt (pc : Nat) (off : Int) : Option Nat := if 0 ≤ (pc : Int) + off then some ((pc : Int) + off).toNat else none
def j_ultN (dec : XD) : Nat → Nat → Nat
  | 0, pc => pc
  | n + 1, pc => match (dec pc).bind (fun q => a_goto q.1) with
    | some off => match j_tgt pc off with
      | some t => j_ultN dec n t
      | none => pc
    | none => pc
def j_ult (dec : XD) (pc : Nat) : Nat := j_ultN dec 5 pc
/-- the instruction there, as f reads it, and the next place -/
def c_ins {α : Type} (dec : XD) (pc : Nat) (f : Instr → Option α) : Option (α × Nat) := (dec pc).bind fun q => (f q.1).bind fun a => some (a, pc + q.2)
def c_op0 (dec : XD) (pc k : Nat) : Bool := match dec pc with
  | some (i, n) => a_op0 i == k && n == 1
  | none => false
def c_goto (dec : XD) (pc : Nat) : Bool := match c_ins dec pc a_goto with
  | some (_, n) => n == pc + 3
  | none => false
abbrev XN : Type := List Nat → Nat → Nat → Nat → Option (List Nat × Nat × List Nat)
def c_all (dec : XD) (ts : List Nat) (pc : Nat) : Bool := ts.all fun t => j_ult dec t == j_ult dec pc
def c_one (dec : XD) (lk : XK) (pc : Nat) (v : Int) : Bool := match c_ins dec pc (a_const lk) with
  | some ((kd, x), p) => kd == 1 && x == v && p == pc + 1
  | none => false
/-- a condition as a number: by a jump if it is false -/
def c_mat (dec : XD) (lk : XK) (r : Option (List Nat × Nat × List Nat)) : Option (List Nat × Nat × List Nat) := r.bind fun q =>
  if c_one dec lk q.2.1 1 && c_goto dec (q.2.1 + 1) && c_one dec lk (q.2.1 + 4) 0 && c_all dec q.2.2 (q.2.1 + 4) && j_ult dec (q.2.1 + 1) == j_ult dec (q.2.1 + 5)
  then some ([1], q.2.1 + 5, []) else none
/-- a jump: its sense, target -/
def c_br (dec : XD) (pc : Nat) (f : Instr → Option (Nat × Int)) (k md : Nat) : Option (Nat × List Nat) := (c_ins dec pc f).bind fun r =>
  (j_tgt pc r.1.2).bind fun t => if r.2 = pc + 3 ∧ ((md = 1 ∧ r.1.1 = j_neg k) ∨ (md = 2 ∧ r.1.1 = k)) ∧ k < 6 then some (r.2, [t]) else none
section JCK
variable (dec : XD) (lk : XK) (pk rk : Nat → List Nat) (thr : Nat → Bool)
def c_two (A B : XN) (ka kb : List Nat) (τ : List Nat) (d pc : Nat) : Option Nat := (A τ d 0 pc).bind fun r =>
  if r.1 = ka then (B τ (d + k_cats ka) 0 r.2.1).bind fun q => if q.1 = kb then some q.2.1 else none else none
def c_jmp (t : Nat) (c : SX) (A B C : XN) (τ : List Nat) (d md pc : Nat) : Option (List Nat × Nat × List Nat) := match t with
  | 20 => (c_two A B [1] [1] τ d pc).bind fun p => (c_br dec p a_icmp (sx_n c) md).bind fun r => some ([], r.1, r.2)
  | 21 => (A τ d 0 pc).bind fun q => if q.1 = [1] then (c_br dec q.2.1 a_if (sx_n c) md).bind fun r => some ([], r.1, r.2) else none
  | 22 => (c_two A B [2] [2] τ d pc).bind fun p => if c_op0 dec p 5 then (c_br dec (p + 1) a_if (sx_n c) md).bind fun r => some ([], r.1, r.2) else none
  | 23 => (c_two A B [3] [3] τ d pc).bind fun p => if sx_n c < 2 then (c_br dec p a_acmp (sx_n c) md).bind fun r => some ([], r.1, r.2) else none
  | 24 => (A τ d 0 pc).bind fun q => if q.1 = [1] then (c_br dec q.2.1 a_if 1 md).bind fun r => some ([], r.1, r.2) else none
  | 25 => (A τ d 1 pc).bind fun r => (B τ d md r.2.1).bind fun q =>
      if md = 1 then some ([], q.2.1, r.2.2 ++ q.2.2) else if md = 2 ∧ c_all dec r.2.2 q.2.1 = true then some ([], q.2.1, q.2.2) else none
  | 26 => (A τ d 2 pc).bind fun r => (B τ d md r.2.1).bind fun q =>
      if md = 2 then some ([], q.2.1, r.2.2 ++ q.2.2) else if md = 1 ∧ c_all dec r.2.2 q.2.1 = true then some ([], q.2.1, q.2.2) else none
  | 27 => if md = 1 then A τ d 2 pc else if md = 2 then A τ d 1 pc else none
  | 28 => (A τ d 1 pc).bind fun r => (B τ d 1 r.2.1).bind fun q => if c_goto dec q.2.1 && c_all dec r.2.2 (q.2.1 + 3) then
      (C τ d md (q.2.1 + 3)).bind fun u =>
        if md = 1 ∧ j_ult dec q.2.1 = j_ult dec u.2.1 then some ([], u.2.1, q.2.2 ++ u.2.2)
        else if md = 2 ∧ c_all dec q.2.2 u.2.1 = true then some ([], u.2.1, q.2.1 :: u.2.2) else none
      else none
  | _ => none
def c_val (t : Nat) (a b c : SX) (A B C : XN) (τ : List Nat) (d pc : Nat) : Option (List Nat × Nat × List Nat) := match t with
  | 1 => (c_ins dec pc (a_const lk)).bind fun r => if r.1.1 = sx_n b ∧ r.1.1 ≠ 0 ∧ r.1.2 = (if sx_n c = 0 then (sx_n a : Int) else -(sx_n a : Int)) then some ([r.1.1], r.2, []) else none
  | 3 => (c_ins dec pc a_load).bind fun r => (τ[sx_n a]?).bind fun kd => if r.1.2 = sx_n a ∧ kd ≠ 0 ∧ k_cl kd = r.1.1 then some ([kd], r.2, []) else none
  | 4 => (A τ d 0 pc).bind fun q => (c_ins dec q.2.1 (a_getf lk)).bind fun r =>
      if r.1.1 = 0 ∧ q.1 = [10 + r.1.2.1] ∧ r.1.2.2.1 = sx_n b ∧ r.2 = q.2.1 + 3 ∧ (r.1.2.2.2 = 1 ∨ r.1.2.2.2 = 2) then some ([r.1.2.2.2.toNat], r.2, []) else none
  | 5 => (A τ d 0 pc).bind fun q => (c_ins dec q.2.1 (a_getf lk)).bind fun r =>
      if r.1.1 = 0 ∧ q.1 = [10 + r.1.2.1] ∧ r.1.2.2.1 = sx_n b ∧ r.2 = q.2.1 + 3 ∧ 6 ≤ r.1.2.2.2 then some ([r.1.2.2.2.toNat], r.2, []) else none
  | 7 => (A τ d 0 pc).bind fun q => (B τ (d + 1) 0 q.2.1).bind fun r => (c_ins dec r.2.1 a_ald).bind fun u =>
      if r.1 = [1] ∧ u.2 = r.2.1 + 1 then match sx_n c with
        | 0 => match q.1 with
          | [ty] => if 6 ≤ ty ∧ ty < 10 ∧ k_arr u.1 ty = true then some ([k_elem ty], u.2, []) else none
          | _ => none
        | 1 => if q.1 = [5] ∧ u.1 = 6 then some ([1], u.2, []) else none
        | 2 => if q.1 = [4] ∧ u.1 = 4 then some ([3], u.2, []) else none
        | _ => none
      else none
  | 10 => (A τ d 0 pc).bind fun q => if c_op0 dec q.2.1 4 = true then match sx_n c with
        | 0 => match q.1 with
          | [ty] => if 6 ≤ ty ∧ ty < 10 then some ([1], q.2.1 + 1, []) else none
          | _ => none
        | 1 => if q.1 = [5] then some ([1], q.2.1 + 1, []) else none
        | 2 => if q.1 = [4] then some ([1], q.2.1 + 1, []) else none
        | _ => none
      else none
  | 13 => (A τ d 0 pc).bind fun q => (c_ins dec q.2.1 (a_getf lk)).bind fun r =>
      if r.1.1 = 1 ∧ q.1 = [3] ∧ r.1.2.2.1 = sx_n c ∧ r.2 = q.2.1 + 3 ∧ (r.1.2.2.2 = 1 ∨ r.1.2.2.2 = 2) then some ([r.1.2.2.2.toNat], r.2, []) else none
  | 14 => (c_two A B [1] [1] τ d pc).bind fun p => (c_ins dec p a_iop).bind fun r => if r.1 = sx_n c ∧ r.2 = p + 1 then some ([1], r.2, []) else none
  | 15 => (c_two A B [2] [2] τ d pc).bind fun p => (c_ins dec p a_lop).bind fun r => if r.1 = sx_n c ∧ r.2 = p + 1 then some ([2], r.2, []) else none
  | 16 => (c_two A B [2] [1] τ d pc).bind fun p => (c_ins dec p a_lsh).bind fun r => if r.1 = sx_n c ∧ r.2 = p + 1 then some ([2], r.2, []) else none
  | 17 => let k := if sx_n c < 2 then 1 else 2
      (c_two A B [k] [k] τ d pc).bind fun p => (c_ins dec p a_div).bind fun r => if r.1 = (k, sx_n c) ∧ r.2 = p + 1 then some ([k], r.2, []) else none
  | 18 => (A τ d 0 pc).bind fun q => (c_ins dec q.2.1 a_un).bind fun r => if q.1 = [r.1.2.1] ∧ r.1.1 = sx_n c ∧ r.2 = q.2.1 + 1 then some ([r.1.2.2], r.2, []) else none
  | 24 => (A τ d 0 pc).bind fun q => if q.1 = [1] then some ([1], q.2.1, []) else none
  | 28 => (A τ d 1 pc).bind fun r => (B τ d 0 r.2.1).bind fun q => if c_goto dec q.2.1 && c_all dec r.2.2 (q.2.1 + 3) then
      (C τ d 0 (q.2.1 + 3)).bind fun u => if q.1 = u.1 ∧ j_ult dec q.2.1 = j_ult dec u.2.1 then some (u.1, u.2.1, []) else none
      else none
  | 30 => (A τ d 0 pc).bind fun q => (B τ (d + k_cats q.1) 0 q.2.1).bind fun r => some (q.1 ++ r.1, r.2.1, [])
  | 31 => some ([], pc, [])
  | 32 => (A τ d 0 pc).bind fun q => (c_ins dec q.2.1 (a_call lk)).bind fun r =>
      if r.1 = sx_n b ∧ q.1 = pk r.1 ∧ thr r.1 = false ∧ d ≤ 8 ∧ r.2 = q.2.1 + 3 then some (rk r.1, r.2, []) else none
  | 34 => (c_ins dec pc (a_new lk)).bind fun r => if r.1.1 = 5 ∧ r.1.2.1 = sx_n b ∧ r.2 = pc + 3 ∧ c_op0 dec (pc + 3) 1 = true then
      (A τ (d + 2) 0 (pc + 4)).bind fun q => (c_ins dec q.2.1 (a_call lk)).bind fun u =>
        if u.1 = sx_n c ∧ pk u.1 = (10 + sx_n b) :: q.1 ∧ rk u.1 = [] ∧ thr u.1 = false ∧ d + 1 ≤ 8 ∧ u.2 = q.2.1 + 3 then some ([10 + sx_n b], u.2, []) else none
      else none
  | 35 => (A τ d 0 pc).bind fun q => (c_ins dec q.2.1 a_atype).bind fun r => if q.1 = [1] ∧ r.1 = sx_n b ∧ r.2 = q.2.1 + 2 then some ([r.1], r.2, []) else none
  | 36 => (A τ d 0 pc).bind fun q => match q.1 with
      | [ty] => if (ty = 6 ∨ ty = 7) ∧ c_op0 dec q.2.1 1 = true then
          (c_ins dec (q.2.1 + 1) (a_const lk)).bind fun r => if r.1 = (1, (sx_n c : Int)) then
            (B τ (d + 3) 0 r.2).bind fun u => (c_ins dec u.2.1 a_ast).bind fun w => if u.1 = [k_elem ty] ∧ w.1 = ty ∧ w.2 = u.2.1 + 1 then some ([ty], w.2, []) else none
          else none
        else none
      | _ => none
  | _ => none
/-- is it a condition, to be made a number where a number is wanted -/
def c_isC (t : Nat) : Bool := t == 20 || t == 21 || t == 22 || t == 23 || t == 25 || t == 26 || t == 27
def nodeC (t : Nat) (a b c : SX) (A B C : XN) : XN := fun τ d md pc =>
  if md = 0 then (if c_isC t then c_mat dec lk (c_jmp dec t c A B C τ d 1 pc) else c_val dec lk pk rk thr t a b c A B C τ d pc)
  else c_jmp dec t c A B C τ d md pc
def chE : SX → XN
  | .op (.var t) (.op a (.op b c)) => nodeC dec lk pk rk thr t a b c (chE a) (chE b) (chE c)
  | _ => fun _ _ _ _ => none
variable (rt : List Nat)
abbrev XG : Type := List Nat → List Nat → List Nat → Nat → Option (List Nat × Nat × Bool × List Nat × List Nat)
def k_sub (τ τ' : List Nat) : Bool := τ.length == τ'.length && (List.range τ.length).all fun i => τ.getD i 0 == 0 || τ.getD i 0 == τ'.getD i 0
/-- may kind kd be laid at slot i -/
def k_fit (τ : List Nat) (i kd : Nat) : Bool := decide (i < τ.length) && kd != 0 && (τ.getD i 0 == 0 || τ.getD i 0 == kd) && (i == 0 || τ.getD (i - 1) 0 != 2) && (kd != 2 || (decide (i + 1 < τ.length) && τ.getD (i + 1) 0 == 0))
/-- a switch: where label v goes -/
def c_swT (pc : Nat) (v : Int) : Option Nat := (dec pc).bind fun q => match q.1 with
  | .tableswitch df lo hi offs => if v < lo ∨ hi < v then j_tgt pc df else (offs[(v - lo).toNat]?).bind fun o => j_tgt pc o
  | .lookupswitch df ps => if (ps.toList.zip (ps.toList.drop 1)).all (fun (a, next) => decide (a.1 < next.1)) = true then j_tgt pc (Op.lookupswitch.offset ps.toList df v) else none
  | _ => none
def c_swD (pc : Nat) : Option Nat := (dec pc).bind fun q => match q.1 with
  | .tableswitch df _ _ _ => j_tgt pc df
  | .lookupswitch df _ => j_tgt pc df
  | _ => none
def c_swL (pc : Nat) : List Int := match dec pc with
  | some (.tableswitch _ lo hi _, _) => (List.range (hi - lo + 1).toNat).map fun (i : Nat) => lo + (i : Int)
  | some (.lookupswitch _ ps, _) => ps.toList.map (·.1)
  | _ => []
def sx_cases : SX → Bool
  | .op (.var 25) (.op _ (.op _ c)) => sx_cases c
  | .op (.var 26) _ => true
  | _ => false
def k_ok (τ : List Nat) : Bool := decide (τ.headD 0 < 500)
def sx_all : SX → List Nat
  | .op (.var 25) (.op a (.op _ c)) => sx_l a ++ sx_all c
  | _ => []
def c_throw (pc : Nat) : Bool := match c_ins dec pc (a_new lk) with
  | some ((8, _), p) => p == pc + 3 && c_op0 dec (pc + 3) 1 && c_op0 dec (pc + 7) 6 && (match dec (pc + 4) with
    | some (.invokespecial i, n) => n == 3 && (match lk i with
      | some (9, _) => true
      | _ => false)
    | _ => false)
  | _ => false
def nodeG (t : Nat) (a b c : SX) (A B C : XG) : XG := fun τ τB τC pc =>
  let e := chE dec lk pk rk thr
  match t with
  | 1 => some (τ, pc, true, [], [])
  | 2 => (A τ τB τC pc).bind fun r => if r.2.2.1 then (B r.1 τB τC r.2.1).bind fun q => some (q.1, q.2.1, q.2.2.1, r.2.2.2.1 ++ q.2.2.2.1, r.2.2.2.2 ++ q.2.2.2.2) else none
  | 3 => (e b τ 0 0 pc).bind fun r => match r.1 with
      | [kd] => (c_ins dec r.2.1 a_store).bind fun q => if q.1 = (k_cl kd, sx_n a) ∧ k_fit τ (sx_n a) kd = true ∧ kd < 500 then some (τ.set (sx_n a) kd, q.2, true, [], []) else none
      | _ => none
  | 4 => (c_ins dec pc a_iinc).bind fun r => if r.1 = (sx_n a, (if sx_n c = 0 then (sx_n b : Int) else -(sx_n b : Int))) ∧ τ[sx_n a]? = some 1 ∧ (r.2 = pc + 3 ∨ r.2 = pc + 6) then some (τ, r.2, true, [], []) else none
  | 5 => (e a τ 0 0 pc).bind fun q => (e b τ 1 0 q.2.1).bind fun r => (c_ins dec r.2.1 (a_putf lk)).bind fun u =>
      if u.1.1 = 0 ∧ q.1 = [10 + u.1.2.1] ∧ u.1.2.2.1 = sx_n c ∧ u.2 = r.2.1 + 3 ∧ (u.1.2.2.2 = 1 ∨ u.1.2.2.2 = 2) ∧ r.1 = [u.1.2.2.2.toNat] then some (τ, u.2, true, [], []) else none
  | 6 => (e a τ 0 0 pc).bind fun q => if c_op0 dec q.2.1 1 = true then (c_ins dec (q.2.1 + 1) (a_getf lk)).bind fun g =>
      if g.1.1 = 0 ∧ q.1 = [10 + g.1.2.1] ∧ g.1.2.2.1 = sx_n c / 16 ∧ g.2 = q.2.1 + 4 ∧ g.1.2.2.2 = 1 then
        (e b τ 2 0 g.2).bind fun r => (c_ins dec r.2.1 a_iop).bind fun o => (c_ins dec o.2 (a_putf lk)).bind fun u =>
          if r.1 = [1] ∧ o.1 = sx_n c % 16 ∧ o.2 = r.2.1 + 1 ∧ u.1 = g.1 ∧ u.2 = o.2 + 3 then some (τ, u.2, true, [], []) else none
      else none else none
  | 7 => match c with
      | .op (.var ty) v => (e a τ 0 0 pc).bind fun q => (e b τ 1 0 q.2.1).bind fun r => (e v τ 2 0 r.2.1).bind fun u => (c_ins dec u.2.1 a_ast).bind fun w =>
          if 6 ≤ ty ∧ ty < 10 ∧ q.1 = [ty] ∧ r.1 = [1] ∧ u.1 = [k_elem ty] ∧ k_arr w.1 ty = true ∧ w.2 = u.2.1 + 1 then some (τ, w.2, true, [], []) else none
      | _ => none
  | 8 => match c with
      | .op (.var op) v => (e a τ 0 0 pc).bind fun q => (e b τ 1 0 q.2.1).bind fun r => if c_op0 dec r.2.1 2 = true then (c_ins dec (r.2.1 + 1) a_ald).bind fun g =>
          if q.1 = [6] ∧ r.1 = [1] ∧ g.1 = 6 ∧ g.2 = r.2.1 + 2 then (e v τ 3 0 g.2).bind fun u => (c_ins dec u.2.1 a_iop).bind fun o => (c_ins dec o.2 a_ast).bind fun w =>
            if u.1 = [1] ∧ o.1 = op ∧ o.2 = u.2.1 + 1 ∧ w.1 = 6 ∧ w.2 = o.2 + 1 then some (τ, w.2, true, [], []) else none
          else none else none
      | _ => none
  | 9 => (e a τ 0 0 pc).bind fun q => match q.1 with
      | [] => some (τ, q.2.1, true, [], [])
      | [k] => if k ≠ 2 ∧ c_op0 dec q.2.1 3 = true then some (τ, q.2.1 + 1, true, [], []) else none
      | _ => none
  | 10 => (e a τ 0 1 pc).bind fun q => (B τ τB τC q.2.1).bind fun r => if k_sub τ r.1 = true ∧ c_all dec q.2.2 r.2.1 = true then some (τ, r.2.1, true, r.2.2.2) else none
  | 11 => (e a τ 0 1 pc).bind fun q => (B τ τB τC q.2.1).bind fun r => if k_sub τ r.1 = true ∧ (r.2.2.1 = true → c_goto dec r.2.1 = true) ∧ c_all dec q.2.2 (if r.2.2.1 then r.2.1 + 3 else r.2.1) = true then
      (C τ τB τC (if r.2.2.1 then r.2.1 + 3 else r.2.1)).bind fun u => if k_sub τ u.1 = true ∧ (r.2.2.1 = true → j_ult dec r.2.1 = j_ult dec u.2.1) then
        some (τ, u.2.1, r.2.2.1 || u.2.2.1, r.2.2.2.1 ++ u.2.2.2.1, r.2.2.2.2 ++ u.2.2.2.2) else none
      else none
  | 12 => (e a τ 0 1 pc).bind fun q => (B τ τ τ q.2.1).bind fun r => (C τ [] [] r.2.1).bind fun u =>
      if k_sub τ r.1 = true ∧ k_sub τ u.1 = true ∧ u.2.2 = (true, [], []) ∧ c_goto dec u.2.1 = true ∧ j_ult dec u.2.1 = j_ult dec pc ∧ c_all dec q.2.2 (u.2.1 + 3) = true ∧ c_all dec r.2.2.2.1 (u.2.1 + 3) = true ∧ c_all dec r.2.2.2.2 r.2.1 = true
      then some (τ, u.2.1 + 3, true, [], []) else none
  | 13 => (B τ τ τ pc).bind fun r => (e a τ 0 2 r.2.1).bind fun q =>
      if k_sub τ r.1 = true ∧ c_all dec q.2.2 pc = true ∧ c_all dec r.2.2.2.1 q.2.1 = true ∧ c_all dec r.2.2.2.2 r.2.1 = true then some (τ, q.2.1, true, [], []) else none
  | 14 => if k_sub τB τ = true then some (τ, if c_goto dec pc then pc + 3 else pc, false, [pc], []) else none
  | 15 => if k_sub τC τ = true then some (τ, if c_goto dec pc then pc + 3 else pc, false, [], [pc]) else none
  | 16 => (e a τ 0 0 pc).bind fun q => match q.1 with
      | [kd] => if kd ≠ 0 ∧ rt = [kd] ∧ c_op0 dec q.2.1 (10 + k_cl kd) = true then some (τ, q.2.1 + 1, false, [], []) else none
      | _ => none
  | 17 => if rt = [] ∧ c_op0 dec pc 14 = true then some (τ, pc + 1, false, [], []) else none
  | 18 => if c_throw dec lk pc = true then some (τ, pc + 8, false, [], []) else none
  | 19 => (e a τ 0 0 pc).bind fun q => (dec q.2.1).bind fun w => (c_swD dec q.2.1).bind fun df => (B ((500 + q.2.1) :: τ) τ τC (q.2.1 + w.2)).bind fun r =>
      if q.1 = [1] ∧ sx_cases b = true ∧ c_all dec r.2.2.2.1 r.2.1 = true ∧ ((c_swL dec q.2.1).all fun v => (sx_all b).any (fun n => decide (v = sx_z n)) || c_swT dec q.2.1 v == some df) = true
      then some (τ, r.2.1, r.2.2.1 || !r.2.2.2.1.isEmpty, [], r.2.2.2.2) else none
  | 20 => (A τ τB τC pc).bind fun r => if k_sub τ r.1 = true then some (τ, r.2) else none
  | 21 => (e a τ 0 0 pc).bind fun q => (e b τ 1 0 q.2.1).bind fun r => (c_ins dec r.2.1 (a_putf lk)).bind fun u =>
      if u.1.1 = 0 ∧ q.1 = [10 + u.1.2.1] ∧ u.1.2.2.1 = sx_n c ∧ u.2 = r.2.1 + 3 ∧ 6 ≤ u.1.2.2.2 ∧ r.1 = [u.1.2.2.2.toNat] then some (τ, u.2, true, [], []) else none
  | 22 => (c_ins dec pc a_load).bind fun r => match dec r.2 with
      | some (.invokespecial i, 3) => if r.1 = (3, 0) ∧ 10 ≤ τ.getD 0 0 ∧ (match lk i with
          | some (10, _) => true
          | _ => false) = true then some (τ, r.2 + 3, true, [], []) else none
      | _ => none
  | 25 => match τ with
      | sw :: τ1 => if 500 ≤ sw ∧ ((sx_l a).all fun n => c_swT dec (sw - 500) (sx_z n) == some pc) = true then (B τ1 τB τC pc).bind fun r => if r.2.2.1 = false then
          (C τ τB τC r.2.1).bind fun q => some (τ, q.2.1, q.2.2.1, r.2.2.2.1 ++ q.2.2.2.1, r.2.2.2.2 ++ q.2.2.2.2) else none else none
      | [] => none
  | 26 => match τ with
      | sw :: τ1 => if 500 ≤ sw ∧ c_swD dec (sw - 500) = some pc then (A τ1 τB τC pc).bind fun r => if k_sub τ1 r.1 = true then some (τ, r.2) else none else none
      | [] => none
  | _ => none
def chS : SX → XG
  | .op (.var t) (.op a (.op b c)) => nodeG dec lk pk rk thr rt t a b c (chS a) (chS b) (chS c)
  | _ => fun _ _ _ _ => none
end JCK
end
section
/-! ===== the checker is right: expressions ===== -/
theorem j_if {α : Type} {c : Prop} [Decidable c] {a b : α} (h : (if c then some a else none) = some b) : c ∧ a = b := by
  split at h
  · exact ⟨by assumption, Option.some.inj h⟩
  · cases h
theorem j_ifx {α : Type} {c : Prop} [Decidable c] {a : Option α} {b : α} (h : (if c then a else none) = some b) : c ∧ a = some b := by
  split at h
  · exact ⟨by assumption, h⟩
  · cases h
theorem j_bd {α β : Type} {o : Option α} {f : α → Option β} {b : β} (h : o.bind f = some b) : ∃ a, o = some a ∧ f a = some b := Option.bind_eq_some_iff.mp h
theorem k_cats_app (a b : List Nat) : k_cats (a ++ b) = k_cats a + k_cats b := by simp [k_cats]
theorem k_cats_zip {ks : List Nat} {x : List Int} (h : x.length = ks.length) : ((ks.zip x).map (·.1)) = ks := by
  induction ks generalizing x with
  | nil => simp
  | cons k ks ih =>
    cases x with
    | nil => simp at h
    | cons v x => simp at h; simpa using ih h
theorem k_cats_rz {ks : List Nat} {x : List Int} (h : x.length = ks.length) (S : List (Nat × Int)) : k_cats (((ks.zip x).reverse ++ S).map (·.1)) = k_cats ks + k_cats (S.map (·.1)) := by
  rw [List.map_append, k_cats_app, List.map_reverse]
  have e := k_cats_zip h
  rw [e]
  simp [k_cats, List.sum_reverse]
theorem j_z1 {x : List Int} {k : Nat} (h : x.length = [k].length) : x = [j_hd x] := by
  match x, h with
  | [v], _ => rfl
def XClo (dec : XD) (lk : XK) (pk rk : Nat → List Nat) (thr : Nat → Bool) (rt : List Nat) (xs : Nat → Int) (L : Nat) (ck : Nat → List Nat) (F : XP) (cW : Nat → Nat → Int) (R : List Int → XT → Prop) (X : XT → Prop)
    (J : Nat → List Nat → List Int → List (Nat × Int) → XT → Prop) : Prop :=
  (∀ pc p kv τ en S st, c_ins dec pc (a_const lk) = some (kv, p) → kv.1 ≠ 0 → J (j_ult dec p) τ en (kv :: S) st → J (j_ult dec pc) τ en S st) ∧
  (∀ pc p cl i kd τ en S st, c_ins dec pc a_load = some ((cl, i), p) → τ[i]? = some kd → kd ≠ 0 → k_cl kd = cl → en.length = τ.length → J (j_ult dec p) τ en ((kd, en.getD i 0) :: S) st → J (j_ult dec pc) τ en S st) ∧
  (∀ pc p i kd v τ en S st, c_ins dec pc a_store = some ((k_cl kd, i), p) → k_fit τ i kd = true → en.length = τ.length → J (j_ult dec p) (τ.set i kd) (en.set i v) S st → J (j_ult dec pc) τ en ((kd, v) :: S) st) ∧
  (∀ pc p i n τ en S st, c_ins dec pc a_iinc = some ((i, n), p) → τ[i]? = some 1 → (p = pc + 3 ∨ p = pc + 6) → en.length = τ.length → J (j_ult dec p) τ (en.set i (j32 (en.getD i 0 + n))) S st → J (j_ult dec pc) τ en S st) ∧
  (∀ pc ci k kd o τ en S st, c_ins dec pc (a_getf lk) = some ((0, ci, k, kd), pc + 3) → (kd = 1 ∨ kd = 2) → J (j_ult dec (pc + 3)) τ en ((kd.toNat, st.2 o.toNat k) :: S) st → J (j_ult dec pc) τ en ((10 + ci, o) :: S) st) ∧
  (∀ pc ci k kd o r τ en S st, c_ins dec pc (a_getf lk) = some ((0, ci, k, kd), pc + 3) → 6 ≤ kd → j_rf st.1.1 o.toNat k = some r → J (j_ult dec (pc + 3)) τ en ((kd.toNat, r) :: S) st → J (j_ult dec pc) τ en ((10 + ci, o) :: S) st) ∧
  (∀ pc w ty i o τ en S st, c_ins dec pc a_ald = some (w, pc + 1) → 6 ≤ ty → ty < 10 → k_arr w ty = true → 0 ≤ i → i < j_len st.1.1 o.toNat → J (j_ult dec (pc + 1)) τ en ((k_elem ty, st.2 o.toNat i.toNat) :: S) st → J (j_ult dec pc) τ en ((1, i) :: (ty, o) :: S) st) ∧
  (∀ pc i o τ en S st, c_ins dec pc a_ald = some (6, pc + 1) → 0 ≤ i → i < (L : Int) → J (j_ult dec (pc + 1)) τ en ((1, xs i.toNat) :: S) st → J (j_ult dec pc) τ en ((1, i) :: (5, o) :: S) st) ∧
  (∀ pc i o τ en S st, c_ins dec pc a_ald = some (4, pc + 1) → 0 ≤ i → i < 24 → J (j_ult dec (pc + 1)) τ en ((3, i) :: S) st → J (j_ult dec pc) τ en ((1, i) :: (4, o) :: S) st) ∧
  (∀ pc ty o τ en S st, c_op0 dec pc 4 = true → 6 ≤ ty → ty < 10 → J (j_ult dec (pc + 1)) τ en ((1, j_len st.1.1 o.toNat) :: S) st → J (j_ult dec pc) τ en ((ty, o) :: S) st) ∧
  (∀ pc o τ en S st, c_op0 dec pc 4 = true → J (j_ult dec (pc + 1)) τ en ((1, (L : Int)) :: S) st → J (j_ult dec pc) τ en ((5, o) :: S) st) ∧
  (∀ pc o τ en S st, c_op0 dec pc 4 = true → J (j_ult dec (pc + 1)) τ en ((1, 24) :: S) st → J (j_ult dec pc) τ en ((4, o) :: S) st) ∧
  (∀ pc y k kd o τ en S st, c_ins dec pc (a_getf lk) = some ((1, y, k, kd), pc + 3) → (kd = 1 ∨ kd = 2) → J (j_ult dec (pc + 3)) τ en ((kd.toNat, cW k o.toNat) :: S) st → J (j_ult dec pc) τ en ((3, o) :: S) st) ∧
  (∀ pc k x y τ en S st, c_ins dec pc a_iop = some (k, pc + 1) → J (j_ult dec (pc + 1)) τ en ((1, j_iop k x y) :: S) st → J (j_ult dec pc) τ en ((1, y) :: (1, x) :: S) st) ∧
  (∀ pc k x y τ en S st, c_ins dec pc a_lop = some (k, pc + 1) → J (j_ult dec (pc + 1)) τ en ((2, j_lop k x y) :: S) st → J (j_ult dec pc) τ en ((2, y) :: (2, x) :: S) st) ∧
  (∀ pc k x y τ en S st, c_ins dec pc a_lsh = some (k, pc + 1) → J (j_ult dec (pc + 1)) τ en ((2, j_lsh k x y) :: S) st → J (j_ult dec pc) τ en ((1, y) :: (2, x) :: S) st) ∧
  (∀ pc kd k x y τ en S st, c_ins dec pc a_div = some ((kd, k), pc + 1) → y ≠ 0 → J (j_ult dec (pc + 1)) τ en ((kd, j_div k x y) :: S) st → J (j_ult dec pc) τ en ((kd, y) :: (kd, x) :: S) st) ∧
  (∀ pc k k1 k2 x τ en S st, c_ins dec pc a_un = some ((k, k1, k2), pc + 1) → J (j_ult dec (pc + 1)) τ en ((k2, j_un k x) :: S) st → J (j_ult dec pc) τ en ((k1, x) :: S) st) ∧
  (∀ pc k off t x y τ en S st, c_ins dec pc a_icmp = some ((k, off), pc + 3) → j_tgt pc off = some t → (j_cmp k x y = true → J (j_ult dec t) τ en S st) → (j_cmp k x y = false → J (j_ult dec (pc + 3)) τ en S st) → J (j_ult dec pc) τ en ((1, y) :: (1, x) :: S) st) ∧
  (∀ pc k off t x τ en S st, c_ins dec pc a_if = some ((k, off), pc + 3) → j_tgt pc off = some t → (j_cmp k x 0 = true → J (j_ult dec t) τ en S st) → (j_cmp k x 0 = false → J (j_ult dec (pc + 3)) τ en S st) → J (j_ult dec pc) τ en ((1, x) :: S) st) ∧
  (∀ pc k off t x y τ en S st, c_op0 dec pc 5 = true → c_ins dec (pc + 1) a_if = some ((k, off), pc + 1 + 3) → j_tgt (pc + 1) off = some t → (j_cmp k x y = true → J (j_ult dec t) τ en S st) → (j_cmp k x y = false → J (j_ult dec (pc + 1 + 3)) τ en S st) → J (j_ult dec pc) τ en ((2, y) :: (2, x) :: S) st) ∧
  (∀ pc k off t x y τ en S st, c_ins dec pc a_acmp = some ((k, off), pc + 3) → j_tgt pc off = some t → (j_cmp k x y = true → J (j_ult dec t) τ en S st) → (j_cmp k x y = false → J (j_ult dec (pc + 3)) τ en S st) → J (j_ult dec pc) τ en ((3, y) :: (3, x) :: S) st) ∧
  (∀ pc f args r τ en S st st', c_ins dec pc (a_call lk) = some (f, pc + 3) → thr f = false → F f args st = some (1, r, st') → args.length = (pk f).length → k_cats (S.map (·.1)) ≤ 8 → J (j_ult dec (pc + 3)) τ en (((rk f).zip r).reverse ++ S) st' → J (j_ult dec pc) τ en (((pk f).zip args).reverse ++ S) st) ∧
  (∀ pc ci y τ en S st, c_ins dec pc (a_new lk) = some ((5, ci, y), pc + 3) → J (j_ult dec (pc + 3)) τ en ((10 + ci, (st.1.1.length : Int)) :: S) ((st.1.1 ++ [(10 + ci, 0, (ck ci).map fun k => (k, 0))], st.1.2.1 + 1, st.1.2.2 + (ck ci).length), fun a b => if a = st.1.1.length then 0 else st.2 a b) → J (j_ult dec pc) τ en S st) ∧
  (∀ pc ty n τ en S st, c_ins dec pc a_atype = some (ty, pc + 2) → 0 ≤ n → J (j_ult dec (pc + 2)) τ en ((ty, (st.1.1.length : Int)) :: S) ((st.1.1 ++ [(ty, n.toNat, [])], st.1.2.1 + 1, st.1.2.2 + n.toNat), fun a b => if a = st.1.1.length then 0 else st.2 a b) → J (j_ult dec pc) τ en ((1, n) :: S) st) ∧
  (∀ pc e τ en S st, c_op0 dec pc 1 = true → e.1 ≠ 2 → J (j_ult dec (pc + 1)) τ en (e :: e :: S) st → J (j_ult dec pc) τ en (e :: S) st) ∧
  (∀ pc e f τ en S st, c_op0 dec pc 2 = true → e.1 ≠ 2 → f.1 ≠ 2 → J (j_ult dec (pc + 1)) τ en (e :: f :: e :: f :: S) st → J (j_ult dec pc) τ en (e :: f :: S) st) ∧
  (∀ pc e τ en S st, c_op0 dec pc 3 = true → e.1 ≠ 2 → J (j_ult dec (pc + 1)) τ en S st → J (j_ult dec pc) τ en (e :: S) st) ∧
  (∀ pc ci k kd o v τ en S st, c_ins dec pc (a_putf lk) = some ((0, ci, k, kd), pc + 3) → (kd = 1 ∨ kd = 2) → J (j_ult dec (pc + 3)) τ en S (st.1, j_up st.2 o.toNat k v) → J (j_ult dec pc) τ en ((kd.toNat, v) :: (10 + ci, o) :: S) st) ∧
  (∀ pc ci k kd o v τ en S st, c_ins dec pc (a_putf lk) = some ((0, ci, k, kd), pc + 3) → 6 ≤ kd → J (j_ult dec (pc + 3)) τ en S ((j_setR st.1.1 o.toNat k v.toNat, st.1.2), st.2) → J (j_ult dec pc) τ en ((kd.toNat, v) :: (10 + ci, o) :: S) st) ∧
  (∀ pc w ty i o v τ en S st, c_ins dec pc a_ast = some (w, pc + 1) → 6 ≤ ty → ty < 10 → k_arr w ty = true → 0 ≤ i → i < j_len st.1.1 o.toNat → J (j_ult dec (pc + 1)) τ en S (st.1, j_up st.2 o.toNat i.toNat (match ty with
    | 8 => ((Int32.ofInt v).toInt8.toInt32).toInt
    | 9 => (Int32.ofInt v &&& 1).toInt
    | _ => v)) → J (j_ult dec pc) τ en ((k_elem ty, v) :: (1, i) :: (ty, o) :: S) st) ∧
  (∀ pc kd v τ en st, rt = [kd] → kd ≠ 0 → c_op0 dec pc (10 + k_cl kd) = true → R [v] st → J (j_ult dec pc) τ en [(kd, v)] st) ∧
  (∀ pc τ en st, rt = [] → c_op0 dec pc 14 = true → R [] st → J (j_ult dec pc) τ en [] st) ∧
  (∀ pc τ en st, c_throw dec lk pc = true → X st → J (j_ult dec pc) τ en [] st) ∧
  (∀ pc i z kd o τ en S st, dec pc = some (.invokespecial i, 3) → lk i = some (10, z) → 10 ≤ kd → J (j_ult dec (pc + 3)) τ en S st → J (j_ult dec pc) τ en ((kd, o) :: S) st) ∧
  (∀ pc v t τ en S st, c_swT dec pc v = some t → J (j_ult dec t) τ en S st → J (j_ult dec pc) τ en ((1, v) :: S) st) ∧
  (∀ pc τ τ' en S st, k_sub τ τ' = true → J pc τ en S st → J pc τ' en S st) ∧
  (∀ f args r st st', F f args st = some (1, r, st') → r.length = (rk f).length)
section JSE
variable {dec : XD} {lk : XK} {pk rk : Nat → List Nat} {thr : Nat → Bool} {rt : List Nat} {xs : Nat → Int} {L : Nat} {ck : Nat → List Nat} {F : XP} {cW : Nat → Nat → Int} {R : List Int → XT → Prop} {X : XT → Prop}
  {J : Nat → List Nat → List Int → List (Nat × Int) → XT → Prop}
def PV (dec : XD) (J : Nat → List Nat → List Int → List (Nat × Int) → XT → Prop) (N : XN) (E : XE) : Prop := ∀ τ d pc ks pc' ts en S st x st', N τ d 0 pc = some (ks, pc', ts) → E en st = some (x, st') → en.length = τ.length → k_cats (S.map (·.1)) ≤ d →
  x.length = ks.length ∧ (J (j_ult dec pc') τ en ((ks.zip x).reverse ++ S) st' → J (j_ult dec pc) τ en S st)
def j_jp (md : Nat) (x : List Int) : Prop := if md = 1 then j_hd x = 0 else j_hd x ≠ 0
def PJ (dec : XD) (J : Nat → List Nat → List Int → List (Nat × Int) → XT → Prop) (N : XN) (E : XE) : Prop := ∀ τ d md pc ks pc' ts en S st x st', (md = 1 ∨ md = 2) → N τ d md pc = some (ks, pc', ts) → E en st = some (x, st') → en.length = τ.length → k_cats (S.map (·.1)) ≤ d →
  (j_jp md x → ∀ t ∈ ts, J (j_ult dec t) τ en S st') → (¬ j_jp md x → J (j_ult dec pc') τ en S st') → J (j_ult dec pc) τ en S st
/-- one value -/
theorem PV.one {N : XN} {E : XE} (h : PV dec J N E) {τ : List Nat} {d pc k pc' : Nat} {ts : List Nat} {en : List Int} {S : List (Nat × Int)} {st : XT} {x : List Int} {st' : XT} (h1 : N τ d 0 pc = some ([k], pc', ts)) (h2 : E en st = some (x, st')) (h3 : en.length = τ.length) (h4 : k_cats (S.map (·.1)) ≤ d) :
    x = [j_hd x] ∧ (J (j_ult dec pc') τ en ((k, j_hd x) :: S) st' → J (j_ult dec pc) τ en S st) := by
  obtain ⟨a, b⟩ := h _ _ _ _ _ _ _ S _ _ _ h1 h2 h3 h4
  have e := j_z1 a
  refine ⟨e, fun k => b ?_⟩
  rw [e]
  exact k
theorem c_two_spec {A B : XN} {ka kb τ : List Nat} {d pc p : Nat} (h : c_two A B ka kb τ d pc = some p) : ∃ p1 t1 t2, A τ d 0 pc = some (ka, p1, t1) ∧ B τ (d + k_cats ka) 0 p1 = some (kb, p, t2) := by
  obtain ⟨r, h1, h⟩ := j_bd h
  obtain ⟨e1, h⟩ := j_ifx h
  obtain ⟨q, h2, h⟩ := j_bd h
  obtain ⟨e2, h⟩ := j_if h
  subst h
  refine ⟨r.2.1, r.2.2, q.2.2, ?_, ?_⟩
  · rw [h1, ← e1]
  · rw [h2, ← e2]
theorem k_cats_cons (k : Nat) (v : Int) (S : List (Nat × Int)) : k_cats (((k, v) :: S).map (·.1)) = k_cats [k] + k_cats (S.map (·.1)) := by simp [k_cats]
/-- two values -/
theorem PV.two {A B : XN} {EA EB : XE} (hA : PV dec J A EA) (hB : PV dec J B EB) {ka kb : Nat} {τ : List Nat} {d pc p : Nat} {en : List Int} {S : List (Nat × Int)} {st st1 st2 : XT} {x y : List Int}
    (h : c_two A B [ka] [kb] τ d pc = some p) (h1 : EA en st = some (x, st1)) (h2 : EB en st1 = some (y, st2)) (h3 : en.length = τ.length) (h4 : k_cats (S.map (·.1)) ≤ d) :
    J (j_ult dec p) τ en ((kb, j_hd y) :: (ka, j_hd x) :: S) st2 → J (j_ult dec pc) τ en S st := by
  obtain ⟨p1, t1, t2, a, b⟩ := c_two_spec h
  obtain ⟨-, ka'⟩ := hA.one (S := S) a h1 h3 h4
  obtain ⟨-, kb'⟩ := hB.one (S := (ka, j_hd x) :: S) b h2 h3 (by rw [k_cats_cons]; omega)
  exact fun k => ka' (kb' k)
end JSE
end
section
section JNV
variable {dec : XD} {lk : XK} {pk rk : Nat → List Nat} {thr : Nat → Bool} {rt : List Nat} {xs : Nat → Int} {L : Nat} {ck : Nat → List Nat} {F : XP} {cW : Nat → Nat → Int} {R : List Int → XT → Prop} {X : XT → Prop}
  {J : Nat → List Nat → List Int → List (Nat × Int) → XT → Prop} {a b c : SX} {A B C : XN} {EA EB EC : XE}
theorem v_1 (HC : XClo dec lk pk rk thr rt xs L ck F cW R X J) : PV dec J (fun τ d _ pc => c_val dec lk pk rk thr 1 a b c A B C τ d pc) (nodeE xs L ck F cW 1 a b c EA EB EC) := by
  obtain ⟨hconst, -⟩ := HC
  intro τ d pc ks pc' ts en S st x st' h he hl hd
  obtain ⟨r, h1, h⟩ := j_bd h
  obtain ⟨⟨e1, e0, e2⟩, h⟩ := j_if h
  cases h
  cases he
  refine ⟨rfl, fun k => hconst _ _ r.1 _ _ _ _ h1 e0 ?_⟩
  have e : r.1 = (r.1.1, r.1.2) := rfl
  rw [e2] at e
  rw [e]
  exact k
theorem v_3 (HC : XClo dec lk pk rk thr rt xs L ck F cW R X J) : PV dec J (fun τ d _ pc => c_val dec lk pk rk thr 3 a b c A B C τ d pc) (nodeE xs L ck F cW 3 a b c EA EB EC) := by
  obtain ⟨-, hload, -⟩ := HC
  intro τ d pc ks pc' ts en S st x st' h he hl hd
  obtain ⟨r, h1, h⟩ := j_bd h
  obtain ⟨kd, h2, h⟩ := j_bd h
  obtain ⟨⟨e1, e0, e2⟩, h⟩ := j_if h
  cases h
  cases he
  refine ⟨rfl, fun k => hload _ _ r.1.1 r.1.2 kd _ _ _ _ h1 (by rw [e1]; exact h2) e0 e2 hl ?_⟩
  rw [e1]
  exact k
theorem v_4 (HC : XClo dec lk pk rk thr rt xs L ck F cW R X J) (hA : PV dec J A EA) : PV dec J (fun τ d _ pc => c_val dec lk pk rk thr 4 a b c A B C τ d pc) (nodeE xs L ck F cW 4 a b c EA EB EC) := by
  obtain ⟨-, -, -, -, hg, -⟩ := HC
  intro τ d pc ks pc' ts en S st x st' h he hl hd
  obtain ⟨q, h1, h⟩ := j_bd h
  obtain ⟨r, h2, h⟩ := j_bd h
  obtain ⟨⟨e1, e2, e3, e4, e5⟩, h⟩ := j_if h
  obtain ⟨y, hy, he⟩ := j_bd he
  cases h
  cases he
  obtain ⟨⟨r1, r2, r3, r4⟩, p⟩ := r
  obtain ⟨ks, q1, q2⟩ := q
  dsimp only at *
  subst e1; subst e2; subst e3; subst e4
  obtain ⟨-, kk⟩ := hA.one h1 hy hl hd
  exact ⟨rfl, fun k => kk (hg _ _ _ _ _ _ _ _ _ h2 e5 k)⟩
theorem v_5 (HC : XClo dec lk pk rk thr rt xs L ck F cW R X J) (hA : PV dec J A EA) : PV dec J (fun τ d _ pc => c_val dec lk pk rk thr 5 a b c A B C τ d pc) (nodeE xs L ck F cW 5 a b c EA EB EC) := by
  obtain ⟨-, -, -, -, -, hg, -⟩ := HC
  intro τ d pc ks pc' ts en S st x st' h he hl hd
  obtain ⟨q, h1, h⟩ := j_bd h
  obtain ⟨r, h2, h⟩ := j_bd h
  obtain ⟨⟨e1, e2, e3, e4, e5⟩, h⟩ := j_if h
  obtain ⟨y, hy, he⟩ := j_bd he
  obtain ⟨z, hz, he⟩ := j_bd he
  cases h
  cases he
  obtain ⟨⟨r1, r2, r3, r4⟩, p⟩ := r
  obtain ⟨ks, q1, q2⟩ := q
  dsimp only at *
  subst e1; subst e2; subst e3; subst e4
  obtain ⟨-, kk⟩ := hA.one h1 hy hl hd
  exact ⟨rfl, fun k => kk (hg _ _ _ _ _ _ _ _ _ _ h2 e5 hz k)⟩
theorem v_7 (HC : XClo dec lk pk rk thr rt xs L ck F cW R X J) (hA : PV dec J A EA) (hB : PV dec J B EB) : PV dec J (fun τ d _ pc => c_val dec lk pk rk thr 7 a b c A B C τ d pc) (nodeE xs L ck F cW 7 a b c EA EB EC) := by
  obtain ⟨-, -, -, -, -, -, hald, hsld, hwld, -⟩ := HC
  intro τ d pc ks pc' ts en S st x st' h he hl hd
  obtain ⟨⟨ka, p1, t1⟩, h1, g1⟩ := j_bd h
  clear h
  obtain ⟨⟨kb, p2, t2⟩, h2, g2⟩ := j_bd g1
  clear g1
  obtain ⟨⟨w, p3⟩, h3, g3⟩ := j_bd g2
  clear g2
  obtain ⟨⟨e1, e2⟩, h⟩ := j_ifx g3
  clear g3
  obtain ⟨⟨y, s1⟩, hy, he1⟩ := j_bd he
  clear he
  obtain ⟨⟨z, s2⟩, hz, he⟩ := j_bd he1
  clear he1
  dsimp only at *
  subst e1; subst e2
  split at h
  · rename_i hc
    rw [hc] at he
    split at h
    · rename_i ty
      obtain ⟨⟨e3, e4, e5⟩, h⟩ := j_if h
      obtain ⟨⟨e6, e7⟩, he⟩ := j_if he
      cases h; cases he
      obtain ⟨-, k1⟩ := hA.one h1 hy hl hd
      obtain ⟨-, k2⟩ := hB.one (S := (ty, j_hd y) :: S) h2 hz hl (by rw [k_cats_cons]; have : k_cats [ty] = 1 := (by simp [k_cats, k_cat]; omega); omega)
      exact ⟨rfl, fun k => k1 (k2 (hald _ _ _ _ _ _ _ _ _ h3 e3 e4 e5 e6 e7 k))⟩
    · cases h
  · rename_i hc
    rw [hc] at he
    obtain ⟨⟨e3, e4⟩, h⟩ := j_if h
    obtain ⟨⟨e6, e7⟩, he⟩ := j_if he
    cases h; cases he
    subst e3; subst e4
    obtain ⟨-, k1⟩ := hA.one h1 hy hl hd
    obtain ⟨-, k2⟩ := hB.one (S := (5, j_hd y) :: S) h2 hz hl (by rw [k_cats_cons]; have : k_cats [5] = 1 := rfl; omega)
    exact ⟨rfl, fun k => k1 (k2 (hsld _ _ _ _ _ _ _ h3 e6 e7 k))⟩
  · rename_i hc
    rw [hc] at he
    obtain ⟨⟨e3, e4⟩, h⟩ := j_if h
    obtain ⟨⟨e6, e7⟩, he⟩ := j_if he
    cases h; cases he
    subst e3; subst e4
    obtain ⟨-, k1⟩ := hA.one h1 hy hl hd
    obtain ⟨-, k2⟩ := hB.one (S := (4, j_hd y) :: S) h2 hz hl (by rw [k_cats_cons]; have : k_cats [4] = 1 := rfl; omega)
    exact ⟨rfl, fun k => k1 (k2 (hwld _ _ _ _ _ _ _ h3 e6 e7 k))⟩
  · cases h
theorem v_10 (HC : XClo dec lk pk rk thr rt xs L ck F cW R X J) (hA : PV dec J A EA) : PV dec J (fun τ d _ pc => c_val dec lk pk rk thr 10 a b c A B C τ d pc) (nodeE xs L ck F cW 10 a b c EA EB EC) := by
  obtain ⟨-, -, -, -, -, -, -, -, -, hn, hs, hw, -⟩ := HC
  intro τ d pc ks pc' ts en S st x st' h he hl hd
  obtain ⟨⟨ka, p1, t1⟩, h1, h⟩ := j_bd h
  obtain ⟨h2, h⟩ := j_ifx h
  obtain ⟨⟨y, s1⟩, hy, he⟩ := j_bd he
  dsimp only at *
  split at h
  · rename_i hc
    rw [hc] at he
    split at h
    · obtain ⟨⟨e3, e4⟩, h⟩ := j_if h
      cases h; cases he
      obtain ⟨-, k1⟩ := hA.one h1 hy hl hd
      exact ⟨rfl, fun k => k1 (hn _ _ _ _ _ _ _ h2 e3 e4 k)⟩
    · cases h
  · rename_i hc
    rw [hc] at he
    obtain ⟨e3, h⟩ := j_if h
    cases h; cases he
    subst e3
    obtain ⟨-, k1⟩ := hA.one h1 hy hl hd
    exact ⟨rfl, fun k => k1 (hs _ _ _ _ _ _ h2 k)⟩
  · rename_i hc
    rw [hc] at he
    obtain ⟨e3, h⟩ := j_if h
    cases h; cases he
    subst e3
    obtain ⟨-, k1⟩ := hA.one h1 hy hl hd
    exact ⟨rfl, fun k => k1 (hw _ _ _ _ _ _ h2 k)⟩
  · cases h
theorem v_13 (HC : XClo dec lk pk rk thr rt xs L ck F cW R X J) (hA : PV dec J A EA) : PV dec J (fun τ d _ pc => c_val dec lk pk rk thr 13 a b c A B C τ d pc) (nodeE xs L ck F cW 13 a b c EA EB EC) := by
  obtain ⟨-, -, -, -, -, -, -, -, -, -, -, -, hg, -⟩ := HC
  intro τ d pc ks pc' ts en S st x st' h he hl hd
  obtain ⟨q, h1, h⟩ := j_bd h
  obtain ⟨r, h2, h⟩ := j_bd h
  obtain ⟨⟨e1, e2, e3, e4, e5⟩, h⟩ := j_if h
  obtain ⟨y, hy, he⟩ := j_bd he
  cases h
  cases he
  obtain ⟨⟨r1, r2, r3, r4⟩, p⟩ := r
  obtain ⟨ks, q1, q2⟩ := q
  dsimp only at *
  subst e1; subst e2; subst e3; subst e4
  obtain ⟨-, kk⟩ := hA.one h1 hy hl hd
  exact ⟨rfl, fun k => kk (hg _ _ _ _ _ _ _ _ _ h2 e5 k)⟩
theorem v_14 (HC : XClo dec lk pk rk thr rt xs L ck F cW R X J) (hA : PV dec J A EA) (hB : PV dec J B EB) : PV dec J (fun τ d _ pc => c_val dec lk pk rk thr 14 a b c A B C τ d pc) (nodeE xs L ck F cW 14 a b c EA EB EC) := by
  obtain ⟨-, -, -, -, -, -, -, -, -, -, -, -, -, hg, -⟩ := HC
  intro τ d pc ks pc' ts en S st x st' h he hl hd
  obtain ⟨p, h1, h⟩ := j_bd h
  obtain ⟨⟨k0, p2⟩, h2, h⟩ := j_bd h
  obtain ⟨⟨e1, e2⟩, h⟩ := j_if h
  obtain ⟨y, hy, he⟩ := j_bd he
  obtain ⟨z, hz, he⟩ := j_bd he
  cases h
  cases he
  dsimp only at *
  subst e1; subst e2
  exact ⟨rfl, fun k => PV.two hA hB h1 hy hz hl hd (hg _ _ _ _ _ _ _ _ h2 k)⟩
theorem v_15 (HC : XClo dec lk pk rk thr rt xs L ck F cW R X J) (hA : PV dec J A EA) (hB : PV dec J B EB) : PV dec J (fun τ d _ pc => c_val dec lk pk rk thr 15 a b c A B C τ d pc) (nodeE xs L ck F cW 15 a b c EA EB EC) := by
  obtain ⟨-, -, -, -, -, -, -, -, -, -, -, -, -, -, hg, -⟩ := HC
  intro τ d pc ks pc' ts en S st x st' h he hl hd
  obtain ⟨p, h1, h⟩ := j_bd h
  obtain ⟨⟨k0, p2⟩, h2, h⟩ := j_bd h
  obtain ⟨⟨e1, e2⟩, h⟩ := j_if h
  obtain ⟨y, hy, he⟩ := j_bd he
  obtain ⟨z, hz, he⟩ := j_bd he
  cases h
  cases he
  dsimp only at *
  subst e1; subst e2
  exact ⟨rfl, fun k => PV.two hA hB h1 hy hz hl hd (hg _ _ _ _ _ _ _ _ h2 k)⟩
theorem v_16 (HC : XClo dec lk pk rk thr rt xs L ck F cW R X J) (hA : PV dec J A EA) (hB : PV dec J B EB) : PV dec J (fun τ d _ pc => c_val dec lk pk rk thr 16 a b c A B C τ d pc) (nodeE xs L ck F cW 16 a b c EA EB EC) := by
  obtain ⟨-, -, -, -, -, -, -, -, -, -, -, -, -, -, -, hg, -⟩ := HC
  intro τ d pc ks pc' ts en S st x st' h he hl hd
  obtain ⟨p, h1, h⟩ := j_bd h
  obtain ⟨⟨k0, p2⟩, h2, h⟩ := j_bd h
  obtain ⟨⟨e1, e2⟩, h⟩ := j_if h
  obtain ⟨y, hy, he⟩ := j_bd he
  obtain ⟨z, hz, he⟩ := j_bd he
  cases h
  cases he
  dsimp only at *
  subst e1; subst e2
  exact ⟨rfl, fun k => PV.two hA hB h1 hy hz hl hd (hg _ _ _ _ _ _ _ _ h2 k)⟩
theorem v_17 (HC : XClo dec lk pk rk thr rt xs L ck F cW R X J) (hA : PV dec J A EA) (hB : PV dec J B EB) : PV dec J (fun τ d _ pc => c_val dec lk pk rk thr 17 a b c A B C τ d pc) (nodeE xs L ck F cW 17 a b c EA EB EC) := by
  obtain ⟨-, -, -, -, -, -, -, -, -, -, -, -, -, -, -, -, hg, -⟩ := HC
  intro τ d pc ks pc' ts en S st x st' h he hl hd
  obtain ⟨p, h1, h⟩ := j_bd h
  obtain ⟨⟨k0, p2⟩, h2, h⟩ := j_bd h
  obtain ⟨⟨e1, e2⟩, h⟩ := j_if h
  obtain ⟨y, hy, he⟩ := j_bd he
  obtain ⟨z, hz, he⟩ := j_bd he
  split at he
  · cases he
  rename_i hne
  cases h
  cases he
  dsimp only at *
  subst e1; subst e2
  exact ⟨rfl, fun k => PV.two hA hB h1 hy hz hl hd (hg _ _ _ _ _ _ _ _ _ h2 hne k)⟩
theorem v_18 (HC : XClo dec lk pk rk thr rt xs L ck F cW R X J) (hA : PV dec J A EA) : PV dec J (fun τ d _ pc => c_val dec lk pk rk thr 18 a b c A B C τ d pc) (nodeE xs L ck F cW 18 a b c EA EB EC) := by
  obtain ⟨-, -, -, -, -, -, -, -, -, -, -, -, -, -, -, -, -, hg, -⟩ := HC
  intro τ d pc ks pc' ts en S st x st' h he hl hd
  obtain ⟨⟨ka, p1, t1⟩, h1, h⟩ := j_bd h
  obtain ⟨⟨⟨k0, k1, k2⟩, p2⟩, h2, h⟩ := j_bd h
  obtain ⟨⟨e1, e2, e3⟩, h⟩ := j_if h
  obtain ⟨y, hy, he⟩ := j_bd he
  cases h
  cases he
  dsimp only at *
  subst e1; subst e2; subst e3
  obtain ⟨-, kk⟩ := hA.one h1 hy hl hd
  exact ⟨rfl, fun k => kk (hg _ _ _ _ _ _ _ _ _ h2 k)⟩
theorem v_24 (hA : PV dec J A EA) : PV dec J (fun τ d _ pc => c_val dec lk pk rk thr 24 a b c A B C τ d pc) (nodeE xs L ck F cW 24 a b c EA EB EC) := by
  intro τ d pc ks pc' ts en S st x st' h he hl hd
  obtain ⟨⟨ka, p1, t1⟩, h1, h⟩ := j_bd h
  obtain ⟨e1, h⟩ := j_if h
  cases h
  dsimp only at *
  subst e1
  exact hA _ _ _ _ _ _ _ S _ _ _ h1 he hl hd
theorem v_28 (hA : PJ dec J A EA) (hB : PV dec J B EB) (hC : PV dec J C EC) : PV dec J (fun τ d _ pc => c_val dec lk pk rk thr 28 a b c A B C τ d pc) (nodeE xs L ck F cW 28 a b c EA EB EC) := by
  intro τ d pc ks pc' ts en S st x st' h he hl hd
  obtain ⟨⟨ka, p1, t1⟩, h1, h⟩ := j_bd h
  obtain ⟨⟨kb, p2, t2⟩, h2, h⟩ := j_bd h
  obtain ⟨e0, h⟩ := j_ifx h
  obtain ⟨⟨kc, p3, t3⟩, h3, h⟩ := j_bd h
  obtain ⟨⟨e1, e2⟩, h⟩ := j_if h
  cases h
  dsimp only at *
  subst e1
  obtain ⟨⟨y, s1⟩, hy, he⟩ := j_bd he
  dsimp only at he
  rw [Bool.and_eq_true] at e0
  have e3 := List.all_eq_true.mp e0.2
  have key := hA τ d 1 pc _ _ _ en S st y s1 (Or.inl rfl) h1 hy hl hd
  split at he
  · rename_i hz
    obtain ⟨g1, g2⟩ := hC τ d _ _ _ _ en S _ _ _ h3 he hl hd
    refine ⟨g1, fun k => key (fun _ t ht => ?_) (fun hn => absurd (by simp [j_jp, hz]) hn)⟩
    have := e3 t ht
    rw [beq_iff_eq] at this
    rw [this]
    exact g2 k
  · rename_i hz
    obtain ⟨g1, g2⟩ := hB τ d _ _ _ _ en S _ _ _ h2 he hl hd
    refine ⟨g1, fun k => key (fun hn => absurd hn (by simp [j_jp, hz])) (fun _ => g2 ?_)⟩
    rw [e2]
    exact k
theorem v_30 (hA : PV dec J A EA) (hB : PV dec J B EB) : PV dec J (fun τ d _ pc => c_val dec lk pk rk thr 30 a b c A B C τ d pc) (nodeE xs L ck F cW 30 a b c EA EB EC) := by
  intro τ d pc ks pc' ts en S st x st' h he hl hd
  obtain ⟨⟨ka, p1, t1⟩, h1, h⟩ := j_bd h
  obtain ⟨⟨kb, p2, t2⟩, h2, h⟩ := j_bd h
  obtain ⟨⟨y, s1⟩, hy, he⟩ := j_bd he
  obtain ⟨⟨z, s2⟩, hz, he⟩ := j_bd he
  cases h
  cases he
  dsimp only at *
  obtain ⟨a1, b1⟩ := hA _ _ _ _ _ _ _ S _ _ _ h1 hy hl hd
  obtain ⟨a2, b2⟩ := hB _ _ _ _ _ _ _ ((ka.zip y).reverse ++ S) _ _ _ h2 hz hl (by rw [k_cats_rz a1]; omega)
  refine ⟨by simp [a1, a2], fun k => b1 (b2 ?_)⟩
  rw [List.zip_append a1.symm, List.reverse_append, List.append_assoc] at k
  exact k
theorem v_31 : PV dec J (fun τ d _ pc => c_val dec lk pk rk thr 31 a b c A B C τ d pc) (nodeE xs L ck F cW 31 a b c EA EB EC) := by
  intro τ d pc ks pc' ts en S st x st' h he hl hd
  cases h
  cases he
  exact ⟨rfl, fun k => k⟩
theorem v_32 (HC : XClo dec lk pk rk thr rt xs L ck F cW R X J) (hA : PV dec J A EA) : PV dec J (fun τ d _ pc => c_val dec lk pk rk thr 32 a b c A B C τ d pc) (nodeE xs L ck F cW 32 a b c EA EB EC) := by
  obtain ⟨-, -, -, -, -, -, -, -, -, -, -, -, -, -, -, -, -, -, -, -, -, -, hcall, -, -, -, -, -, -, -, -, -, -, -, -, -, -, hlen⟩ := HC
  intro τ d pc ks pc' ts en S st x st' h he hl hd
  obtain ⟨⟨ka, p1, t1⟩, h1, h⟩ := j_bd h
  obtain ⟨⟨f, p2⟩, h2, h⟩ := j_bd h
  obtain ⟨⟨e1, e2, e3, e4, e5⟩, h⟩ := j_if h
  obtain ⟨⟨y, s1⟩, hy, he⟩ := j_bd he
  obtain ⟨⟨rc, rv, rs⟩, hr, he⟩ := j_bd he
  obtain ⟨e6, he⟩ := j_if he
  cases h
  cases he
  dsimp only at *
  subst e1; subst e2; subst e5; subst e6
  obtain ⟨a1, b1⟩ := hA _ _ _ _ _ _ _ S _ _ _ h1 hy hl hd
  exact ⟨hlen _ _ _ _ _ hr, fun k => b1 (hcall _ _ _ _ _ _ _ _ _ h2 e3 hr a1 (Nat.le_trans hd e4) k)⟩
theorem v_34 (HC : XClo dec lk pk rk thr rt xs L ck F cW R X J) (hA : PV dec J A EA) : PV dec J (fun τ d _ pc => c_val dec lk pk rk thr 34 a b c A B C τ d pc) (nodeE xs L ck F cW 34 a b c EA EB EC) := by
  obtain ⟨-, -, -, -, -, -, -, -, -, -, -, -, -, -, -, -, -, -, -, -, -, -, hcall, hnew, -, hdup, -, -, -, -, -, -, -, -, -, -, -, hlen⟩ := HC
  intro τ d pc ks pc' ts en S st x st' h he hl hd
  obtain ⟨⟨⟨z1, z2, z3⟩, p2⟩, h2, h⟩ := j_bd h
  obtain ⟨⟨e1, e2, e3, e4⟩, h⟩ := j_ifx h
  obtain ⟨⟨ka, p1, t1⟩, h1, h⟩ := j_bd h
  obtain ⟨⟨f, p3⟩, h3, h⟩ := j_bd h
  obtain ⟨⟨g1, g2, g3, g4, g5, g6⟩, h⟩ := j_if h
  obtain ⟨⟨y, s1⟩, hy, he⟩ := j_bd he
  obtain ⟨⟨rc, rv, rs⟩, hr, he⟩ := j_bd he
  obtain ⟨e6, he⟩ := j_if he
  cases h
  cases he
  dsimp only at *
  subst e1; subst e2; subst e3; subst g1; subst g6; subst e6
  have hrv : rv = [] := by
    have := hlen _ _ _ _ _ hr
    rw [g3] at this
    exact List.length_eq_zero_iff.mp this
  subst hrv
  refine ⟨rfl, fun k => hnew _ _ _ _ _ _ _ h2 (hdup _ _ _ _ _ _ e4 (by dsimp only; omega) ?_)⟩
  have kc : k_cats (((10 + sx_n b, (st.1.1.length : Int)) :: (10 + sx_n b, (st.1.1.length : Int)) :: S).map (·.1)) ≤ d + 2 := by
    rw [k_cats_cons, k_cats_cons]
    have : k_cats [10 + sx_n b] = 1 := by simp [k_cats, k_cat]; omega
    omega
  have kc2 : k_cats (((10 + sx_n b, (st.1.1.length : Int)) :: S).map (·.1)) ≤ 8 := by
    rw [k_cats_cons]
    have : k_cats [10 + sx_n b] = 1 := by simp [k_cats, k_cat]; omega
    omega
  obtain ⟨a1, b1⟩ := hA _ _ _ _ _ _ _ ((10 + sx_n b, (st.1.1.length : Int)) :: (10 + sx_n b, (st.1.1.length : Int)) :: S) _ _ _ h1 hy hl kc
  refine b1 ?_
  have q := hcall _ _ ((st.1.1.length : Int) :: y) [] τ en ((10 + sx_n b, (st.1.1.length : Int)) :: S) _ _ h3 g4 hr (by rw [g2]; simp [a1]) kc2
  rw [g2, g3] at q
  have q2 := q k
  simp only [List.zip_cons_cons, List.reverse_cons, List.append_assoc, List.singleton_append] at q2
  exact q2
theorem v_35 (HC : XClo dec lk pk rk thr rt xs L ck F cW R X J) (hA : PV dec J A EA) : PV dec J (fun τ d _ pc => c_val dec lk pk rk thr 35 a b c A B C τ d pc) (nodeE xs L ck F cW 35 a b c EA EB EC) := by
  obtain ⟨-, -, -, -, -, -, -, -, -, -, -, -, -, -, -, -, -, -, -, -, -, -, -, -, hnewa, -⟩ := HC
  intro τ d pc ks pc' ts en S st x st' h he hl hd
  obtain ⟨⟨ka, p1, t1⟩, h1, h⟩ := j_bd h
  obtain ⟨⟨ty, p2⟩, h2, h⟩ := j_bd h
  obtain ⟨⟨e1, e2, e3⟩, h⟩ := j_if h
  obtain ⟨⟨y, s1⟩, hy, he⟩ := j_bd he
  obtain ⟨e4, he⟩ := j_ifx he
  cases h
  cases he
  dsimp only at *
  subst e1; subst e2; subst e3
  obtain ⟨-, k1⟩ := hA.one h1 hy hl hd
  exact ⟨rfl, fun k => k1 (hnewa _ _ _ _ _ _ _ h2 e4 k)⟩
theorem v_36 (HC : XClo dec lk pk rk thr rt xs L ck F cW R X J) (hA : PV dec J A EA) (hB : PV dec J B EB) : PV dec J (fun τ d _ pc => c_val dec lk pk rk thr 36 a b c A B C τ d pc) (nodeE xs L ck F cW 36 a b c EA EB EC) := by
  obtain ⟨hconst, -, -, -, -, -, -, -, -, -, -, -, -, -, -, -, -, -, -, -, -, -, -, -, -, hdup, -, -, -, -, hast, -⟩ := HC
  intro τ d pc ks pc' ts en S st x st' h he hl hd
  obtain ⟨⟨ka, p1, t1⟩, h1, h⟩ := j_bd h
  dsimp only at h
  split at h
  · rename_i ty
    obtain ⟨⟨e1, e2⟩, h⟩ := j_ifx h
    obtain ⟨⟨⟨c1, c2⟩, p2⟩, h2, h⟩ := j_bd h
    obtain ⟨e3, h⟩ := j_ifx h
    obtain ⟨⟨kb, p3, t3⟩, h3, h⟩ := j_bd h
    obtain ⟨⟨w, p4⟩, h4, h⟩ := j_bd h
    obtain ⟨⟨e4, e5, e6⟩, h⟩ := j_if h
    obtain ⟨⟨y, s1⟩, hy, he⟩ := j_bd he
    obtain ⟨⟨z, s2⟩, hz, he⟩ := j_bd he
    obtain ⟨e7, he⟩ := j_if he
    have t1' : (1 : Nat) ≠ 0 := by decide
    cases h
    cases he
    cases e3
    dsimp only at *
    subst e4; subst e5; subst e6
    obtain ⟨ey, k1⟩ := hA.one h1 hy hl hd
    have t2 : w ≠ 2 := by omega
    have kc : k_cats (((1, (sx_n c : Int)) :: (w, j_hd y) :: (w, j_hd y) :: S).map (·.1)) ≤ d + 3 := by
      rw [k_cats_cons, k_cats_cons, k_cats_cons]
      have : k_cats [w] = 1 := by simp [k_cats, k_cat, t2]
      have : k_cats [1] = 1 := rfl
      omega
    obtain ⟨-, k3⟩ := hB.one (S := (1, (sx_n c : Int)) :: (w, j_hd y) :: (w, j_hd y) :: S) h3 hz hl kc
    refine ⟨by rw [ey]; rfl, fun k => k1 (hdup _ _ _ _ _ _ e2 t2 (hconst _ _ (1, (sx_n c : Int)) _ _ _ _ h2 t1' (k3 (hast _ w w _ _ _ _ _ _ _ h4 (by omega) (by omega) (by rcases e1 with rfl | rfl <;> rfl) (by omega) (by omega) ?_))))⟩
    rw [ey] at k
    rcases e1 with rfl | rfl <;> exact k
  · cases h
end JNV
end
