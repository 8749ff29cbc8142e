/-! ===== the checker: does this bytecode do what that tree says ===== -/
/-- a field's kind: -1 a boolean's -/
def j_kd (v : Int) : Nat := if v = -1 then 1 else v.toNat
def a_const (lk : XK) : Instr → Option (Nat × Int)
  | .iconst n => if -1 ≤ n ∧ n ≤ 5 then some (1, n) else none
  | .bipush n => if -128 ≤ n ∧ n < 128 then some (1, n) else none
  | .sipush n => if -32768 ≤ n ∧ n < 32768 then some (1, n) else none
  | .lconst n => some (2, ((n : Nat) : Int))
  | .ldc i => match lk i with
    | some (3, _, _, v) => some (1, v)
    | _ => none
  | .ldc_w i => match lk i with
    | some (3, _, _, v) => some (1, v)
    | _ => none
  | .ldc2_w i => match lk i with
    | some (4, _, _, v) => some (2, v)
    | _ => none
  | .getstatic i => match lk i with
    | some (2, kd, _, v) => some (kd, v)
    | _ => none
  | _ => none
def a_load : Instr → Option (Nat × Nat)
  | .iload i => some (1, i)
  | .iload_n i => some (1, i.val)
  | .lload i => some (2, i)
  | .lload_n i => some (2, i.val)
  | .aload i => some (3, i)
  | .aload_n i => some (3, i.val)
  | _ => none
def a_store : Instr → Option (Nat × Nat)
  | .istore i => some (1, i)
  | .istore_n i => some (1, i.val)
  | .lstore i => some (2, i)
  | .lstore_n i => some (2, i.val)
  | .astore i => some (3, i)
  | .astore_n i => some (3, i.val)
  | _ => none
def a_getf (lk : XK) : Instr → Option (Nat × Nat × Nat × Int)
  | .getfield i => lk i
  | _ => none
def a_putf (lk : XK) : Instr → Option (Nat × Nat × Nat × Int)
  | .putfield i => lk i
  | _ => none
def a_new (lk : XK) : Instr → Option (Nat × Nat × Nat × Int)
  | .new i => lk i
  | _ => none
/-- which method, and by which instruction: 0 virtual, 1 static, 2 special -/
def a_call (lk : XK) : Instr → Option Nat
  | .invokevirtual i => match lk i with
    | some (6, f, 0, _) => some f
    | _ => none
  | .invokestatic i => match lk i with
    | some (6, f, 1, _) => some f
    | _ => none
  | .invokespecial i => match lk i with
    | some (6, f, 2, _) => some f
    | _ => none
  | _ => none
def a_ald : Instr → Option Nat
  | .iaload => some 6
  | .laload => some 7
  | .baload => some 8
  | .aaload => some 4
  | _ => none
def a_ast : Instr → Option Nat
  | .iastore => some 6
  | .lastore => some 7
  | .bastore => some 8
  | _ => none
def a_iop : Instr → Option Nat
  | .iadd => some 0
  | .isub => some 1
  | .imul => some 2
  | .iand => some 3
  | .ior => some 4
  | .ixor => some 5
  | .ishl => some 6
  | .ishr => some 7
  | .iushr => some 8
  | _ => none
def a_lop : Instr → Option Nat
  | .ladd => some 0
  | .lsub => some 1
  | .lmul => some 2
  | .land => some 3
  | .lor => some 4
  | _ => none
def a_lsh : Instr → Option Nat
  | .lshl => some 0
  | .lshr => some 1
  | .lushr => some 2
  | _ => none
/-- kind, number -/
def a_div : Instr → Option (Nat × Nat)
  | .idiv => some (1, 0)
  | .irem => some (1, 1)
  | .ldiv => some (2, 2)
  | .lrem => some (2, 3)
  | _ => none
/-- number, kind, kind behind it -/
def a_un : Instr → Option (Nat × Nat × Nat)
  | .ineg => some (0, 1, 1)
  | .lneg => some (1, 2, 2)
  | .i2l => some (2, 1, 2)
  | .l2i => some (3, 2, 1)
  | .i2b => some (4, 1, 1)
  | _ => none
def a_cn : Jvm.ClassFile.Cond → Nat
  | .eq => 0
  | .ne => 1
  | .lt => 2
  | .ge => 3
  | .gt => 4
  | .le => 5
def a_icmp : Instr → Option (Nat × Int)
  | .if_icmp q off => some (a_cn q, off)
  | _ => none
def a_if : Instr → Option (Nat × Int)
  | .ifCond q off => some (a_cn q, off)
  | _ => none
def a_acmp : Instr → Option (Nat × Int)
  | .if_acmp .eq off => some (0, off)
  | .if_acmp .ne off => some (1, off)
  | _ => none
def a_goto : Instr → Option Int
  | .goto off => some off
  | _ => none
def a_iinc : Instr → Option (Nat × Int)
  | .iinc i n => some (i, n)
  | _ => none
/-- an instruction without operands, by a number -/
def a_op0 : Instr → Nat
  | .dup => 1
  | .dup2 => 2
  | .pop => 3
  | .arraylength => 4
  | .lcmp => 5
  | .athrow => 6
  | .ireturn => 11
  | .lreturn => 12
  | .areturn => 13
  | .return_ => 14
  | _ => 0
def a_atype : Instr → Option Nat
  | .newarray .int => some 6
  | .newarray .long => some 7
  | .newarray .byte => some 8
  | .newarray .boolean => some 9
  | _ => none
def k_cl (k : Nat) : Nat := if k = 1 then 1 else if k = 2 then 2 else 3
def k_cat (k : Nat) : Nat := if k = 2 then 2 else 1
def k_cats (ks : List Nat) : Nat := (ks.map k_cat).sum
/-- which array kind an instruction that was told 8 may work at -/
def k_arr (told ty : Nat) : Bool := if told = 8 then ty == 8 || ty == 9 else ty == told
def k_elem (ty : Nat) : Nat := if ty = 7 then 2 else 1
def j_neg (k : Nat) : Nat := if k % 2 = 0 then k + 1 else k - 1
def j_tgt (pc : Nat) (off : Int) : Option Nat := if 0 ≤ (pc : Int) + off then some ((pc : Int) + off).toNat else none
def j_ultN (dec : XD) : Nat → Nat → Nat
  | 0, pc => pc
  | n + 1, pc => match (dec pc).bind (fun q => if q.2 = 3 then a_goto q.1 else none) with
    | some off => match j_tgt pc off with
      | some t => j_ultN dec n t
      | none => pc
    | none => pc
def j_ult (dec : XD) (pc : Nat) : Nat := j_ultN dec 5 pc
/-- the instruction there, as f reads it, and the next place -/
def c_ins {α : Type} (dec : XD) (pc : Nat) (f : Instr → Option α) : Option (α × Nat) := (dec pc).bind fun q => (f q.1).bind fun a => some (a, pc + q.2)
def c_op0 (dec : XD) (pc k : Nat) : Bool := match dec pc with
  | some (i, n) => a_op0 i == k && n == 1
  | none => false
def c_goto (dec : XD) (pc : Nat) : Bool := match c_ins dec pc a_goto with
  | some (_, n) => n == pc + 3
  | none => false
abbrev XN : Type := List Nat → Nat → Nat → Nat → Option (List Nat × Nat × List Nat)
def c_all (dec : XD) (ts : List Nat) (pc : Nat) : Bool := ts.all fun t => j_ult dec t == j_ult dec pc
def c_one (dec : XD) (lk : XK) (pc : Nat) (v : Int) : Bool := match c_ins dec pc (a_const lk) with
  | some ((kd, x), p) => kd == 1 && x == v && p == pc + 1
  | none => false
/-- a condition as a number: by a jump if it is false -/
def c_mat (dec : XD) (lk : XK) (r : Option (List Nat × Nat × List Nat)) : Option (List Nat × Nat × List Nat) := r.bind fun q =>
  if c_one dec lk q.2.1 1 && c_goto dec (q.2.1 + 1) && c_one dec lk (q.2.1 + 4) 0 && c_all dec q.2.2 (q.2.1 + 4) && j_ult dec (q.2.1 + 1) == j_ult dec (q.2.1 + 5)
  then some ([1], q.2.1 + 5, []) else none
/-- a jump: its sense, target -/
def c_br (dec : XD) (pc : Nat) (f : Instr → Option (Nat × Int)) (k md : Nat) : Option (Nat × List Nat) := (c_ins dec pc f).bind fun r =>
  (j_tgt pc r.1.2).bind fun t => if r.2 = pc + 3 ∧ ((md = 1 ∧ r.1.1 = j_neg k) ∨ (md = 2 ∧ r.1.1 = k)) ∧ k < 6 then some (r.2, [t]) else none
section JCK
variable (dec : XD) (lk : XK) (pk rk : Nat → List Nat) (thr : Nat → Bool)
def c_two (A B : XN) (ka kb : List Nat) (τ : List Nat) (d pc : Nat) : Option Nat := (A τ d 0 pc).bind fun r =>
  if r.1 = ka then (B τ (d + k_cats ka) 0 r.2.1).bind fun q => if q.1 = kb then some q.2.1 else none else none
def c_jmp (t : Nat) (c : SX) (A B C : XN) (τ : List Nat) (d md pc : Nat) : Option (List Nat × Nat × List Nat) := match t with
  | 20 => (c_two A B [1] [1] τ d pc).bind fun p => (c_br dec p a_icmp (sx_n c) md).bind fun r => some ([], r.1, r.2)
  | 21 => (A τ d 0 pc).bind fun q => if q.1 = [1] then (c_br dec q.2.1 a_if (sx_n c) md).bind fun r => some ([], r.1, r.2) else none
  | 22 => (c_two A B [2] [2] τ d pc).bind fun p => if c_op0 dec p 5 then (c_br dec (p + 1) a_if (sx_n c) md).bind fun r => some ([], r.1, r.2) else none
  | 23 => (c_two A B [3] [3] τ d pc).bind fun p => if sx_n c < 2 then (c_br dec p a_acmp (sx_n c) md).bind fun r => some ([], r.1, r.2) else none
  | 24 => (A τ d 0 pc).bind fun q => if q.1 = [1] then (c_br dec q.2.1 a_if 1 md).bind fun r => some ([], r.1, r.2) else none
  | 25 => (A τ d 1 pc).bind fun r => (B τ d md r.2.1).bind fun q =>
      if md = 1 then some ([], q.2.1, r.2.2 ++ q.2.2) else if md = 2 ∧ c_all dec r.2.2 q.2.1 = true then some ([], q.2.1, q.2.2) else none
  | 26 => (A τ d 2 pc).bind fun r => (B τ d md r.2.1).bind fun q =>
      if md = 2 then some ([], q.2.1, r.2.2 ++ q.2.2) else if md = 1 ∧ c_all dec r.2.2 q.2.1 = true then some ([], q.2.1, q.2.2) else none
  | 27 => if md = 1 then A τ d 2 pc else if md = 2 then A τ d 1 pc else none
  | 28 => (A τ d 1 pc).bind fun r => (B τ d 1 r.2.1).bind fun q => if c_goto dec q.2.1 && c_all dec r.2.2 (q.2.1 + 3) then
      (C τ d md (q.2.1 + 3)).bind fun u =>
        if md = 1 ∧ j_ult dec q.2.1 = j_ult dec u.2.1 then some ([], u.2.1, q.2.2 ++ u.2.2)
        else if md = 2 ∧ c_all dec q.2.2 u.2.1 = true then some ([], u.2.1, q.2.1 :: u.2.2) else none
      else none
  | _ => none
def c_val (t : Nat) (a b c : SX) (A B C : XN) (τ : List Nat) (d pc : Nat) : Option (List Nat × Nat × List Nat) := match t with
  | 1 => (c_ins dec pc (a_const lk)).bind fun r => if r.1.1 = sx_n b ∧ r.1.1 ≠ 0 ∧ r.1.2 = (if sx_n c = 0 then (sx_n a : Int) else -(sx_n a : Int)) then some ([r.1.1], r.2, []) else none
  | 3 => (c_ins dec pc a_load).bind fun r => (τ[sx_n a]?).bind fun kd => if r.1.2 = sx_n a ∧ kd ≠ 0 ∧ k_cl kd = r.1.1 then some ([kd], r.2, []) else none
  | 4 => (A τ d 0 pc).bind fun q => (c_ins dec q.2.1 (a_getf lk)).bind fun r =>
      if r.1.1 = 0 ∧ q.1 = [10 + r.1.2.1] ∧ r.1.2.2.1 = sx_n b ∧ r.2 = q.2.1 + 3 ∧ (r.1.2.2.2 = 1 ∨ r.1.2.2.2 = 2 ∨ r.1.2.2.2 = -1) then some ([j_kd r.1.2.2.2], r.2, []) else none
  | 5 => (A τ d 0 pc).bind fun q => (c_ins dec q.2.1 (a_getf lk)).bind fun r =>
      if r.1.1 = 0 ∧ q.1 = [10 + r.1.2.1] ∧ r.1.2.2.1 = sx_n b ∧ r.2 = q.2.1 + 3 ∧ 6 ≤ r.1.2.2.2 then some ([r.1.2.2.2.toNat], r.2, []) else none
  | 7 => (A τ d 0 pc).bind fun q => (B τ (d + 1) 0 q.2.1).bind fun r => (c_ins dec r.2.1 a_ald).bind fun u =>
      if r.1 = [1] ∧ u.2 = r.2.1 + 1 then match sx_n c with
        | 0 => match q.1 with
          | [ty] => if 6 ≤ ty ∧ ty < 10 ∧ k_arr u.1 ty = true then some ([k_elem ty], u.2, []) else none
          | _ => none
        | 1 => if q.1 = [5] ∧ u.1 = 6 then some ([1], u.2, []) else none
        | 2 => if q.1 = [4] ∧ u.1 = 4 then some ([3], u.2, []) else none
        | _ => none
      else none
  | 10 => (A τ d 0 pc).bind fun q => if c_op0 dec q.2.1 4 = true then match sx_n c with
        | 0 => match q.1 with
          | [ty] => if 6 ≤ ty ∧ ty < 10 then some ([1], q.2.1 + 1, []) else none
          | _ => none
        | 1 => if q.1 = [5] then some ([1], q.2.1 + 1, []) else none
        | 2 => if q.1 = [4] then some ([1], q.2.1 + 1, []) else none
        | _ => none
      else none
  | 13 => (A τ d 0 pc).bind fun q => (c_ins dec q.2.1 (a_getf lk)).bind fun r =>
      if r.1.1 = 1 ∧ q.1 = [3] ∧ r.1.2.2.1 = sx_n c ∧ r.2 = q.2.1 + 3 ∧ (r.1.2.2.2 = 1 ∨ r.1.2.2.2 = 2) then some ([r.1.2.2.2.toNat], r.2, []) else none
  | 14 => (c_two A B [1] [1] τ d pc).bind fun p => (c_ins dec p a_iop).bind fun r => if r.1 = sx_n c ∧ r.2 = p + 1 then some ([1], r.2, []) else none
  | 15 => (c_two A B [2] [2] τ d pc).bind fun p => (c_ins dec p a_lop).bind fun r => if r.1 = sx_n c ∧ r.2 = p + 1 then some ([2], r.2, []) else none
  | 16 => (c_two A B [2] [1] τ d pc).bind fun p => (c_ins dec p a_lsh).bind fun r => if r.1 = sx_n c ∧ r.2 = p + 1 then some ([2], r.2, []) else none
  | 17 => let k := if sx_n c < 2 then 1 else 2
      (c_two A B [k] [k] τ d pc).bind fun p => (c_ins dec p a_div).bind fun r => if r.1 = (k, sx_n c) ∧ r.2 = p + 1 then some ([k], r.2, []) else none
  | 18 => (A τ d 0 pc).bind fun q => (c_ins dec q.2.1 a_un).bind fun r => if q.1 = [r.1.2.1] ∧ r.1.1 = sx_n c ∧ r.2 = q.2.1 + 1 then some ([r.1.2.2], r.2, []) else none
  | 24 => (A τ d 0 pc).bind fun q => if q.1 = [1] then some ([1], q.2.1, []) else none
  | 28 => (A τ d 1 pc).bind fun r => (B τ d 0 r.2.1).bind fun q => if c_goto dec q.2.1 && c_all dec r.2.2 (q.2.1 + 3) then
      (C τ d 0 (q.2.1 + 3)).bind fun u => if q.1 = u.1 ∧ j_ult dec q.2.1 = j_ult dec u.2.1 then some (u.1, u.2.1, []) else none
      else none
  | 30 => (A τ d 0 pc).bind fun q => (B τ (d + k_cats q.1) 0 q.2.1).bind fun r => some (q.1 ++ r.1, r.2.1, [])
  | 31 => some ([], pc, [])
  | 32 => (A τ d 0 pc).bind fun q => (c_ins dec q.2.1 (a_call lk)).bind fun r =>
      if r.1 = sx_n b ∧ q.1 = pk r.1 ∧ thr r.1 = false ∧ d ≤ 8 ∧ r.2 = q.2.1 + 3 then some (rk r.1, r.2, []) else none
  | 34 => (c_ins dec pc (a_new lk)).bind fun r => if r.1.1 = 5 ∧ r.1.2.1 = sx_n b ∧ r.2 = pc + 3 ∧ c_op0 dec (pc + 3) 1 = true then
      (A τ (d + 2) 0 (pc + 4)).bind fun q => (c_ins dec q.2.1 (a_call lk)).bind fun u =>
        if u.1 = sx_n c ∧ pk u.1 = (10 + sx_n b) :: q.1 ∧ rk u.1 = [] ∧ thr u.1 = false ∧ d + 1 ≤ 8 ∧ u.2 = q.2.1 + 3 then some ([10 + sx_n b], u.2, []) else none
      else none
  | 35 => (A τ d 0 pc).bind fun q => (c_ins dec q.2.1 a_atype).bind fun r => if q.1 = [1] ∧ r.1 = sx_n b ∧ r.2 = q.2.1 + 2 then some ([r.1], r.2, []) else none
  | 36 => (A τ d 0 pc).bind fun q => match q.1 with
      | [ty] => if (ty = 6 ∨ ty = 7) ∧ c_op0 dec q.2.1 1 = true then
          (c_ins dec (q.2.1 + 1) (a_const lk)).bind fun r => if r.1 = (1, (sx_n c : Int)) then
            (B τ (d + 3) 0 r.2).bind fun u => (c_ins dec u.2.1 a_ast).bind fun w => if u.1 = [k_elem ty] ∧ w.1 = ty ∧ w.2 = u.2.1 + 1 then some ([ty], w.2, []) else none
          else none
        else none
      | _ => none
  | _ => none
/-- is it a condition, to be made a number where a number is wanted -/
def c_isC (t : Nat) : Bool := t == 20 || t == 21 || t == 22 || t == 23 || t == 25 || t == 26 || t == 27
def nodeC (t : Nat) (a b c : SX) (A B C : XN) : XN := fun τ d md pc =>
  if md = 0 then (if c_isC t then c_mat dec lk (c_jmp dec t c A B C τ d 1 pc) else c_val dec lk pk rk thr t a b c A B C τ d pc)
  else c_jmp dec t c A B C τ d md pc
def chE : SX → XN
  | .op (.var t) (.op a (.op b c)) => nodeC dec lk pk rk thr t a b c (chE a) (chE b) (chE c)
  | _ => fun _ _ _ _ => none
variable (lp : XK) (rt : List Nat) (rz : Bool) (hnd : Nat → Option (Nat × Nat))
abbrev XG : Type := List Nat → List Nat → List Nat → Nat → Option (List Nat × Nat × Bool × List Nat × List Nat)
def k_sub (τ τ' : List Nat) : Bool := τ.length == τ'.length && (List.range τ.length).all fun i => τ.getD i 0 == 0 || τ.getD i 0 == τ'.getD i 0
/-- may kind kd be laid at slot i -/
def k_fit (τ : List Nat) (i kd : Nat) : Bool := decide (i < τ.length) && kd != 0 && (τ.getD i 0 == 0 || τ.getD i 0 == kd) && (i == 0 || τ.getD (i - 1) 0 != 2) && (kd != 2 || (decide (i + 1 < τ.length) && τ.getD (i + 1) 0 == 0))
/-- a switch: where label v goes -/
def c_swT (pc : Nat) (v : Int) : Option Nat := (dec pc).bind fun q => match q.1 with
  | .tableswitch df lo hi offs => if v < lo ∨ hi < v then j_tgt pc df else (offs[(v - lo).toNat]?).bind fun o => j_tgt pc o
  | .lookupswitch df ps => j_tgt pc (Op.lookupswitch.offset ps.toList df v)
  | _ => none
def c_swOk (pc : Nat) : Bool := match dec pc with
  | some (.tableswitch _ _ _ _, _) => true
  | some (.lookupswitch _ ps, _) => (ps.toList.zip (ps.toList.drop 1)).all fun (a, next) => decide (a.1 < next.1)
  | _ => false
def c_swD (pc : Nat) : Option Nat := (dec pc).bind fun q => match q.1 with
  | .tableswitch df _ _ _ => j_tgt pc df
  | .lookupswitch df _ => j_tgt pc df
  | _ => none
def c_swL (pc : Nat) : List Int := match dec pc with
  | some (.tableswitch _ lo hi _, _) => (List.range (hi - lo + 1).toNat).map fun (i : Nat) => lo + (i : Int)
  | some (.lookupswitch _ ps, _) => ps.toList.map (·.1)
  | _ => []
def sx_cases : SX → Bool
  | .op (.var 25) (.op _ (.op _ c)) => sx_cases c
  | .op (.var 26) _ => true
  | _ => false
def k_ok (τ : List Nat) : Bool := decide (τ.headD 0 < 500)
def sx_all : SX → List Nat
  | .op (.var 25) (.op a (.op _ c)) => sx_l a ++ sx_all c
  | _ => []
def c_throw (pc : Nat) : Bool := match c_ins dec pc (a_new lk) with
  | some ((8, _), p) => p == pc + 3 && c_op0 dec (pc + 3) 1 && c_op0 dec (pc + 7) 6 && (match dec (pc + 4) with
    | some (.invokespecial i, n) => n == 3 && (match lk i with
      | some (9, _) => true
      | _ => false)
    | _ => false)
  | _ => false
def nodeG (t : Nat) (a b c : SX) (A B C : XG) : XG := fun τ τB τC pc =>
  let e := chE dec lk pk rk thr
  match t with
  | 1 => some (τ, pc, true, [], [])
  | 2 => (A τ τB τC pc).bind fun r => if r.2.2.1 then (B r.1 τB τC r.2.1).bind fun q => some (q.1, q.2.1, q.2.2.1, r.2.2.2.1 ++ q.2.2.2.1, r.2.2.2.2 ++ q.2.2.2.2) else none
  | 3 => (e b τ 0 0 pc).bind fun r => match r.1 with
      | [kd] => (c_ins dec r.2.1 a_store).bind fun q => if q.1 = (k_cl kd, sx_n a) ∧ k_fit τ (sx_n a) kd = true ∧ kd < 500 then some (τ.set (sx_n a) kd, q.2, true, [], []) else none
      | _ => none
  | 4 => (c_ins dec pc a_iinc).bind fun r => if r.1 = (sx_n a, (if sx_n c = 0 then (sx_n b : Int) else -(sx_n b : Int))) ∧ τ[sx_n a]? = some 1 ∧ (r.2 = pc + 3 ∨ r.2 = pc + 6) then some (τ, r.2, true, [], []) else none
  | 5 => (e a τ 0 0 pc).bind fun q => (e b τ 1 0 q.2.1).bind fun r => (c_ins dec r.2.1 (a_putf lp)).bind fun u =>
      if u.1.1 = 0 ∧ q.1 = [10 + u.1.2.1] ∧ u.1.2.2.1 = sx_n c ∧ u.2 = r.2.1 + 3 ∧ (u.1.2.2.2 = 1 ∨ u.1.2.2.2 = 2) ∧ r.1 = [u.1.2.2.2.toNat] then some (τ, u.2, true, [], []) else none
  | 6 => (e a τ 0 0 pc).bind fun q => if c_op0 dec q.2.1 1 = true then (c_ins dec (q.2.1 + 1) (a_getf lk)).bind fun g =>
      if g.1.1 = 0 ∧ q.1 = [10 + g.1.2.1] ∧ g.1.2.2.1 = sx_n c / 16 ∧ g.2 = q.2.1 + 4 ∧ g.1.2.2.2 = 1 then
        (e b τ 2 0 g.2).bind fun r => (c_ins dec r.2.1 a_iop).bind fun o => (c_ins dec o.2 (a_putf lp)).bind fun u =>
          if r.1 = [1] ∧ o.1 = sx_n c % 16 ∧ o.2 = r.2.1 + 1 ∧ u.1 = g.1 ∧ u.2 = o.2 + 3 then some (τ, u.2, true, [], []) else none
      else none else none
  | 7 => match c with
      | .op (.var ty) v => (e a τ 0 0 pc).bind fun q => (e b τ 1 0 q.2.1).bind fun r => (e v τ 2 0 r.2.1).bind fun u => (c_ins dec u.2.1 a_ast).bind fun w =>
          if 6 ≤ ty ∧ ty < 10 ∧ q.1 = [ty] ∧ r.1 = [1] ∧ u.1 = [k_elem ty] ∧ k_arr w.1 ty = true ∧ w.2 = u.2.1 + 1 then some (τ, w.2, true, [], []) else none
      | _ => none
  | 8 => match c with
      | .op (.var op) v => (e a τ 0 0 pc).bind fun q => (e b τ 1 0 q.2.1).bind fun r => if c_op0 dec r.2.1 2 = true then (c_ins dec (r.2.1 + 1) a_ald).bind fun g =>
          if q.1 = [6] ∧ r.1 = [1] ∧ g.1 = 6 ∧ g.2 = r.2.1 + 2 then (e v τ 3 0 g.2).bind fun u => (c_ins dec u.2.1 a_iop).bind fun o => (c_ins dec o.2 a_ast).bind fun w =>
            if u.1 = [1] ∧ o.1 = op ∧ o.2 = u.2.1 + 1 ∧ w.1 = 6 ∧ w.2 = o.2 + 1 then some (τ, w.2, true, [], []) else none
          else none else none
      | _ => none
  | 9 => (e a τ 0 0 pc).bind fun q => match q.1 with
      | [] => some (τ, q.2.1, true, [], [])
      | [k] => if k ≠ 2 ∧ c_op0 dec q.2.1 3 = true then some (τ, q.2.1 + 1, true, [], []) else none
      | _ => none
  | 10 => (e a τ 0 1 pc).bind fun q => (B τ τB τC q.2.1).bind fun r => if k_sub τ r.1 = true ∧ c_all dec q.2.2 r.2.1 = true then some (τ, r.2.1, true, r.2.2.2) else none
  | 11 => (e a τ 0 1 pc).bind fun q => (B τ τB τC q.2.1).bind fun r => if k_sub τ r.1 = true ∧ (r.2.2.1 = true → c_goto dec r.2.1 = true) ∧ c_all dec q.2.2 (if r.2.2.1 then r.2.1 + 3 else r.2.1) = true then
      (C τ τB τC (if r.2.2.1 then r.2.1 + 3 else r.2.1)).bind fun u => if k_sub τ u.1 = true ∧ (r.2.2.1 = true → j_ult dec r.2.1 = j_ult dec u.2.1) then
        some (τ, u.2.1, r.2.2.1 || u.2.2.1, r.2.2.2.1 ++ u.2.2.2.1, r.2.2.2.2 ++ u.2.2.2.2) else none
      else none
  | 12 => (e a τ 0 1 pc).bind fun q => (B τ τ τ q.2.1).bind fun r => (C τ [] [] r.2.1).bind fun u =>
      if k_sub τ r.1 = true ∧ k_sub τ u.1 = true ∧ u.2.2 = (true, [], []) ∧ c_goto dec u.2.1 = true ∧ j_ult dec u.2.1 = j_ult dec pc ∧ c_all dec q.2.2 (u.2.1 + 3) = true ∧ c_all dec r.2.2.2.1 (u.2.1 + 3) = true ∧ c_all dec r.2.2.2.2 r.2.1 = true
      then some (τ, u.2.1 + 3, true, [], []) else none
  | 13 => (B τ τ τ pc).bind fun r => (e a τ 0 2 r.2.1).bind fun q =>
      if k_sub τ r.1 = true ∧ c_all dec q.2.2 pc = true ∧ c_all dec r.2.2.2.1 q.2.1 = true ∧ c_all dec r.2.2.2.2 r.2.1 = true then some (τ, q.2.1, true, [], []) else none
  | 14 => if k_sub τB τ = true then some (τ, if c_goto dec pc then pc + 3 else pc, false, [pc], []) else none
  | 15 => if k_sub τC τ = true then some (τ, if c_goto dec pc then pc + 3 else pc, false, [], [pc]) else none
  | 16 => (e a τ 0 0 pc).bind fun q => match q.1 with
      | [kd] => if kd ≠ 0 ∧ rt = [kd] ∧ rz = false ∧ c_op0 dec q.2.1 (10 + k_cl kd) = true then some (τ, q.2.1 + 1, false, [], []) else none
      | _ => none
  | 27 => (e a τ 0 0 pc).bind fun q => if q.1 = [1] ∧ rt = [1] ∧ rz = true ∧ c_op0 dec q.2.1 11 = true then some (τ, q.2.1 + 1, false, [], []) else none
  | 17 => if rt = [] ∧ c_op0 dec pc 14 = true then some (τ, pc + 1, false, [], []) else none
  | 18 => if c_throw dec lk pc = true then some (τ, pc + 8, false, [], []) else none
  | 19 => (e a τ 0 0 pc).bind fun q => (dec q.2.1).bind fun w => (c_swD dec q.2.1).bind fun df => (B ((500 + q.2.1) :: τ) τ τC (q.2.1 + w.2)).bind fun r =>
      if q.1 = [1] ∧ c_swOk dec q.2.1 = true ∧ sx_cases b = true ∧ c_all dec r.2.2.2.1 r.2.1 = true ∧ ((c_swL dec q.2.1).all fun v => (sx_all b).any (fun n => decide (v = sx_z n)) || c_swT dec q.2.1 v == some df) = true
      then some (τ, r.2.1, r.2.2.1 || !r.2.2.2.1.isEmpty, [], r.2.2.2.2) else none
  | 20 => (A τ τB τC pc).bind fun r => if k_sub τ r.1 = true then some (τ, r.2) else none
  | 21 => (e a τ 0 0 pc).bind fun q => (e b τ 1 0 q.2.1).bind fun r => (c_ins dec r.2.1 (a_putf lp)).bind fun u =>
      if u.1.1 = 0 ∧ q.1 = [10 + u.1.2.1] ∧ u.1.2.2.1 = sx_n c ∧ u.2 = r.2.1 + 3 ∧ 6 ≤ u.1.2.2.2 ∧ r.1 = [u.1.2.2.2.toNat] then some (τ, u.2, true, [], []) else none
  | 22 => (c_ins dec pc a_load).bind fun r => match dec r.2 with
      | some (.invokespecial i, 3) => if r.1 = (3, 0) ∧ 10 ≤ τ.getD 0 0 ∧ (match lk i with
          | some (10, _) => true
          | _ => false) = true then some (τ, r.2 + 3, true, [], []) else none
      | _ => none
  | 23 => (e a τ 0 0 pc).bind fun q => (e b τ 1 0 q.2.1).bind fun r => (c_ins dec r.2.1 (a_putf lp)).bind fun u =>
      if u.1.1 = 0 ∧ q.1 = [10 + u.1.2.1] ∧ u.1.2.2.1 = sx_n c ∧ u.2 = r.2.1 + 3 ∧ u.1.2.2.2 = -1 ∧ r.1 = [1] then some (τ, u.2, true, [], []) else none
  | 24 => (e a τ 0 0 pc).bind fun q => if q.1 = [7] ∧ c_one dec lk q.2.1 0 = true then (e b τ 2 0 (q.2.1 + 1)).bind fun r => (c_ins dec r.2.1 (a_call lk)).bind fun u => (hnd r.2.1).bind fun z =>
      if u.1 = sx_n c ∧ u.2 = r.2.1 + 3 ∧ r.1 = pk u.1 ∧ rk u.1 = [1] ∧ thr u.1 = true ∧ rt = [1] ∧ rz = false ∧ τ.getD z.2 0 = 0 ∧ k_fit τ z.2 3 = true ∧ c_ins dec (r.2.1 + 3) a_un = some ((2, 1, 2), r.2.1 + 4) ∧ c_ins dec (r.2.1 + 4) a_ast = some (7, r.2.1 + 5) ∧
        j_ult dec (r.2.1 + 5) = j_ult dec (z.1 + 2) ∧ c_one dec lk z.1 1 = true ∧ c_op0 dec (z.1 + 1) 11 = true
      then some (τ, z.1 + 2, true, [], []) else none else none
  | 28 => (e a τ 0 1 pc).bind fun q => (B τ τB τC q.2.1).bind fun r => if r.2.2.1 = false ∧ q.2.2 ≠ [] ∧ k_sub τB τ = true then some (τ, r.2.1, false, q.2.2 ++ r.2.2.2.1, r.2.2.2.2) else none
  | 25 => match τ with
      | sw :: τ1 => if 500 ≤ sw ∧ ((sx_l a).all fun n => c_swT dec (sw - 500) (sx_z n) == some pc) = true then (B τ1 τB τC pc).bind fun r => if r.2.2.1 = false then
          (C τ τB τC r.2.1).bind fun q => some (τ, q.2.1, q.2.2.1, r.2.2.2.1 ++ q.2.2.2.1, r.2.2.2.2 ++ q.2.2.2.2) else none else none
      | [] => none
  | 26 => match τ with
      | sw :: τ1 => if 500 ≤ sw ∧ c_swD dec (sw - 500) = some pc then (A τ1 τB τC pc).bind fun r => if k_sub τ1 r.1 = true then some (τ, r.2) else none else none
      | [] => none
  | _ => none
def chS : SX → XG
  | .op (.var t) (.op a (.op b c)) => nodeG dec lk pk rk thr lp rt rz hnd t a b c (chS a) (chS b) (chS c)
  | _ => fun _ _ _ _ => none
end JCK
