/-! ===== a second reading of the trees: a value is a number or a place of the script; where a branch hangs on bounds that aren't known it asks for a cut ===== -/
abbrev AV : Type := Sum Int Nat
abbrev AH : Type := List (List (Nat × AV))
abbrev AS : Type := (XS × Nat × Nat) × AH
abbrev AX (α : Type) : Type := Except (Option (Nat × Int)) α
abbrev AE : Type := List AV → AS → AX (List AV × AS)
abbrev AR : Type := List AV → AS → AX (Nat × List AV × List AV × AS)
abbrev AP : Type := Nat → List AV → AS → AX (Nat × List AV × AS)
def a_v (xs : Nat → Int) : AV → Int
  | .inl v => v
  | .inr i => xs i
def lookR : List (Nat × AV) → Nat → AV
  | [], _ => .inl 0
  | e :: r, k => bif Nat.beq e.1 k then e.2 else lookR r k
def lookH : AH → Nat → Nat → AV
  | [], _, _ => .inl 0
  | l :: _, 0, k => lookR l k
  | _ :: r, a + 1, k => lookH r a k
def updH : AH → Nat → Nat → AV → AH
  | [], 0, k, v => [[(k, v)]]
  | [], o + 1, k, v => [] :: updH [] o k v
  | l :: r, 0, k, v => ((k, v) :: l) :: r
  | l :: r, o + 1, k, v => l :: updH r o k v
def clrH : AH → Nat → AH
  | [], _ => []
  | _ :: r, 0 => [] :: r
  | l :: r, o + 1 => l :: clrH r o
def a_c (xs : Nat → Int) (s : AS) : XT := (s.1, fun a b => a_v xs (lookH s.2 a b))
theorem lookR_cons {l : List (Nat × AV)} {k b : Nat} {v : AV} : lookR ((k, v) :: l) b = if b = k then v else lookR l b := by
  show (bif Nat.beq k b then v else lookR l b) = _
  by_cases h : b = k
  · subst h
    rw [if_pos rfl, Nat.beq_refl]
    rfl
  · rw [if_neg h]
    have : Nat.beq k b = false := by
      cases hb : Nat.beq k b with
      | true => exact absurd (Nat.eq_of_beq_eq_true hb).symm h
      | false => rfl
    rw [this]
    rfl
theorem look_upd : ∀ (h : AH) (o k : Nat) (v : AV) (a b : Nat), lookH (updH h o k v) a b = if a = o ∧ b = k then v else lookH h a b
  | [], 0, k, v, 0, b => by
    show lookR [(k, v)] b = _
    rw [lookR_cons]
    by_cases h : b = k
    · rw [if_pos h, if_pos ⟨rfl, h⟩]
    · rw [if_neg h, if_neg (fun z => h z.2)]
      rfl
  | [], 0, k, v, a + 1, b => by rw [if_neg (fun z => absurd z.1 (Nat.succ_ne_zero a))]; rfl
  | [], o + 1, k, v, 0, b => by rw [if_neg (fun z => absurd z.1.symm (Nat.succ_ne_zero o))]; rfl
  | [], o + 1, k, v, a + 1, b => by
    show lookH (updH [] o k v) a b = _
    rw [look_upd [] o k v a b]
    simp only [Nat.succ_inj, Nat.add_right_cancel_iff]
    rfl
  | l :: r, 0, k, v, 0, b => by
    show lookR ((k, v) :: l) b = _
    rw [lookR_cons]
    by_cases h : b = k
    · rw [if_pos h, if_pos ⟨rfl, h⟩]
    · rw [if_neg h, if_neg (fun z => h z.2)]
      rfl
  | l :: r, 0, k, v, a + 1, b => by rw [if_neg (fun z => absurd z.1 (Nat.succ_ne_zero a))]; rfl
  | l :: r, o + 1, k, v, 0, b => by rw [if_neg (fun z => absurd z.1.symm (Nat.succ_ne_zero o))]; rfl
  | l :: r, o + 1, k, v, a + 1, b => by
    show lookH (updH r o k v) a b = _
    rw [look_upd r o k v a b]
    simp only [Nat.add_right_cancel_iff]
    rfl
theorem look_clr : ∀ (h : AH) (o a b : Nat), lookH (clrH h o) a b = if a = o then .inl 0 else lookH h a b
  | [], o, a, b => by
    by_cases h : a = o
    · rw [if_pos h]; rfl
    · rw [if_neg h]; rfl
  | l :: r, 0, 0, b => rfl
  | l :: r, 0, a + 1, b => by rw [if_neg (Nat.succ_ne_zero a)]; rfl
  | l :: r, o + 1, 0, b => by rw [if_neg (fun z => absurd z.symm (Nat.succ_ne_zero o))]; rfl
  | l :: r, o + 1, a + 1, b => by
    show lookH (clrH r o) a b = _
    rw [look_clr r o a b]
    simp only [Nat.add_right_cancel_iff]
    rfl
theorem c_upd {xs : Nat → Int} {g : XS × Nat × Nat} {h : AH} {o k : Nat} {v : AV} : a_c xs (g, updH h o k v) = (g, j_up (a_c xs (g, h)).2 o k (a_v xs v)) := by
  unfold a_c j_up
  congr 1
  funext a b
  dsimp only
  rw [look_upd]
  split <;> rfl
theorem c_clr {xs : Nat → Int} {g : XS × Nat × Nat} {h : AH} {o : Nat} : a_c xs (g, clrH h o) = (g, fun a b => if a = o then 0 else (a_c xs (g, h)).2 a b) := by
  unfold a_c
  congr 1
  funext a b
  dsimp only
  rw [look_clr]
  split <;> rfl
theorem ex_bd {α β : Type} {x : AX α} {f : α → AX β} {b : β} (h : x.bind f = .ok b) : ∃ a, x = .ok a ∧ f a = .ok b := by
  cases x with
  | error e => cases h
  | ok a => exact ⟨a, rfl, h⟩
theorem ex_if {α : Type} {c : Prop} [Decidable c] {x : AX α} {b : α} (h : (if c then x else .error none) = .ok b) : c ∧ x = .ok b := by
  by_cases hc : c
  · rw [if_pos hc] at h; exact ⟨hc, h⟩
  · rw [if_neg hc] at h; cases h
def a_hd (x : List AV) : AV := x.headD (.inl 0)
def a_num : AV → AX Int
  | .inl v => .ok v
  | .inr _ => .error none
theorem a_num_ok {xs : Nat → Int} {v : AV} {n : Int} (h : a_num v = .ok n) : a_v xs v = n := by
  cases v with
  | inl x => cases h; rfl
  | inr i => cases h
theorem a_hd_v {xs : Nat → Int} {l : List AV} : j_hd (l.map (a_v xs)) = a_v xs (a_hd l) := by
  cases l <;> rfl
def f_j32 (x : Int) : Int := if -2147483648 ≤ x ∧ x < 2147483648 then x else j32 x
def f_j64 (x : Int) : Int := if -9223372036854775808 ≤ x ∧ x < 9223372036854775808 then x else j64 x
theorem f_j32_ok (x : Int) : f_j32 x = j32 x := by
  unfold f_j32
  split
  · rename_i h; exact (j32_in h).symm
  · rfl
theorem f_j64_ok (x : Int) : f_j64 x = j64 x := by
  unfold f_j64
  split
  · rename_i h; exact (j64_in h).symm
  · rfl
def f_iop (k : Nat) (x y : Int) : Int := match k with
  | 0 => f_j32 (x + y)
  | 1 => f_j32 (x - y)
  | 2 => f_j32 (x * y)
  | k => j_iop k x y
theorem f_iop_ok : ∀ (k : Nat) (x y : Int), f_iop k x y = j_iop k x y
  | 0, _, _ => f_j32_ok _
  | 1, _, _ => f_j32_ok _
  | 2, _, _ => f_j32_ok _
  | _ + 3, _, _ => rfl
def f_lop (k : Nat) (x y : Int) : Int := match k with
  | 0 => f_j64 (x + y)
  | 1 => f_j64 (x - y)
  | 2 => f_j64 (x * y)
  | k => j_lop k x y
theorem f_lop_ok : ∀ (k : Nat) (x y : Int), f_lop k x y = j_lop k x y
  | 0, _, _ => f_j64_ok _
  | 1, _, _ => f_j64_ok _
  | 2, _, _ => f_j64_ok _
  | _ + 3, _, _ => rfl
def f_div (k : Nat) (x y : Int) : Int := match k with
  | 0 => f_j32 (x.tdiv y)
  | 2 => f_j64 (x.tdiv y)
  | k => j_div k x y
theorem f_div_ok : ∀ (k : Nat) (x y : Int), f_div k x y = j_div k x y
  | 0, _, _ => f_j32_ok _
  | 1, _, _ => rfl
  | 2, _, _ => f_j64_ok _
  | _ + 3, _, _ => rfl
def f_un (k : Nat) (x : Int) : Int := match k with
  | 0 => f_j32 (-x)
  | 1 => f_j64 (-x)
  | 3 => f_j32 x
  | k => j_un k x
theorem f_un_ok : ∀ (k : Nat) (x : Int), f_un k x = j_un k x
  | 0, _ => f_j32_ok _
  | 1, _ => f_j64_ok _
  | 2, _ => rfl
  | 3, _ => f_j32_ok _
  | _ + 4, _ => rfl
/-- bounds of the script's numbers; the six low bits of the first one -/
abbrev AC : Type := List (Int × Int) × Option Int
def SatA (xs : Nat → Int) (cx : AC) : Prop := (∀ (i : Nat) (lo hi : Int), cx.1[i]? = some (lo, hi) → lo ≤ xs i ∧ xs i ≤ hi) ∧ ∀ v, cx.2 = some v → j_iop 3 (xs 0) 63 = v
def a_cut (cx : AC) (i k : Nat) (q : Int) : AX Bool := match cx.1[i]? with
  | none => .error none
  | some (lo, hi) => match k with
    | 0 => if hi < q ∨ q < lo then .ok false else if lo = q ∧ hi = q then .ok true else .error (some (i, if lo < q then q else q + 1))
    | 1 => if hi < q ∨ q < lo then .ok true else if lo = q ∧ hi = q then .ok false else .error (some (i, if lo < q then q else q + 1))
    | 2 => if hi < q then .ok true else if q ≤ lo then .ok false else .error (some (i, q))
    | 3 => if hi < q then .ok false else if q ≤ lo then .ok true else .error (some (i, q))
    | 4 => if q < lo then .ok true else if hi ≤ q then .ok false else .error (some (i, q + 1))
    | _ => if q < lo then .ok false else if hi ≤ q then .ok true else .error (some (i, q + 1))
theorem two_if {c d : Prop} [Decidable c] [Decidable d] {p q b : Bool} {z : Option (Nat × Int)} (h : (if c then Except.ok p else if d then Except.ok q else (Except.error z : AX Bool)) = .ok b) : (c ∧ p = b) ∨ (¬ c ∧ d ∧ q = b) := by
  by_cases hc : c
  · rw [if_pos hc] at h; cases h; exact Or.inl ⟨hc, rfl⟩
  · rw [if_neg hc] at h
    by_cases hd : d
    · rw [if_pos hd] at h; cases h; exact Or.inr ⟨hc, hd, rfl⟩
    · rw [if_neg hd] at h; cases h
theorem a_cut_ok {xs : Nat → Int} {cx : AC} (hs : SatA xs cx) {i k : Nat} {q : Int} {b : Bool} (h : a_cut cx i k q = .ok b) : j_cmp k (xs i) q = b := by
  unfold a_cut at h
  cases hg : cx.1[i]? with
  | none => rw [hg] at h; cases h
  | some z =>
    obtain ⟨lo, hi⟩ := z
    rw [hg] at h
    obtain ⟨h1, h2⟩ := hs.1 i lo hi hg
    match k with
    | 0 => rcases two_if h with ⟨a, rfl⟩ | ⟨-, a, rfl⟩ <;> simp only [j_cmp, decide_eq_true_eq, decide_eq_false_iff_not] <;> omega
    | 1 => rcases two_if h with ⟨a, rfl⟩ | ⟨-, a, rfl⟩ <;> simp only [j_cmp, decide_eq_true_eq, decide_eq_false_iff_not] <;> omega
    | 2 => rcases two_if h with ⟨a, rfl⟩ | ⟨-, a, rfl⟩ <;> simp only [j_cmp, decide_eq_true_eq, decide_eq_false_iff_not] <;> omega
    | 3 => rcases two_if h with ⟨a, rfl⟩ | ⟨-, a, rfl⟩ <;> simp only [j_cmp, decide_eq_true_eq, decide_eq_false_iff_not] <;> omega
    | 4 => rcases two_if h with ⟨a, rfl⟩ | ⟨-, a, rfl⟩ <;> simp only [j_cmp, decide_eq_true_eq, decide_eq_false_iff_not] <;> omega
    | _ + 5 => rcases two_if h with ⟨a, rfl⟩ | ⟨-, a, rfl⟩ <;> simp only [j_cmp, decide_eq_true_eq, decide_eq_false_iff_not] <;> omega
def a_fl (k : Nat) : Nat := match k with
  | 0 => 0
  | 1 => 1
  | 2 => 4
  | 3 => 5
  | 4 => 2
  | _ => 3
theorem a_fl_ok {x y : Int} : ∀ {k : Nat}, j_cmp (a_fl k) y x = j_cmp k x y
  | 0 => decide_eq_decide.mpr ⟨fun h => h.symm, fun h => h.symm⟩
  | 1 => decide_eq_decide.mpr ⟨fun h => h.symm, fun h => h.symm⟩
  | 2 => rfl
  | 3 => rfl
  | 4 => rfl
  | _ + 5 => rfl
def a_cmp (cx : AC) (k : Nat) (x y : AV) : AX Bool := match x, y with
  | .inl p, .inl q => .ok (j_cmp k p q)
  | .inr i, .inl q => a_cut cx i k q
  | .inl p, .inr i => a_cut cx i (a_fl k) p
  | .inr _, .inr _ => .error none
theorem a_cmp_ok {xs : Nat → Int} {cx : AC} (hs : SatA xs cx) {k : Nat} {x y : AV} {b : Bool} (h : a_cmp cx k x y = .ok b) : j_cmp k (a_v xs x) (a_v xs y) = b := by
  cases x with
  | inl p => cases y with
    | inl q => cases h; rfl
    | inr i => rw [← a_fl_ok]; exact a_cut_ok hs h
  | inr i => cases y with
    | inl q => exact a_cut_ok hs h
    | inr j => cases h
def a_any (cx : AC) (v : AV) : List Nat → AX Bool
  | [] => .ok false
  | n :: r => (a_cmp cx 0 v (.inl (sx_z n))).bind fun b => if b then .ok true else a_any cx v r
theorem a_any_ok {xs : Nat → Int} {cx : AC} (hs : SatA xs cx) {v : AV} : ∀ {l : List Nat} {b : Bool}, a_any cx v l = .ok b → l.any (fun n => decide (a_v xs v = sx_z n)) = b
  | [], b, h => by cases h; rfl
  | n :: r, b, h => by
    obtain ⟨c, h1, h2⟩ := ex_bd h
    have h3 := a_cmp_ok hs h1
    rw [List.any_cons]
    have h4 : decide (a_v xs v = sx_z n) = c := h3
    rw [h4]
    cases c with
    | true => cases h2; rfl
    | false => rw [Bool.false_or]; exact a_any_ok hs h2
section AEV
variable (L : Nat) (ck : Nat → List Nat) (G : AP) (cx : AC)
/-- a number of the script whose bounds meet is known -/
def a_pt (cx : AC) (j : Nat) : AV := match cx.1[j]? with
  | some (lo, hi) => if lo = hi then .inl lo else .inr j
  | none => .inr j
def an_aload (k : Nat) (A B : AE) : AE := fun en st => (A en st).bind fun x => (B en x.2).bind fun y => (a_num (a_hd y.1)).bind fun j => match k with
  | 0 => (a_num (a_hd x.1)).bind fun o => if 0 ≤ j ∧ j < j_len y.2.1.1 o.toNat then .ok ([lookH y.2.2 o.toNat j.toNat], y.2) else .error none
  | 1 => if 0 ≤ j ∧ j < (L : Int) then .ok ([a_pt cx j.toNat], y.2) else .error none
  | _ => if 0 ≤ j ∧ j < 24 then .ok ([.inl j], y.2) else .error none
def an_alen (k : Nat) (A : AE) : AE := fun en st => (A en st).bind fun x => match k with
  | 0 => (a_num (a_hd x.1)).bind fun o => .ok ([.inl (j_len x.2.1.1 o.toNat)], x.2)
  | 1 => .ok ([.inl (L : Int)], x.2)
  | _ => .ok ([.inl 24], x.2)
def an_bin (op : Int → Int → Int) (A B : AE) : AE := fun en st => (A en st).bind fun x => (B en x.2).bind fun y => (a_num (a_hd x.1)).bind fun p => (a_num (a_hd y.1)).bind fun q => .ok ([.inl (op p q)], y.2)
def av_iop (cx : AC) (k : Nat) (x y : AV) : AX AV := match x, y with
  | .inl p, .inl q => .ok (.inl (f_iop k p q))
  | .inr i, .inl q => if i = 0 ∧ k = 3 ∧ q = 63 then (match cx.2 with
    | some v => .ok (.inl v)
    | none => .error none) else .error none
  | _, _ => .error none
def an_iop (k : Nat) (A B : AE) : AE := fun en st => (A en st).bind fun x => (B en x.2).bind fun y => (av_iop cx k (a_hd x.1) (a_hd y.1)).bind fun v => .ok ([v], y.2)
def an_div (k : Nat) (A B : AE) : AE := fun en st => (A en st).bind fun x => (B en x.2).bind fun y => (a_num (a_hd x.1)).bind fun p => (a_num (a_hd y.1)).bind fun q => if q = 0 then .error none else .ok ([.inl (f_div k p q)], y.2)
def av_un (k : Nat) (x : AV) : AX AV := match k, x with
  | 2, v => .ok v
  | k, .inl p => .ok (.inl (f_un k p))
  | _, _ => .error none
def an_un (k : Nat) (A : AE) : AE := fun en st => (A en st).bind fun x => (av_un k (a_hd x.1)).bind fun v => .ok ([v], x.2)
def an_cmp (k : Nat) (A B : AE) : AE := fun en st => (A en st).bind fun x => (B en x.2).bind fun y => (a_cmp cx k (a_hd x.1) (a_hd y.1)).bind fun b => .ok ([.inl (j_b b)], y.2)
def an_cmp0 (k : Nat) (A : AE) : AE := fun en st => (A en st).bind fun x => (a_cmp cx k (a_hd x.1) (.inl 0)).bind fun b => .ok ([.inl (j_b b)], x.2)
def an_nz (B : AE) : AE := fun en st => (B en st).bind fun x => (a_cmp cx 1 (a_hd x.1) (.inl 0)).bind fun b => .ok ([.inl (j_b b)], x.2)
def an_not (B : AE) : AE := fun en st => (B en st).bind fun x => (a_cmp cx 0 (a_hd x.1) (.inl 0)).bind fun b => .ok ([.inl (j_b b)], x.2)
def an_ife (A B C : AE) : AE := fun en st => (A en st).bind fun x => (a_cmp cx 0 (a_hd x.1) (.inl 0)).bind fun b => if b then C en x.2 else B en x.2
def an_k (v : Int) : AE := fun _ st => .ok ([.inl v], st)
def an_call (f : Nat) (A : AE) : AE := fun en st => (A en st).bind fun x => (G f x.1 x.2).bind fun r => if r.1 = 1 then .ok r.2 else .error none
def an_wf (cW : Nat → Nat → Int) (k : Nat) (A : AE) : AE := fun en st => (A en st).bind fun x => (a_num (a_hd x.1)).bind fun o => .ok ([.inl (cW k o.toNat)], x.2)
def an_getf (k : Nat) (A : AE) : AE := fun en st => (A en st).bind fun x => (a_num (a_hd x.1)).bind fun o => .ok ([lookH x.2.2 o.toNat k], x.2)
def an_getr (k : Nat) (A : AE) : AE := fun en st => (A en st).bind fun x => (a_num (a_hd x.1)).bind fun o => match j_rf x.2.1.1 o.toNat k with
  | some r => .ok ([.inl r], x.2)
  | none => .error none
def an_new (ci f : Nat) (A : AE) : AE := fun en st =>
  (A en ((st.1.1 ++ [(10 + ci, 0, (ck ci).map fun k => (k, 0))], st.1.2.1 + 1, st.1.2.2 + (ck ci).length), clrH st.2 st.1.1.length)).bind fun x =>
    (G f (.inl (st.1.1.length : Int) :: x.1) x.2).bind fun r => if r.1 = 1 then .ok ([.inl (st.1.1.length : Int)], r.2.2) else .error none
def an_newa (ty : Nat) (A : AE) : AE := fun en st => (A en st).bind fun x => (a_num (a_hd x.1)).bind fun n =>
  if 0 ≤ n ∧ n ≤ 67108864 then .ok ([.inl (x.2.1.1.length : Int)], ((x.2.1.1 ++ [(ty, n.toNat, [])], x.2.1.2.1 + 1, x.2.1.2.2 + n.toNat), clrH x.2.2 x.2.1.1.length)) else .error none
def an_ainit (i : Nat) (A B : AE) : AE := fun en st => (A en st).bind fun x => (B en x.2).bind fun y => (a_num (a_hd x.1)).bind fun o =>
  if (i : Int) < j_len y.2.1.1 o.toNat then .ok (x.1, (y.2.1, updH y.2.2 o.toNat i (a_hd y.1))) else .error none
def an_cons (A B : AE) : AE := fun en st => (A en st).bind fun x => (B en x.2).bind fun y => .ok (x.1 ++ y.1, y.2)
def anodeE (cW : Nat → Nat → Int) (t : Nat) (a b c : SX) (A B C : AE) : AE := match t with
  | 1 => an_k (if sx_n c = 0 then (sx_n a : Int) else -(sx_n a : Int))
  | 3 => fun en st => .ok ([en.getD (sx_n a) (.inl 0)], st)
  | 4 => an_getf (sx_n b) A
  | 5 => an_getr (sx_n b) A
  | 7 => an_aload L cx (sx_n c) A B
  | 10 => an_alen L (sx_n c) A
  | 13 => an_wf cW (sx_n c) A
  | 14 => an_iop cx (sx_n c) A B
  | 15 => an_bin (f_lop (sx_n c)) A B
  | 16 => an_bin (j_lsh (sx_n c)) A B
  | 17 => an_div (sx_n c) A B
  | 18 => an_un (sx_n c) A
  | 20 => an_cmp cx (sx_n c) A B
  | 21 => an_cmp0 cx (sx_n c) A
  | 22 => an_cmp cx (sx_n c) A B
  | 23 => an_cmp cx (sx_n c) A B
  | 24 => A
  | 25 => an_ife cx A (an_nz cx B) (an_k 0)
  | 26 => an_ife cx A (an_k 1) (an_nz cx B)
  | 27 => an_not cx A
  | 28 => an_ife cx A B C
  | 30 => an_cons A B
  | 31 => fun _ st => .ok ([], st)
  | 32 => an_call G (sx_n b) A
  | 34 => an_new ck G (sx_n b) (sx_n c) A
  | 35 => an_newa (sx_n b) A
  | 36 => an_ainit (sx_n c) A B
  | _ => fun _ _ => .error none
def abE (cW : Nat → Nat → Int) : SX → AE
  | .op (.var t) (.op a (.op b c)) => anodeE L ck G cx cW t a b c (abE cW a) (abE cW b) (abE cW c)
  | _ => fun _ _ => .error none
end AEV
/-- what a reading of the second kind is worth -/
def SndE (xs : Nat → Int) (A : AE) (B : XE) : Prop := ∀ (en : List AV) (st : AS) (r : List AV × AS), A en st = .ok r → B (en.map (a_v xs)) (a_c xs st) = some (r.1.map (a_v xs), a_c xs r.2)
def SndP (xs : Nat → Int) (G : AP) (F : XP) : Prop := ∀ (f : Nat) (av : List AV) (st : AS) (r : Nat × List AV × AS), G f av st = .ok r → F f (av.map (a_v xs)) (a_c xs st) = some (r.1, r.2.1.map (a_v xs), a_c xs r.2.2)
section AES
variable {xs : Nat → Int} {L : Nat} {ck : Nat → List Nat} {G : AP} {F : XP} {cx : AC} {A B C : AE} {A' B' C' : XE} {cW : Nat → Nat → Int}
theorem se_k {v : Int} : SndE xs (an_k v) (fun _ st => some ([v], st)) := fun en st r h => by cases h; rfl
theorem a_pt_ok (hs : SatA xs cx) {j : Nat} : a_v xs (a_pt cx j) = xs j := by
  unfold a_pt
  split
  · rename_i lo hi hg
    split
    · have := hs.1 j lo hi hg
      show lo = xs j
      omega
    · rfl
  · rfl
theorem se_aload (hs : SatA xs cx) {k : Nat} (hA : SndE xs A A') (hB : SndE xs B B') : SndE xs (an_aload L cx k A B) (n_aload xs L k A' B') := by
  intro en st r h
  obtain ⟨x, h1, h⟩ := ex_bd h
  obtain ⟨y, h2, h⟩ := ex_bd h
  obtain ⟨j, h3, h⟩ := ex_bd h
  have e1 := hA _ _ _ h1
  have e2 := hB _ _ _ h2
  have e3 := a_num_ok (xs := xs) h3
  unfold n_aload
  rw [e1, Option.bind_some, e2, Option.bind_some]
  dsimp only
  rw [a_hd_v, e3]
  match k with
  | 0 =>
    obtain ⟨o, h4, h⟩ := ex_bd h
    obtain ⟨h5, h⟩ := ex_if h
    cases h
    rw [a_hd_v, a_num_ok (xs := xs) h4]
    exact if_pos h5
  | 1 =>
    obtain ⟨h5, h⟩ := ex_if h
    cases h
    refine (if_pos h5).trans ?_
    show some ([xs j.toNat], a_c xs y.2) = some ([a_v xs (a_pt cx j.toNat)], a_c xs y.2)
    rw [a_pt_ok hs]
  | _ + 2 =>
    obtain ⟨h5, h⟩ := ex_if h
    cases h
    exact if_pos h5
theorem se_alen {k : Nat} (hA : SndE xs A A') : SndE xs (an_alen L k A) (n_alen L k A') := by
  intro en st r h
  obtain ⟨x, h1, h⟩ := ex_bd h
  have e1 := hA _ _ _ h1
  unfold n_alen
  rw [e1, Option.bind_some]
  dsimp only
  match k with
  | 0 =>
    obtain ⟨o, h4, h⟩ := ex_bd h
    cases h
    rw [a_hd_v, a_num_ok (xs := xs) h4]
    rfl
  | 1 => cases h; rfl
  | _ + 2 => cases h; rfl
theorem se_bin {op op' : Int → Int → Int} (ho : ∀ x y, op x y = op' x y) (hA : SndE xs A A') (hB : SndE xs B B') : SndE xs (an_bin op A B) (n_bin op' A' B') := by
  intro en st r h
  obtain ⟨x, h1, h⟩ := ex_bd h
  obtain ⟨y, h2, h⟩ := ex_bd h
  obtain ⟨p, h3, h⟩ := ex_bd h
  obtain ⟨q, h4, h⟩ := ex_bd h
  cases h
  unfold n_bin
  rw [hA _ _ _ h1, Option.bind_some, hB _ _ _ h2, Option.bind_some]
  dsimp only
  rw [a_hd_v, a_hd_v, a_num_ok (xs := xs) h3, a_num_ok (xs := xs) h4, ← ho]
  rfl
theorem av_iop_ok (hs : SatA xs cx) {k : Nat} {x y v : AV} (h : av_iop cx k x y = .ok v) : j_iop k (a_v xs x) (a_v xs y) = a_v xs v := by
  cases x with
  | inl p => cases y with
    | inl q => cases h; exact (f_iop_ok k p q).symm
    | inr j => cases h
  | inr i => cases y with
    | inl q =>
      obtain ⟨⟨e1, e2, e3⟩, h2⟩ := ex_if h
      subst e1
      subst e2
      subst e3
      cases hv : cx.2 with
      | none => rw [hv] at h2; cases h2
      | some v => rw [hv] at h2; cases h2; exact hs.2 _ hv
    | inr j => cases h
theorem se_iop (hs : SatA xs cx) {k : Nat} (hA : SndE xs A A') (hB : SndE xs B B') : SndE xs (an_iop cx k A B) (n_bin (j_iop k) A' B') := by
  intro en st r h
  obtain ⟨x, h1, h⟩ := ex_bd h
  obtain ⟨y, h2, h⟩ := ex_bd h
  obtain ⟨v, h3, h⟩ := ex_bd h
  cases h
  unfold n_bin
  rw [hA _ _ _ h1, Option.bind_some, hB _ _ _ h2, Option.bind_some]
  dsimp only
  rw [a_hd_v, a_hd_v, av_iop_ok hs h3]
  rfl
theorem se_div {k : Nat} (hA : SndE xs A A') (hB : SndE xs B B') : SndE xs (an_div k A B) (fun en st => (A' en st).bind fun x => (B' en x.2).bind fun y => if j_hd y.1 = 0 then none else some ([j_div k (j_hd x.1) (j_hd y.1)], y.2)) := by
  intro en st r h
  obtain ⟨x, h1, h⟩ := ex_bd h
  obtain ⟨y, h2, h⟩ := ex_bd h
  obtain ⟨p, h3, h⟩ := ex_bd h
  obtain ⟨q, h4, h⟩ := ex_bd h
  dsimp only
  rw [hA _ _ _ h1, Option.bind_some, hB _ _ _ h2, Option.bind_some]
  dsimp only
  rw [a_hd_v, a_hd_v, a_num_ok (xs := xs) h3, a_num_ok (xs := xs) h4]
  by_cases hq : q = 0
  · rw [if_pos hq] at h; cases h
  · rw [if_neg hq] at h ⊢
    cases h
    rw [← f_div_ok]
    rfl
theorem av_un_ok {k : Nat} {x v : AV} (h : av_un k x = .ok v) : j_un k (a_v xs x) = a_v xs v := by
  unfold av_un at h
  split at h
  · cases h; rfl
  · cases h; exact (f_un_ok _ _).symm
  · cases h
theorem se_un {k : Nat} (hA : SndE xs A A') : SndE xs (an_un k A) (fun en st => (A' en st).bind fun x => some ([j_un k (j_hd x.1)], x.2)) := by
  intro en st r h
  obtain ⟨x, h1, h⟩ := ex_bd h
  obtain ⟨v, h3, h⟩ := ex_bd h
  cases h
  dsimp only
  rw [hA _ _ _ h1, Option.bind_some]
  dsimp only
  rw [a_hd_v, av_un_ok h3]
  rfl
theorem se_cmp (hs : SatA xs cx) {k : Nat} (hA : SndE xs A A') (hB : SndE xs B B') : SndE xs (an_cmp cx k A B) (n_cmp (j_cmp k) A' B') := by
  intro en st r h
  obtain ⟨x, h1, h⟩ := ex_bd h
  obtain ⟨y, h2, h⟩ := ex_bd h
  obtain ⟨v, h3, h⟩ := ex_bd h
  cases h
  unfold n_cmp
  rw [hA _ _ _ h1, Option.bind_some, hB _ _ _ h2, Option.bind_some]
  dsimp only
  rw [a_hd_v, a_hd_v, a_cmp_ok hs h3]
  rfl
theorem se_cmp0 (hs : SatA xs cx) {k : Nat} (hA : SndE xs A A') : SndE xs (an_cmp0 cx k A) (fun en st => (A' en st).bind fun x => some ([j_b (j_cmp k (j_hd x.1) 0)], x.2)) := by
  intro en st r h
  obtain ⟨x, h1, h⟩ := ex_bd h
  obtain ⟨v, h3, h⟩ := ex_bd h
  cases h
  dsimp only
  rw [hA _ _ _ h1, Option.bind_some]
  dsimp only
  rw [a_hd_v]
  have e := a_cmp_ok hs h3
  rw [show a_v xs (.inl 0) = 0 from rfl] at e
  rw [e]
  rfl
theorem se_nz (hs : SatA xs cx) (hA : SndE xs A A') : SndE xs (an_nz cx A) (n_nz A') := by
  intro en st r h
  obtain ⟨x, h1, h⟩ := ex_bd h
  obtain ⟨v, h3, h⟩ := ex_bd h
  cases h
  unfold n_nz
  rw [hA _ _ _ h1, Option.bind_some]
  dsimp only
  rw [a_hd_v]
  have e : decide (a_v xs (a_hd x.1) ≠ 0) = v := a_cmp_ok hs h3
  rw [e]
  rfl
theorem se_not (hs : SatA xs cx) (hA : SndE xs A A') : SndE xs (an_not cx A) (fun en st => (A' en st).bind fun x => some ([j_b (decide (j_hd x.1 = 0))], x.2)) := by
  intro en st r h
  obtain ⟨x, h1, h⟩ := ex_bd h
  obtain ⟨v, h3, h⟩ := ex_bd h
  cases h
  dsimp only
  rw [hA _ _ _ h1, Option.bind_some]
  dsimp only
  rw [a_hd_v]
  have e : decide (a_v xs (a_hd x.1) = 0) = v := a_cmp_ok hs h3
  rw [e]
  rfl
theorem a_zero (hs : SatA xs cx) {x : AV} {b : Bool} (h : a_cmp cx 0 x (.inl 0) = .ok b) : (b = true ∧ a_v xs x = 0) ∨ (b = false ∧ a_v xs x ≠ 0) := by
  have e : decide (a_v xs x = 0) = b := a_cmp_ok hs h
  cases b with
  | true => exact Or.inl ⟨rfl, of_decide_eq_true e⟩
  | false => exact Or.inr ⟨rfl, of_decide_eq_false e⟩
theorem se_ife (hs : SatA xs cx) (hA : SndE xs A A') (hB : SndE xs B B') (hC : SndE xs C C') : SndE xs (an_ife cx A B C) (n_ife A' B' C') := by
  intro en st r h
  obtain ⟨x, h1, h⟩ := ex_bd h
  obtain ⟨v, h3, h⟩ := ex_bd h
  unfold n_ife
  rw [hA _ _ _ h1, Option.bind_some]
  dsimp only
  rw [a_hd_v]
  rcases a_zero hs h3 with ⟨rfl, e⟩ | ⟨rfl, e⟩
  · rw [if_pos e]
    exact hC _ _ _ h
  · rw [if_neg e]
    exact hB _ _ _ h
theorem se_call (hG : SndP xs G F) {f : Nat} (hA : SndE xs A A') : SndE xs (an_call G f A) (n_call F f A') := by
  intro en st r h
  obtain ⟨x, h1, h⟩ := ex_bd h
  obtain ⟨v, h3, h⟩ := ex_bd h
  obtain ⟨h4, h⟩ := ex_if h
  cases h
  unfold n_call
  rw [hA _ _ _ h1, Option.bind_some]
  dsimp only
  rw [hG _ _ _ _ h3, Option.bind_some]
  exact if_pos h4
theorem se_wf {k : Nat} (hA : SndE xs A A') : SndE xs (an_wf cW k A) (n_wf cW k A') := by
  intro en st r h
  obtain ⟨x, h1, h⟩ := ex_bd h
  obtain ⟨v, h3, h⟩ := ex_bd h
  cases h
  unfold n_wf
  rw [hA _ _ _ h1, Option.bind_some]
  dsimp only
  rw [a_hd_v, a_num_ok (xs := xs) h3]
  rfl
theorem se_getf {k : Nat} (hA : SndE xs A A') : SndE xs (an_getf k A) (fun en st => (A' en st).bind fun x => some ([x.2.2 (j_hd x.1).toNat k], x.2)) := by
  intro en st r h
  obtain ⟨x, h1, h⟩ := ex_bd h
  obtain ⟨v, h3, h⟩ := ex_bd h
  cases h
  dsimp only
  rw [hA _ _ _ h1, Option.bind_some]
  dsimp only
  rw [a_hd_v, a_num_ok (xs := xs) h3]
  rfl
theorem se_getr {k : Nat} (hA : SndE xs A A') : SndE xs (an_getr k A) (fun en st => (A' en st).bind fun x => (j_rf x.2.1.1 (j_hd x.1).toNat k).bind fun r => some ([r], x.2)) := by
  intro en st r h
  obtain ⟨x, h1, h⟩ := ex_bd h
  obtain ⟨v, h3, h⟩ := ex_bd h
  dsimp only
  rw [hA _ _ _ h1, Option.bind_some]
  dsimp only
  rw [a_hd_v, a_num_ok (xs := xs) h3]
  show (j_rf x.2.1.1 v.toNat k).bind _ = _
  cases hr : j_rf x.2.1.1 v.toNat k with
  | none => rw [hr] at h; cases h
  | some q => rw [hr] at h; cases h; rfl
theorem se_new (hG : SndP xs G F) {ci f : Nat} (hA : SndE xs A A') : SndE xs (an_new ck G ci f A) (n_new ck F ci f A') := by
  intro en st r h
  obtain ⟨x, h1, h⟩ := ex_bd h
  obtain ⟨v, h3, h⟩ := ex_bd h
  obtain ⟨h4, h⟩ := ex_if h
  cases h
  have e1 := hA _ _ _ h1
  rw [c_clr] at e1
  have e3 := hG _ _ _ _ h3
  unfold n_new
  dsimp only
  have e1' : A' (en.map (a_v xs)) (((a_c xs st).1.1 ++ [(10 + ci, 0, (ck ci).map fun k => (k, 0))], (a_c xs st).1.2.1 + 1, (a_c xs st).1.2.2 + (ck ci).length), fun a b => if a = (a_c xs st).1.1.length then 0 else (a_c xs st).2 a b) = some (x.1.map (a_v xs), a_c xs x.2) := e1
  rw [e1', Option.bind_some]
  dsimp only
  have e3' : F f (((a_c xs st).1.1.length : Int) :: x.1.map (a_v xs)) (a_c xs x.2) = some (v.1, v.2.1.map (a_v xs), a_c xs v.2.2) := e3
  rw [e3', Option.bind_some]
  exact if_pos h4
theorem se_newa {ty : Nat} (hA : SndE xs A A') : SndE xs (an_newa ty A) (n_newa ty A') := by
  intro en st r h
  obtain ⟨x, h1, h⟩ := ex_bd h
  obtain ⟨n, h3, h⟩ := ex_bd h
  obtain ⟨h4, h⟩ := ex_if h
  cases h
  unfold n_newa
  rw [hA _ _ _ h1, Option.bind_some]
  dsimp only
  rw [a_hd_v, a_num_ok (xs := xs) h3, if_pos h4, c_clr]
  rfl
theorem se_ainit {i : Nat} (hA : SndE xs A A') (hB : SndE xs B B') : SndE xs (an_ainit i A B) (n_ainit i A' B') := by
  intro en st r h
  obtain ⟨x, h1, h⟩ := ex_bd h
  obtain ⟨y, h2, h⟩ := ex_bd h
  obtain ⟨o, h3, h⟩ := ex_bd h
  obtain ⟨h4, h⟩ := ex_if h
  cases h
  unfold n_ainit
  rw [hA _ _ _ h1, Option.bind_some, hB _ _ _ h2, Option.bind_some]
  dsimp only
  rw [a_hd_v, a_hd_v, a_num_ok (xs := xs) h3, c_upd]
  exact if_pos h4
theorem se_cons (hA : SndE xs A A') (hB : SndE xs B B') : SndE xs (an_cons A B) (fun en st => (A' en st).bind fun x => (B' en x.2).bind fun y => some (x.1 ++ y.1, y.2)) := by
  intro en st r h
  obtain ⟨x, h1, h⟩ := ex_bd h
  obtain ⟨y, h2, h⟩ := ex_bd h
  cases h
  dsimp only
  rw [hA _ _ _ h1, Option.bind_some, hB _ _ _ h2, Option.bind_some]
  dsimp only
  rw [List.map_append]
theorem getD_v {en : List AV} {i : Nat} : (en.map (a_v xs)).getD i 0 = a_v xs (en.getD i (.inl 0)) := by
  rw [List.getD_eq_getElem?_getD, List.getD_eq_getElem?_getD, List.getElem?_map]
  cases en[i]? <;> rfl
theorem se_node (hs : SatA xs cx) (hG : SndP xs G F) {t : Nat} {a b c : SX} (hA : SndE xs A A') (hB : SndE xs B B') (hC : SndE xs C C') : SndE xs (anodeE L ck G cx cW t a b c A B C) (nodeE xs L ck F cW t a b c A' B' C') := by
  unfold anodeE
  split
  · exact se_k
  · intro en st r h
    cases h
    show some _ = some _
    rw [getD_v]
    rfl
  · exact se_getf hA
  · exact se_getr hA
  · exact se_aload hs hA hB
  · exact se_alen hA
  · exact se_wf hA
  · exact se_iop hs hA hB
  · exact se_bin (f_lop_ok _) hA hB
  · exact se_bin (fun _ _ => rfl) hA hB
  · exact se_div hA hB
  · exact se_un hA
  · exact se_cmp hs hA hB
  · exact se_cmp0 hs hA
  · exact se_cmp hs hA hB
  · exact se_cmp hs hA hB
  · exact hA
  · exact se_ife hs hA (se_nz hs hB) se_k
  · exact se_ife hs hA se_k (se_nz hs hB)
  · exact se_not hs hA
  · exact se_ife hs hA hB hC
  · exact se_cons hA hB
  · intro en st r h
    cases h
    rfl
  · exact se_call hG hA
  · exact se_new hG hA
  · exact se_newa hA
  · exact se_ainit hA hB
  · intro en st r h
    cases h
theorem se_all (hs : SatA xs cx) (hG : SndP xs G F) : ∀ t : SX, SndE xs (abE L ck G cx cW t) (evE xs L ck F cW t)
  | .op (.var t) (.op a (.op b c)) => se_node hs hG (se_all hs hG a) (se_all hs hG b) (se_all hs hG c)
  | .var _ => fun _ _ _ h => by cases h
  | .op (.op _ _) _ => fun _ _ _ h => by cases h
  | .op (.var _) (.var _) => fun _ _ _ h => by cases h
  | .op (.var _) (.op _ (.var _)) => fun _ _ _ h => by cases h
end AES
