/-! ===== a third reading: kinds alone; a tree that stands it comes to an end, whatever the numbers are ===== -/
/-- what a number is, by its kind: 1 int, 2 long, 3 Word, 6.. references, 100 truth, 300 + i the number z i -/
def TV (z : Nat → Int) (g : XS) (t : Nat) (v : Int) : Prop :=
  (t = 1 → InI v) ∧ (t = 2 → InL v) ∧ (t = 100 → v = 0 ∨ v = 1) ∧ (t = 3 → 0 ≤ v ∧ v < 24) ∧ (6 ≤ t → t < 100 → 0 ≤ v ∧ ∃ c, g[v.toNat]? = some c ∧ c.1 = t) ∧ (300 ≤ t → v = z (t - 300) ∧ InI v)
def VL (z : Nat → Int) (g : XS) : List Nat → List Int → Prop
  | [], [] => True
  | t :: ts, v :: vs => TV z g t v ∧ VL z g ts vs
  | _, _ => False
def t_sub (a b : Nat) : Bool := b == 0 || a == b || (b == 1 && (a == 100 || Nat.ble 300 a))
def t_subs : List Nat → List Nat → Bool
  | [], [] => true
  | a :: x, b :: y => t_sub a b && t_subs x y
  | _, _ => false
def t_lub (a b : Nat) : Nat := bif t_sub a b then b else bif t_sub b a then a else bif t_sub a 1 && t_sub b 1 then 1 else 0
def t_lubs : List Nat → List Nat → List Nat
  | a :: x, b :: y => t_lub a b :: t_lubs x y
  | _, _ => []
theorem TV.zero {z : Nat → Int} {g : XS} {v : Int} : TV z g 0 v := ⟨fun h => (by cases h), fun h => (by cases h), fun h => (by cases h), fun h => (by cases h), fun h => absurd h (by decide), fun h => absurd h (by decide)⟩
theorem TV.int {z : Nat → Int} {g : XS} {v : Int} (h : InI v) : TV z g 1 v := ⟨fun _ => h, fun h => (by cases h), fun h => (by cases h), fun h => (by cases h), fun h => absurd h (by decide), fun h => absurd h (by decide)⟩
theorem TV.long {z : Nat → Int} {g : XS} {v : Int} (h : InL v) : TV z g 2 v := ⟨fun h => (by cases h), fun _ => h, fun h => (by cases h), fun h => (by cases h), fun h => absurd h (by decide), fun h => absurd h (by decide)⟩
theorem TV.bool {z : Nat → Int} {g : XS} {v : Int} (h : v = 0 ∨ v = 1) : TV z g 100 v := ⟨fun h => (by cases h), fun h => (by cases h), fun _ => h, fun h => (by cases h), fun _ h => absurd h (by decide), fun h => absurd h (by decide)⟩
theorem TV.word {z : Nat → Int} {g : XS} {v : Int} (h : 0 ≤ v ∧ v < 24) : TV z g 3 v := ⟨fun h => (by cases h), fun h => (by cases h), fun h => (by cases h), fun _ => h, fun h => absurd h (by decide), fun h => absurd h (by decide)⟩
theorem TV.ref {z : Nat → Int} {g : XS} {v : Int} {t : Nat} (h6 : 6 ≤ t) (h7 : t < 100) (h : 0 ≤ v ∧ ∃ c, g[v.toNat]? = some c ∧ c.1 = t) : TV z g t v := ⟨fun h => (by omega), fun h => (by omega), fun h => (by omega), fun h => (by omega), fun _ _ => h, fun h => (by omega)⟩
theorem in_bool {v : Int} (h : v = 0 ∨ v = 1) : InI v := by
  unfold InI
  omega
theorem TV.sub {z : Nat → Int} {g : XS} {a b : Nat} {v : Int} (h : t_sub a b = true) (hv : TV z g a v) : TV z g b v := by
  simp only [t_sub, Bool.or_eq_true, Bool.and_eq_true, beq_iff_eq] at h
  rcases h with (rfl | rfl) | ⟨rfl, rfl | h⟩
  · exact TV.zero
  · exact hv
  · exact TV.int (in_bool (hv.2.2.1 rfl))
  · exact TV.int (hv.2.2.2.2.2 (Nat.le_of_ble_eq_true h)).2
theorem VL.len {z : Nat → Int} {g : XS} : ∀ {ts : List Nat} {vs : List Int}, VL z g ts vs → vs.length = ts.length
  | [], [], _ => rfl
  | _ :: _, _ :: _, h => by rw [List.length_cons, List.length_cons, VL.len h.2]
  | [], _ :: _, h => h.elim
  | _ :: _, [], h => h.elim
theorem VL.sub {z : Nat → Int} {g : XS} : ∀ {x y : List Nat} {vs : List Int}, t_subs x y = true → VL z g x vs → VL z g y vs
  | [], [], _, _, h => h
  | a :: x, b :: y, v :: vs, h, hv => ⟨TV.sub ((Bool.and_eq_true _ _).mp h).1 hv.1, VL.sub ((Bool.and_eq_true _ _).mp h).2 hv.2⟩
  | a :: x, b :: y, [], _, hv => hv.elim
  | [], _ :: _, _, h, _ => by cases h
  | _ :: _, [], _, h, _ => by cases h
theorem lub_l {a b : Nat} : t_sub a (t_lub a b) = true := by
  unfold t_lub
  cases h : t_sub a b with
  | true => exact h
  | false =>
    cases h2 : t_sub b a with
    | true =>
      show t_sub a a = true
      simp [t_sub]
    | false =>
      cases h3 : t_sub a 1 && t_sub b 1 with
      | true => exact ((Bool.and_eq_true _ _).mp h3).1
      | false => rfl
theorem lub_r {a b : Nat} : t_sub b (t_lub a b) = true := by
  unfold t_lub
  cases h : t_sub a b with
  | true =>
    show t_sub b b = true
    simp [t_sub]
  | false =>
    cases h2 : t_sub b a with
    | true => exact h2
    | false =>
      cases h3 : t_sub a 1 && t_sub b 1 with
      | true => exact ((Bool.and_eq_true _ _).mp h3).2
      | false => rfl
theorem lubs_l : ∀ {x y : List Nat}, x.length = y.length → t_subs x (t_lubs x y) = true
  | [], [], _ => rfl
  | a :: x, b :: y, h => (Bool.and_eq_true _ _).mpr ⟨lub_l, lubs_l (by simpa using h)⟩
  | [], _ :: _, h => by cases h
  | _ :: _, [], h => by cases h
theorem lubs_r : ∀ {x y : List Nat}, x.length = y.length → t_subs y (t_lubs x y) = true
  | [], [], _ => rfl
  | a :: x, b :: y, h => (Bool.and_eq_true _ _).mpr ⟨lub_r, lubs_r (by simpa using h)⟩
  | [], _ :: _, h => by cases h
  | _ :: _, [], h => by cases h
theorem VL.at {z : Nat → Int} {g : XS} : ∀ {ts : List Nat} {vs : List Int} (i : Nat), VL z g ts vs → TV z g (ts.getD i 0) (vs.getD i 0)
  | [], [], _, _ => TV.zero
  | _ :: _, _ :: _, 0, h => h.1
  | _ :: _, _ :: _, i + 1, h => VL.at i h.2
  | [], _ :: _, _, h => h.elim
  | _ :: _, [], _, h => h.elim
theorem VL.set {z : Nat → Int} {g : XS} {t : Nat} {v : Int} : ∀ {ts : List Nat} {vs : List Int} (i : Nat), VL z g ts vs → TV z g t v → VL z g (ts.set i t) (vs.set i v)
  | [], [], _, _, _ => trivial
  | _ :: _, _ :: _, 0, h, ht => ⟨ht, h.2⟩
  | _ :: _, _ :: _, i + 1, h, ht => ⟨h.1, VL.set i h.2 ht⟩
  | [], _ :: _, _, h, _ => h.elim
  | _ :: _, [], _, h, _ => h.elim
theorem VL.app {z : Nat → Int} {g : XS} : ∀ {x y : List Nat} {v w : List Int}, VL z g x v → VL z g y w → VL z g (x ++ y) (v ++ w)
  | [], _, [], _, _, h => h
  | _ :: _, _, _ :: _, _, h, h' => ⟨h.1, VL.app h.2 h'⟩
  | [], _, _ :: _, _, h, _ => h.elim
  | _ :: _, _, [], _, h, _ => h.elim
theorem VL.one {z : Nat → Int} {g : XS} {t : Nat} : ∀ {v : List Int}, VL z g [t] v → ∃ x, v = [x] ∧ TV z g t x
  | [x], h => ⟨x, rfl, h.1⟩
  | [], h => h.elim
  | _ :: _ :: _, h => h.2.elim
/-- the kind of a cell's place -/
def c_ty (fk : Nat → List Nat) (g : XS) (o k : Nat) : Nat := match g[o]? with
  | some (6, _) => 1
  | some (7, _) => 2
  | some (8, _) => 1
  | some (9, _) => 100
  | some (kd, _) => if 10 ≤ kd then (fk (kd - 10)).getD k 0 else 0
  | none => 0
def HT (fk : Nat → List Nat) (g : XS) (h : XH) : Prop := ∀ o k, (c_ty fk g o k = 1 → InI (h o k)) ∧ (c_ty fk g o k = 2 → InL (h o k)) ∧ (c_ty fk g o k = 100 → h o k = 0 ∨ h o k = 1)
theorem HT.up {fk : Nat → List Nat} {g : XS} {h : XH} {o k : Nat} {v : Int} (hh : HT fk g h) (h1 : c_ty fk g o k = 1 → InI v) (h2 : c_ty fk g o k = 2 → InL v) (h3 : c_ty fk g o k = 100 → v = 0 ∨ v = 1) : HT fk g (j_up h o k v) := by
  intro a b
  unfold j_up
  by_cases e : a = o ∧ b = k
  · obtain ⟨rfl, rfl⟩ := e
    rw [if_pos ⟨rfl, rfl⟩]
    exact ⟨h1, h2, h3⟩
  · rw [if_neg e]
    exact hh a b
/-- what is never written -/
def FR (ro : Nat → Nat → Bool) (h h' : XH) : Prop := ∀ o k, ro o k = true → h' o k = h o k
theorem FR.rf {ro : Nat → Nat → Bool} {h : XH} : FR ro h h := fun _ _ _ => rfl
theorem FR.tr {ro : Nat → Nat → Bool} {h h1 h2 : XH} (a : FR ro h h1) (b : FR ro h1 h2) : FR ro h h2 := fun o k e => (b o k e).trans (a o k e)
theorem FR.up {ro : Nat → Nat → Bool} {h : XH} {o k : Nat} {v : Int} (e : ro o k = false) : FR ro h (j_up h o k v) := fun a b hab => by
  refine up_ne (fun z => ?_)
  obtain ⟨rfl, rfl⟩ := z
  rw [e] at hab
  cases hab
theorem o_ty {fk : Nat → List Nat} {g : XS} {o k ci : Nat} {c : XC} (h : g[o]? = some c) (e : c.1 = 10 + ci) : c_ty fk g o k = (fk ci).getD k 0 := by
  obtain ⟨kd, n, sl⟩ := c
  dsimp only at e
  subst e
  unfold c_ty
  rw [h]
  split
  · rename_i e; simp only [Option.some.injEq, Prod.mk.injEq] at e; omega
  · rename_i e; simp only [Option.some.injEq, Prod.mk.injEq] at e; omega
  · rename_i e; simp only [Option.some.injEq, Prod.mk.injEq] at e; omega
  · rename_i e; simp only [Option.some.injEq, Prod.mk.injEq] at e; omega
  · rename_i kd' _ _ _ _ _ e
    simp only [Option.some.injEq, Prod.mk.injEq] at e
    obtain ⟨rfl, -⟩ := e
    rw [if_pos (by omega)]
    congr 2
    omega
  · rename_i e; cases e
