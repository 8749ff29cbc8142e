/-! ===== a reading_w by places_w: what a method_w may_w write_w ===== -/
/-- a number_w, or_w one of some objects -/
abbrev AVs : Type := Option (List Nat)
def aIn : AVs → Int → Prop
  | none, _ => True
  | some S, v => ∃ s, s ∈ S ∧ v = ((s : Nat) : Int)
/-- objects that may_w be written_w wholly, cells_w that may_w be written_w -/
abbrev AW : Type := List Nat × List (Nat × Nat)
def aW (W : AW) (o k : Nat) : Bool := W.1.contains o || W.2.contains (o, k)
def FrW (W : AW) (h h' : XH) : Prop := ∀ o k : Nat, aW W o k = false → h' o k = h o k
/-- what is_w known_w of methods: locals, answer_w (none: it answers_w nothing_w) -/
abbrev AT : Type := Nat → Option (List AVs × Option AVs)
def aSub : AVs → AVs → Bool
  | _, none => true
  | some S, some T => S.all fun s => T.contains s
  | none, some _ => false
def aSubL : List AVs → List AVs → Bool
  | [], [] => true
  | a :: l, b :: m => aSub a b && aSubL l m
  | _, _ => false
def aJoin : AVs → AVs → AVs
  | some S, some T => some (S ++ T)
  | _, _ => none
def aRef (k : Nat) : AVs → Option AVs
  | some S => if (S.all fun s : Nat => decide (0 ≤ rfO (s : Int) k)) = true then some (some (S.map fun s : Nat => (rfO (s : Int) k).toNat)) else none
  | none => none
/-- the arguments' kinds_w of a method_w -/
def aPar (p : List AVs) (n : Nat) : List AVs := p.take n
def aNE (T : AT) (τ : List AVs) (t : Nat) (a b c : SX) (A B D : Option AVs × Option (List AVs)) : Option AVs := match t with
  | 1 => some none
  | 3 => some (τ.getD (sx_n a) none)
  | 4 => A.1.bind fun _ => some none
  | 5 => A.1.bind fun x => aRef (sx_n b) x
  | 7 => A.1.bind fun _ => B.1.bind fun _ => if sx_n c = 1 then none else some none
  | 10 => A.1.bind fun _ => if sx_n c = 1 then none else some none
  | 13 => A.1.bind fun _ => some none
  | 14 => A.1.bind fun _ => B.1.bind fun _ => some none
  | 15 => A.1.bind fun _ => B.1.bind fun _ => some none
  | 16 => A.1.bind fun _ => B.1.bind fun _ => some none
  | 17 => A.1.bind fun _ => B.1.bind fun _ => some none
  | 18 => A.1.bind fun _ => some none
  | 20 => A.1.bind fun _ => B.1.bind fun _ => some none
  | 21 => A.1.bind fun _ => some none
  | 22 => A.1.bind fun _ => B.1.bind fun _ => some none
  | 23 => A.1.bind fun _ => B.1.bind fun _ => some none
  | 24 => A.1
  | 25 => A.1.bind fun _ => B.1.bind fun _ => some none
  | 26 => A.1.bind fun _ => B.1.bind fun _ => some none
  | 27 => A.1.bind fun _ => some none
  | 28 => A.1.bind fun _ => B.1.bind fun x => D.1.bind fun y => some (aJoin x y)
  | 32 => A.2.bind fun l => (T (sx_n b)).bind fun p => if aSubL l p.1 = true then p.2 else none
  | _ => none
def aNL (t : Nat) (A B : Option AVs × Option (List AVs)) : Option (List AVs) := match t with
  | 31 => some []
  | 30 => A.1.bind fun x => B.2.bind fun l => some (x :: l)
  | _ => none
def aX (T : AT) (τ : List AVs) : SX → Option AVs × Option (List AVs)
  | .op (.var t) (.op a (.op b c)) => (aNE T τ t a b c (aX T τ a) (aX T τ b) (aX T τ c), aNL t (aX T τ a) (aX T τ b))
  | _ => (none, none)
def aOk (T : AT) (τ : List AVs) (t : SX) : Bool := (aX T τ t).1.isSome
def aTo (T : AT) (τ : List AVs) (t : SX) (y : AVs) : Bool := match (aX T τ t).1 with
  | some x => aSub x y
  | none => false
/-- an object of which some cell_w is_w written_w -/
def aPut (W : AW) (k : Nat) : Option AVs → Bool
  | some (some S) => S.all fun s => aW W s k
  | _ => false
def aArr (W : AW) : Option AVs → Bool
  | some (some S) => S.all fun s => W.1.contains s
  | _ => false
/-- a call of one that answers_w nothing_w -/
def aVd (T : AT) (l : Option (List AVs)) (f : Nat) : Bool := ((l.bind fun l => (T f).bind fun p => some (aSubL l p.1)).getD false)
def aVoid (T : AT) (τ : List AVs) : SX → Bool
  | .op (.var t) (.op a (.op b _)) => decide (t = 32) && aVd T (aX T τ a).2 (sx_n b)
  | _ => false
def aS (T : AT) (W : AW) (τ : List AVs) (rt : Option AVs) : SX → Bool × Bool
  | .op (.var t) (.op a (.op b c)) => (match t with
    | 1 => true
    | 2 => (aS T W τ rt a).1 && (aS T W τ rt b).1
    | 3 => aTo T τ b (τ.getD (sx_n a) none)
    | 4 => aSub none (τ.getD (sx_n a) none)
    | 5 => aPut W (sx_n c) (aX T τ a).1 && aOk T τ b
    | 6 => aPut W (sx_n c / 16) (aX T τ a).1 && aOk T τ b
    | 7 => aArr W (aX T τ a).1 && aOk T τ b && (match c with
      | .op (.var _) v => aOk T τ v
      | _ => false)
    | 8 => aArr W (aX T τ a).1 && aOk T τ b && (match c with
      | .op (.var _) v => aOk T τ v
      | _ => false)
    | 9 => aOk T τ a || aVoid T τ a
    | 10 => aOk T τ a && (aS T W τ rt b).1
    | 11 => aOk T τ a && (aS T W τ rt b).1 && (aS T W τ rt c).1
    | 12 => aOk T τ a && (aS T W τ rt b).1 && (aS T W τ rt c).1
    | 13 => aOk T τ a && (aS T W τ rt b).1
    | 14 => true
    | 15 => true
    | 16 => (match rt with
      | some r => aTo T τ a r
      | none => false)
    | 27 => (match rt with
      | some r => aTo T τ a r
      | none => false)
    | 17 => (match rt with
      | some _ => false
      | none => true)
    | 18 => true
    | 19 => aOk T τ a && (aS T W τ rt b).2
    | 20 => (aS T W τ rt a).1
    | 22 => true
    | 23 => aPut W (sx_n c) (aX T τ a).1 && aOk T τ b
    | 28 => aOk T τ a && (aS T W τ rt b).1
    | _ => false, match t with
    | 25 => (aS T W τ rt b).1 && (aS T W τ rt c).2
    | 26 => (aS T W τ rt a).1
    | _ => false)
  | _ => (false, false)
def EnA (τ : List AVs) (en : List Int) : Prop := ∀ i, aIn (τ.getD i none) (en.getD i 0)
def LsA : List AVs → List Int → Prop
  | [], [] => True
  | a :: l, v :: m => aIn a v ∧ LsA l m
  | _, _ => False
def rtA : Option AVs → List Int → Prop
  | some a, r => ∃ v, r = [v] ∧ aIn a v
  | none, r => r = []
/-- a contract_w of places_w -/
def aK (T : AT) (W : AW) : CSt := fun f av h Q => ∃ p, T f = some p ∧ LsA p.1 av ∧ (∀ r h', FrW W h h' → rtA p.2 r → Q 1 r h') ∧ ∀ r h', FrW W h h' → Q 4 r h'
section FRM
variable {C : CSt} {T : AT} {W : AW} {τ : List AVs} {h0 h1 h2 : XH}
theorem aIn.sub {x y : AVs} {v : Int} (h : aSub x y = true) (a : aIn x v) : aIn y v := by
  match x, y, h, a with
  | _, none, _, _ => exact trivial
  | some S, some U, h, ⟨s, hs, e⟩ => exact ⟨s, List.contains_iff_mem.mp (List.all_eq_true.mp h s hs), e⟩
theorem LsA.sub : ∀ {l m : List AVs} {v : List Int}, aSubL l m = true → LsA l v → LsA m v
  | [], [], [], _, _ => trivial
  | a :: l, b :: m, v :: w, h, ⟨h1, h2⟩ => by
    rw [aSubL, Bool.and_eq_true] at h
    exact ⟨h1.sub h.1, LsA.sub h.2 h2⟩
  | [], _ :: _, _, h, _ => by cases h
  | _ :: _, [], _, h, _ => by cases h
  | _ :: _, _ :: _, [], _, h => h.elim
  | [], [], _ :: _, _, h => h.elim
theorem FrW.rf {h : XH} : FrW W h h := fun _ _ _ => rfl
theorem FrW.tr (a : FrW W h0 h1) (b : FrW W h1 h2) : FrW W h0 h2 := fun o k e => (b o k e).trans (a o k e)
theorem FrW.up {o k : Nat} {v : Int} (a : FrW W h0 h1) (e : aW W o k = true) : FrW W h0 (j_up h1 o k v) := fun p q z => (up_ne (fun y => by rw [y.1, y.2, e] at z; cases z)).trans (a p q z)
theorem EnA.set {en : List Int} {i : Nat} {v : Int} (a : EnA τ en) (hv : aIn (τ.getD i none) v) : EnA τ (en.set i v) := fun j => by
  rw [List.getD_eq_getElem?_getD (l := en.set i v), List.getElem?_set]
  by_cases y : i = j
  · rw [if_pos y]
    subst y
    by_cases z : i < en.length
    · rw [if_pos z]; exact hv
    · rw [if_neg z]
      have := a i
      rw [List.getD_eq_getElem?_getD (l := en), List.getElem?_eq_none (by omega)] at this
      exact this
  · rw [if_neg y, ← List.getD_eq_getElem?_getD]
    exact a j
theorem obd {α β : Type} {x : Option α} {f : α → Option β} {y : β} (e : x.bind f = some y) : ∃ a, x = some a ∧ f a = some y := by
  cases x with
  | none => cases e
  | some a => exact ⟨a, rfl, e⟩
theorem aRef_in {k : Nat} {x y : AVs} {v : Int} (e : aRef k x = some y) (a : aIn x v) : aIn y (rfO v k) := by
  cases x with
  | none => cases e
  | some S =>
    unfold aRef at e
    dsimp only at e
    split at e
    · rename_i hh
      cases e
      obtain ⟨s, hs, rfl⟩ := a
      refine ⟨_, List.mem_map.mpr ⟨s, hs, rfl⟩, ?_⟩
      have := of_decide_eq_true (List.all_eq_true.mp hh s hs)
      omega
    · cases e
theorem aJoin_l {x y : AVs} {v : Int} (a : aIn x v) : aIn (aJoin x y) v := by
  match x, y, a with
  | none, _, _ => exact trivial
  | some _, none, _ => exact trivial
  | some S, some U, ⟨s, hs, e⟩ => exact ⟨s, List.mem_append_left _ hs, e⟩
theorem aJoin_r {x y : AVs} {v : Int} (a : aIn y v) : aIn (aJoin x y) v := by
  match x, y, a with
  | none, _, _ => exact trivial
  | some _, none, _ => exact trivial
  | some S, some U, ⟨s, hs, e⟩ => exact ⟨s, List.mem_append_right _ hs, e⟩
def QvA (W : AW) (h0 : XH) (a : AVs) (Q : PQQ) : Prop := ∀ v h', FrW W h0 h' → aIn a v → Q [v] h'
def QlA (W : AW) (h0 : XH) (l : List AVs) (Q : PQQ) : Prop := ∀ vs h', FrW W h0 h' → LsA l vs → Q vs h'
theorem aX_ok (hC : ∀ f av h Q, aK T W f av h Q → C f av h Q) : ∀ t : SX,
    (∀ a, (aX T τ t).1 = some a → (∀ en h (Q : PQQ), EnA τ en → FrW W h0 h → QvA W h0 a Q → (pP C t).1 en h Q) ∧ (∀ en h (Qt Qf : XH → Prop), EnA τ en → FrW W h0 h → (∀ h', FrW W h0 h' → Qt h') → (∀ h', FrW W h0 h' → Qf h') → (pP C t).2 en h Qt Qf))
    ∧ (∀ l, (aX T τ t).2 = some l → ∀ en h (Q : PQQ), EnA τ en → FrW W h0 h → QlA W h0 l Q → (pP C t).1 en h Q)
  | .op (.var t) (.op a (.op b c)) => by
    have ia := aX_ok hC a
    have ib := aX_ok hC b
    have ic := aX_ok hC c
    have hE : ∀ x, aNE T τ t a b c (aX T τ a) (aX T τ b) (aX T τ c) = some x → ∀ en h (Q : PQQ), EnA τ en → FrW W h0 h → QvA W h0 x Q → pNE C t a b c (pP C a) (pP C b) (pP C c) en h Q := by
      intro x e en h Q hn hf hQ
      unfold aNE at e
      unfold pNE
      split at e
      · cases e; exact hQ _ _ hf trivial
      · cases e; exact hQ _ _ hf (hn _)
      · obtain ⟨y, e1_w, e⟩ := obd e
        cases e
        exact (ia.1 y e1_w).1 en h _ hn hf fun v h1 f1_w _ => hQ _ _ f1_w trivial
      · obtain ⟨y, e1_w, e⟩ := obd e
        exact (ia.1 y e1_w).1 en h _ hn hf fun v h1 f1_w a1_w => hQ _ _ f1_w (aRef_in e a1_w)
      · obtain ⟨y, e1_w, e⟩ := obd e
        obtain ⟨z, e2_w, e⟩ := obd e
        split at e
        · cases e
        · rename_i nc
          cases e
          refine (ia.1 y e1_w).1 en h _ hn hf fun v h1 f1_w _ => (ib.1 z e2_w).1 en h1 _ hn f1_w fun w h2 f2_w _ => ?_
          show p_ld _ _ _ _ _
          unfold p_ld
          split
          · exact fun _ => hQ _ _ f2_w trivial
          · rename_i q; exact absurd q nc
          · exact fun _ => hQ _ _ f2_w trivial
      · obtain ⟨y, e1_w, e⟩ := obd e
        split at e
        · cases e
        · rename_i nc
          cases e
          refine (ia.1 y e1_w).1 en h _ hn hf fun v h1 f1_w _ => ?_
          show p_ln _ _ _ _
          unfold p_ln
          split
          · exact hQ _ _ f1_w trivial
          · rename_i q; exact absurd q nc
          · exact hQ _ _ f1_w trivial
      · obtain ⟨y, e1_w, e⟩ := obd e
        cases e
        exact (ia.1 y e1_w).1 en h _ hn hf fun v h1 f1_w _ => hQ _ _ f1_w trivial
      · obtain ⟨y, e1_w, e⟩ := obd e
        obtain ⟨z, e2_w, e⟩ := obd e
        cases e
        exact (ia.1 y e1_w).1 en h _ hn hf fun v h1 f1_w _ => (ib.1 z e2_w).1 en h1 _ hn f1_w fun w h2 f2_w _ => hQ _ _ f2_w trivial
      · obtain ⟨y, e1_w, e⟩ := obd e
        obtain ⟨z, e2_w, e⟩ := obd e
        cases e
        exact (ia.1 y e1_w).1 en h _ hn hf fun v h1 f1_w _ => (ib.1 z e2_w).1 en h1 _ hn f1_w fun w h2 f2_w _ => hQ _ _ f2_w trivial
      · obtain ⟨y, e1_w, e⟩ := obd e
        obtain ⟨z, e2_w, e⟩ := obd e
        cases e
        exact (ia.1 y e1_w).1 en h _ hn hf fun v h1 f1_w _ => (ib.1 z e2_w).1 en h1 _ hn f1_w fun w h2 f2_w _ => hQ _ _ f2_w trivial
      · obtain ⟨y, e1_w, e⟩ := obd e
        obtain ⟨z, e2_w, e⟩ := obd e
        cases e
        exact (ia.1 y e1_w).1 en h _ hn hf fun v h1 f1_w _ => (ib.1 z e2_w).1 en h1 _ hn f1_w fun w h2 f2_w _ _ => hQ _ _ f2_w trivial
      · obtain ⟨y, e1_w, e⟩ := obd e
        cases e
        exact (ia.1 y e1_w).1 en h _ hn hf fun v h1 f1_w _ => hQ _ _ f1_w trivial
      · obtain ⟨y, e1_w, e⟩ := obd e
        obtain ⟨z, e2_w, e⟩ := obd e
        cases e
        exact (ia.1 y e1_w).1 en h _ hn hf fun v h1 f1_w _ => (ib.1 z e2_w).1 en h1 _ hn f1_w fun w h2 f2_w _ => ⟨fun _ => hQ _ _ f2_w trivial, fun _ => hQ _ _ f2_w trivial⟩
      · obtain ⟨y, e1_w, e⟩ := obd e
        cases e
        exact (ia.1 y e1_w).1 en h _ hn hf fun v h1 f1_w _ => ⟨fun _ => hQ _ _ f1_w trivial, fun _ => hQ _ _ f1_w trivial⟩
      · obtain ⟨y, e1_w, e⟩ := obd e
        obtain ⟨z, e2_w, e⟩ := obd e
        cases e
        exact (ia.1 y e1_w).1 en h _ hn hf fun v h1 f1_w _ => (ib.1 z e2_w).1 en h1 _ hn f1_w fun w h2 f2_w _ => ⟨fun _ => hQ _ _ f2_w trivial, fun _ => hQ _ _ f2_w trivial⟩
      · obtain ⟨y, e1_w, e⟩ := obd e
        obtain ⟨z, e2_w, e⟩ := obd e
        cases e
        exact (ia.1 y e1_w).1 en h _ hn hf fun v h1 f1_w _ => (ib.1 z e2_w).1 en h1 _ hn f1_w fun w h2 f2_w _ => ⟨fun _ => hQ _ _ f2_w trivial, fun _ => hQ _ _ f2_w trivial⟩
      · exact (ia.1 x e).1 en h _ hn hf hQ
      · obtain ⟨y, e1_w, e⟩ := obd e
        obtain ⟨z, e2_w, e⟩ := obd e
        cases e
        exact (ia.1 y e1_w).2 en h _ _ hn hf (fun h1 f1_w => (ib.1 z e2_w).2 en h1 _ _ hn f1_w (fun h2 f2_w => hQ _ _ f2_w trivial) (fun h2 f2_w => hQ _ _ f2_w trivial)) (fun h1 f1_w => hQ _ _ f1_w trivial)
      · obtain ⟨y, e1_w, e⟩ := obd e
        obtain ⟨z, e2_w, e⟩ := obd e
        cases e
        exact (ia.1 y e1_w).2 en h _ _ hn hf (fun h1 f1_w => hQ _ _ f1_w trivial) (fun h1 f1_w => (ib.1 z e2_w).2 en h1 _ _ hn f1_w (fun h2 f2_w => hQ _ _ f2_w trivial) (fun h2 f2_w => hQ _ _ f2_w trivial))
      · obtain ⟨y, e1_w, e⟩ := obd e
        cases e
        exact (ia.1 y e1_w).2 en h _ _ hn hf (fun h1 f1_w => hQ _ _ f1_w trivial) (fun h1 f1_w => hQ _ _ f1_w trivial)
      · obtain ⟨y, e1_w, e⟩ := obd e
        obtain ⟨z, e2_w, e⟩ := obd e
        obtain ⟨u, e3_w, e⟩ := obd e
        cases e
        exact (ia.1 y e1_w).2 en h _ _ hn hf (fun h1 f1_w => (ib.1 z e2_w).1 en h1 _ hn f1_w fun v h2 f2_w a2 => hQ _ _ f2_w (aJoin_l a2)) (fun h1 f1_w => (ic.1 u e3_w).1 en h1 _ hn f1_w fun v h2 f2_w a2 => hQ _ _ f2_w (aJoin_r a2))
      · obtain ⟨l, e1_w, e⟩ := obd e
        obtain ⟨p, e2_w, e⟩ := obd e
        split at e
        · rename_i hs
          exact ia.2 l e1_w en h _ hn hf fun vs h1 f1_w a1_w => hC _ _ _ _ ⟨p, e2_w, a1_w.sub hs, fun r h2 f2_w r2 _ => by
            rw [e] at r2
            obtain ⟨v, rfl, hv⟩ := r2
            exact hQ _ _ (f1_w.tr f2_w) hv, fun r h2 f2_w z => absurd z (by decide)⟩
        · cases e
      · cases e
    refine ⟨fun x e => ⟨hE x e, ?_⟩, fun l e => ?_⟩
    · intro en h Qt Qf hn hf ht hq
      show pNC C t a b c (pP C a) (pP C b) (pP C c) en h Qt Qf
      have hz : p_nz (pNE C t a b c (pP C a) (pP C b) (pP C c)) en h Qt Qf := hE x e en h _ hn hf fun v h1 f1_w _ => ⟨fun _ => ht _ f1_w, fun _ => hq _ f1_w⟩
      have e' : aNE T τ t a b c (aX T τ a) (aX T τ b) (aX T τ c) = some x := e
      clear e
      unfold aNE at e'
      unfold pNC
      split at e'
      any_goals exact hz
      · obtain ⟨y, e1_w, e⟩ := obd e'
        obtain ⟨z, e2_w, e⟩ := obd e
        exact (ia.1 y e1_w).1 en h _ hn hf fun v h1 f1_w _ => (ib.1 z e2_w).1 en h1 _ hn f1_w fun w h2 f2_w _ => ⟨fun _ => ht _ f2_w, fun _ => hq _ f2_w⟩
      · obtain ⟨y, e1_w, e⟩ := obd e'
        exact (ia.1 y e1_w).1 en h _ hn hf fun v h1 f1_w _ => ⟨fun _ => ht _ f1_w, fun _ => hq _ f1_w⟩
      · obtain ⟨y, e1_w, e⟩ := obd e'
        obtain ⟨z, e2_w, e⟩ := obd e
        exact (ia.1 y e1_w).1 en h _ hn hf fun v h1 f1_w _ => (ib.1 z e2_w).1 en h1 _ hn f1_w fun w h2 f2_w _ => ⟨fun _ => ht _ f2_w, fun _ => hq _ f2_w⟩
      · obtain ⟨y, e1_w, e⟩ := obd e'
        obtain ⟨z, e2_w, e⟩ := obd e
        exact (ia.1 y e1_w).1 en h _ hn hf fun v h1 f1_w _ => (ib.1 z e2_w).1 en h1 _ hn f1_w fun w h2 f2_w _ => ⟨fun _ => ht _ f2_w, fun _ => hq _ f2_w⟩
      · exact (ia.1 x e').2 en h _ _ hn hf ht hq
      · obtain ⟨y, e1_w, e⟩ := obd e'
        obtain ⟨z, e2_w, e⟩ := obd e
        exact (ia.1 y e1_w).2 en h _ _ hn hf (fun h1 f1_w => (ib.1 z e2_w).2 en h1 _ _ hn f1_w ht hq) hq
      · obtain ⟨y, e1_w, e⟩ := obd e'
        obtain ⟨z, e2_w, e⟩ := obd e
        exact (ia.1 y e1_w).2 en h _ _ hn hf ht (fun h1 f1_w => (ib.1 z e2_w).2 en h1 _ _ hn f1_w ht hq)
      · obtain ⟨y, e1_w, e⟩ := obd e'
        exact (ia.1 y e1_w).2 en h _ _ hn hf hq ht
      · cases e'
    · intro en h Q hn hf hQ
      show pNE C t a b c (pP C a) (pP C b) (pP C c) en h Q
      have e' : aNL t (aX T τ a) (aX T τ b) = some l := e
      unfold aNL at e'
      unfold pNE
      split at e'
      · cases e'
        exact hQ _ _ hf trivial
      · obtain ⟨y, e1_w, e⟩ := obd e'
        obtain ⟨z, e2_w, e⟩ := obd e
        cases e
        exact (ia.1 y e1_w).1 en h _ hn hf fun v h1 f1_w a1_w => ib.2 z e2_w en h1 _ hn f1_w fun vs h2 f2_w a2 => hQ _ _ f2_w ⟨a1_w, a2⟩
      · cases e'
  | .var _ => ⟨fun _ e => (by cases e), fun _ e => (by cases e)⟩
  | .op (.op _ _) _ => ⟨fun _ e => (by cases e), fun _ e => (by cases e)⟩
  | .op (.var _) (.var _) => ⟨fun _ e => (by cases e), fun _ e => (by cases e)⟩
  | .op (.var _) (.op _ (.var _)) => ⟨fun _ e => (by cases e), fun _ e => (by cases e)⟩
def RkA (W : AW) (τ : List AVs) (rt : Option AVs) (h0 : XH) (R : PRR) : Prop := ∀ c vs en' h', FrW W h0 h' → (c = 1 → rtA rt vs) → (c ≠ 1 → c ≠ 4 → EnA τ en') → R c vs en' h'
end FRM
section FRS
variable {C : CSt} {T : AT} {W : AW} {τ : List AVs} {rt : Option AVs} {h0 h1 h2 : XH}
theorem oks {t : SX} (e : aOk T τ t = true) : ∃ a, (aX T τ t).1 = some a := Option.isSome_iff_exists.mp e
theorem ato {t : SX} {y : AVs} (e : aTo T τ t y = true) : ∃ a, (aX T τ t).1 = some a ∧ aSub a y = true := by
  unfold aTo at e
  split at e
  · exact ⟨_, by assumption, e⟩
  · cases e
theorem aput {k : Nat} {x : Option AVs} (e : aPut W k x = true) : ∃ S, x = some (some S) ∧ ∀ s, s ∈ S → aW W s k = true := by
  match x, e with
  | some (some S), e => exact ⟨S, rfl, fun s hs => List.all_eq_true.mp e s hs⟩
theorem aarr {x : Option AVs} (e : aArr W x = true) : ∃ S, x = some (some S) ∧ ∀ s, s ∈ S → ∀ k, aW W s k = true := by
  match x, e with
  | some (some S), e => exact ⟨S, rfl, fun s hs k => by
      have := List.all_eq_true.mp e s hs
      unfold aW
      rw [this]
      rfl⟩
theorem avd {l : Option (List AVs)} {f : Nat} (e : aVd T l f = true) : ∃ l' p, l = some l' ∧ T f = some p ∧ aSubL l' p.1 = true := by
  unfold aVd at e
  cases l with
  | none => cases e
  | some l =>
    cases ep : T f with
    | none =>
      rw [ep] at e
      cases e
    | some p =>
      rw [ep] at e
      exact ⟨l, p, rfl, rfl, e⟩
theorem avoid (hC : ∀ f av h Q, aK T W f av h Q → C f av h Q) : ∀ {t : SX}, aVoid T τ t = true → ∀ en h (Q : PQQ), EnA τ en → FrW W h0 h → (∀ x h', FrW W h0 h' → Q x h') → pE C t en h Q
  | .op (.var t) (.op a (.op b c)), e, en, h, Q, hn, hf, hQ => by
    obtain ⟨et, e⟩ := bnd (show (decide (t = 32) && aVd T (aX T τ a).2 (sx_n b)) = true from e)
    have et := of_decide_eq_true et
    subst et
    obtain ⟨l, p, e1_w, e2_w, e3_w⟩ := avd e
    show (pP C a).1 en h fun av h1 => C (sx_n b) av h1 fun k r h2 => k = 1 → Q r h2
    exact (aX_ok (h0 := h0) hC a).2 l e1_w en h _ hn hf fun vs h1 f1_w a1_w => hC _ _ _ _ ⟨p, e2_w, a1_w.sub e3_w, fun r h2 f2_w _ _ => hQ _ _ (f1_w.tr f2_w), fun r h2 _ z => absurd z (by decide)⟩
  | .var _, e, _, _, _, _, _, _ => by cases e
  | .op (.op _ _) _, e, _, _, _, _, _, _ => by cases e
  | .op (.var _) (.var _), e, _, _, _, _, _, _ => by cases e
  | .op (.var _) (.op _ (.var _)), e, _, _, _, _, _, _ => by cases e
theorem aS_ok (hC : ∀ f av h Q, aK T W f av h Q → C f av h Q) : ∀ t : SX,
    ((aS T W τ rt t).1 = true → ∀ en h (R : PRR), EnA τ en → FrW W h0 h → RkA W τ rt h0 R → pS C t en h R)
    ∧ ((aS T W τ rt t).2 = true → ∀ v en h (R : PRR), EnA τ en → FrW W h0 h → RkA W τ rt h0 R → pS C t (v :: en) h R)
  | .op (.var t) (.op a (.op b c)) => by
    have ia := aS_ok hC a
    have ib := aS_ok hC b
    have ic := aS_ok hC c
    have xe := fun t a e => ((aX_ok (h0 := h0) (τ := τ) hC t).1 a e).1
    have xc := fun t a e => ((aX_ok (h0 := h0) (τ := τ) hC t).1 a e).2
    refine ⟨fun e en h R hn hf hR => ?_, fun e v en h R hn hf hR => ?_⟩
    · show pNS C t a b c (pS C a) (pS C b) (pS C c) en h R
      unfold aS at e
      dsimp only at e
      unfold pNS
      split at e
      · exact hR _ _ _ _ hf (fun z => absurd z (by decide)) (fun _ _ => hn)
      · obtain ⟨e1_w, e2_w⟩ := bnd e
        exact ia.1 e1_w _ _ _ hn hf fun c vs en1 h1 f1_w r1_w n1_w => ⟨fun z => ib.1 e2_w _ _ _ (n1_w (by omega) (by omega)) f1_w hR, fun z => hR _ _ _ _ f1_w r1_w n1_w⟩
      · obtain ⟨y, e1_w, e2_w⟩ := ato e
        exact xe _ _ e1_w _ _ _ hn hf fun v h1 f1_w a1_w => hR _ _ _ _ f1_w (fun z => absurd z (by decide)) (fun _ _ => hn.set (a1_w.sub e2_w))
      · exact hR _ _ _ _ hf (fun z => absurd z (by decide)) (fun _ _ => hn.set (aIn.sub e trivial))
      · obtain ⟨e1_w, e2_w⟩ := bnd e
        obtain ⟨S, e1_w, hS_w⟩ := aput e1_w
        obtain ⟨y, e2_w⟩ := oks e2_w
        exact xe _ _ e1_w _ _ _ hn hf fun v h1 f1_w a1_w => xe _ _ e2_w _ _ _ hn f1_w fun w h2 f2_w _ => by
          obtain ⟨s, hs, rfl⟩ := a1_w
          exact hR _ _ _ _ (f2_w.up (hS_w s hs)) (fun z => absurd z (by decide)) (fun _ _ => hn)
      · obtain ⟨e1_w, e2_w⟩ := bnd e
        obtain ⟨S, e1_w, hS_w⟩ := aput e1_w
        obtain ⟨y, e2_w⟩ := oks e2_w
        exact xe _ _ e1_w _ _ _ hn hf fun v h1 f1_w a1_w => xe _ _ e2_w _ _ _ hn f1_w fun w h2 f2_w _ => by
          obtain ⟨s, hs, rfl⟩ := a1_w
          exact hR _ _ _ _ (f2_w.up (hS_w s hs)) (fun z => absurd z (by decide)) (fun _ _ => hn)
      · obtain ⟨e1_w, e2_w⟩ := bnd e
        obtain ⟨e1_w, e3_w⟩ := bnd e1_w
        obtain ⟨S, e1_w, hS_w⟩ := aarr e1_w
        obtain ⟨y, e3_w⟩ := oks e3_w
        split at e2_w
        · obtain ⟨u, e2_w⟩ := oks e2_w
          exact xe _ _ e1_w _ _ _ hn hf fun v h1 f1_w a1_w => xe _ _ e3_w _ _ _ hn f1_w fun w h2 f2_w _ => xe _ _ e2_w _ _ _ hn f2_w fun x h3 f3_w _ _ => by
            obtain ⟨s, hs, rfl⟩ := a1_w
            exact hR _ _ _ _ (f3_w.up (hS_w s hs _)) (fun z => absurd z (by decide)) (fun _ _ => hn)
        · cases e2_w
      · obtain ⟨e1_w, e2_w⟩ := bnd e
        obtain ⟨e1_w, e3_w⟩ := bnd e1_w
        obtain ⟨S, e1_w, hS_w⟩ := aarr e1_w
        obtain ⟨y, e3_w⟩ := oks e3_w
        split at e2_w
        · obtain ⟨u, e2_w⟩ := oks e2_w
          exact xe _ _ e1_w _ _ _ hn hf fun v h1 f1_w a1_w => xe _ _ e3_w _ _ _ hn f1_w fun w h2 f2_w _ => xe _ _ e2_w _ _ _ hn f2_w fun x h3 f3_w _ _ => by
            obtain ⟨s, hs, rfl⟩ := a1_w
            exact hR _ _ _ _ (f3_w.up (hS_w s hs _)) (fun z => absurd z (by decide)) (fun _ _ => hn)
        · cases e2_w
      · rw [Bool.or_eq_true] at e
        rcases e with e | e
        · obtain ⟨y, e⟩ := oks e
          exact xe _ _ e _ _ _ hn hf fun v h1 f1_w _ => hR _ _ _ _ f1_w (fun z => absurd z (by decide)) (fun _ _ => hn)
        · exact avoid hC e _ _ _ hn hf fun x h1 f1_w => hR _ _ _ _ f1_w (fun z => absurd z (by decide)) (fun _ _ => hn)
      · obtain ⟨e1_w, e2_w⟩ := bnd e
        obtain ⟨y, e1_w⟩ := oks e1_w
        exact xc _ _ e1_w _ _ _ _ hn hf (fun h1 f1_w => ib.1 e2_w _ _ _ hn f1_w hR) (fun h1 f1_w => hR _ _ _ _ f1_w (fun z => absurd z (by decide)) (fun _ _ => hn))
      · obtain ⟨e1_w, e2_w⟩ := bnd e
        obtain ⟨e1_w, e3_w⟩ := bnd e1_w
        obtain ⟨y, e1_w⟩ := oks e1_w
        exact xc _ _ e1_w _ _ _ _ hn hf (fun h1 f1_w => ib.1 e3_w _ _ _ hn f1_w hR) (fun h1 f1_w => ic.1 e2_w _ _ _ hn f1_w hR)
      · obtain ⟨e1_w, e2_w⟩ := bnd e
        obtain ⟨e1_w, e3_w⟩ := bnd e1_w
        obtain ⟨y, e1_w⟩ := oks e1_w
        exact ⟨fun en h => EnA τ en ∧ FrW W h0 h, ⟨hn, hf⟩, fun en h ⟨hn, hf⟩ => xc _ _ e1_w _ _ _ _ hn hf (fun h1 f1_w => ib.1 e3_w _ _ _ hn f1_w fun c vs en1 h2 f2_w r2 n2_w => ⟨fun z => ic.1 e2_w _ _ _ (n2_w (by omega) (by omega)) f2_w fun c' vs' en2 h3 f3_w _ n3_w z' => ⟨n3_w (by omega) (by omega), f3_w⟩, fun z => hR _ _ _ _ f2_w (fun z => absurd z (by decide)) (fun _ _ => n2_w (by omega) (by omega)), fun z1 z2 z3 => hR _ _ _ _ f2_w r2 n2_w⟩) (fun h1 f1_w => hR _ _ _ _ f1_w (fun z => absurd z (by decide)) (fun _ _ => hn))⟩
      · obtain ⟨e1_w, e2_w⟩ := bnd e
        obtain ⟨y, e1_w⟩ := oks e1_w
        exact ⟨fun en h => EnA τ en ∧ FrW W h0 h, ⟨hn, hf⟩, fun en h ⟨hn, hf⟩ => ib.1 e2_w _ _ _ hn hf fun c vs en1 h2 f2_w r2 n2_w => ⟨fun z => xc _ _ e1_w _ _ _ _ (n2_w (by omega) (by omega)) f2_w (fun h3 f3_w => ⟨n2_w (by omega) (by omega), f3_w⟩) (fun h3 f3_w => hR _ _ _ _ f3_w (fun z => absurd z (by decide)) (fun _ _ => n2_w (by omega) (by omega))), fun z => hR _ _ _ _ f2_w (fun z => absurd z (by decide)) (fun _ _ => n2_w (by omega) (by omega)), fun z1 z2 z3 => hR _ _ _ _ f2_w r2 n2_w⟩⟩
      · exact hR _ _ _ _ hf (fun z => absurd z (by decide)) (fun _ _ => hn)
      · exact hR _ _ _ _ hf (fun z => absurd z (by decide)) (fun _ _ => hn)
      · split at e
        · obtain ⟨y, e1_w, e2_w⟩ := ato e
          exact xe _ _ e1_w _ _ _ hn hf fun v h1 f1_w a1_w => hR _ _ _ _ f1_w (fun _ => ⟨v, rfl, a1_w.sub e2_w⟩) (fun z _ => absurd rfl z)
        · cases e
      · split at e
        · obtain ⟨y, e1_w, e2_w⟩ := ato e
          exact xe _ _ e1_w _ _ _ hn hf fun v h1 f1_w a1_w _ => hR _ _ _ _ f1_w (fun _ => ⟨v, rfl, a1_w.sub e2_w⟩) (fun z _ => absurd rfl z)
        · cases e
      · split at e
        · cases e
        · exact hR _ _ _ _ hf (fun _ => rfl) (fun z _ => absurd rfl z)
      · exact hR _ _ _ _ hf (fun z => absurd z (by decide)) (fun _ z => absurd rfl z)
      · obtain ⟨e1_w, e2_w⟩ := bnd e
        obtain ⟨y, e1_w⟩ := oks e1_w
        exact xe _ _ e1_w _ _ _ hn hf fun v h1 f1_w _ => ib.2 e2_w _ _ _ _ hn f1_w fun c vs en1 h2 f2_w r2 n2_w => ⟨fun z => hR _ _ _ _ f2_w (fun z => absurd z (by decide)) (fun _ _ => n2_w (by omega) (by omega)), fun z => hR _ _ _ _ f2_w r2 n2_w⟩
      · exact ia.1 e _ _ _ hn hf hR
      · exact hR _ _ _ _ hf (fun z => absurd z (by decide)) (fun _ _ => hn)
      · obtain ⟨e1_w, e2_w⟩ := bnd e
        obtain ⟨S, e1_w, hS_w⟩ := aput e1_w
        obtain ⟨y, e2_w⟩ := oks e2_w
        exact xe _ _ e1_w _ _ _ hn hf fun v h1 f1_w a1_w => xe _ _ e2_w _ _ _ hn f1_w fun w h2 f2_w _ _ => by
          obtain ⟨s, hs, rfl⟩ := a1_w
          exact hR _ _ _ _ (f2_w.up (hS_w s hs)) (fun z => absurd z (by decide)) (fun _ _ => hn)
      · obtain ⟨e1_w, e2_w⟩ := bnd e
        obtain ⟨y, e1_w⟩ := oks e1_w
        exact xc _ _ e1_w _ _ _ _ hn hf (fun h1 f1_w => ib.1 e2_w _ _ _ hn f1_w hR) (fun h1 f1_w => hR _ _ _ _ f1_w (fun z => absurd z (by decide)) (fun _ _ => hn))
      · cases e
    · show pNS C t a b c (pS C a) (pS C b) (pS C c) (v :: en) h R
      unfold aS at e
      dsimp only at e
      unfold pNS
      split at e
      · obtain ⟨e1_w, e2_w⟩ := bnd e
        exact ⟨fun _ => ib.1 e1_w _ _ _ hn hf fun c vs en1 h1 f1_w r1_w n1_w _ => hR _ _ _ _ f1_w r1_w n1_w, fun _ => ic.2 e2_w _ _ _ _ hn hf hR⟩
      · exact ia.1 e _ _ _ hn hf hR
      · cases e
  | .var _ => ⟨fun e => (by cases e), fun e => (by cases e)⟩
  | .op (.op _ _) _ => ⟨fun e => (by cases e), fun e => (by cases e)⟩
  | .op (.var _) (.var _) => ⟨fun e => (by cases e), fun e => (by cases e)⟩
  | .op (.var _) (.op _ (.var _)) => ⟨fun e => (by cases e), fun e => (by cases e)⟩
/-- a method_w: its arguments lie in its locals as_w its table_w says_w -/
def aEnv (p : List AVs) : List Nat → List AVs
  | k :: ks_w => (p.headD none) :: (if k = 2 then none :: aEnv p.tail ks_w else aEnv p.tail ks_w)
  | [] => []
/-- what is_w told_w of the locals of each_w method_w, beyond_w its arguments -/
abbrev AL : Type := Nat → List AVs
def aM (T : AT) (V : AL) (W : AW) (M : Nat → XM) (f : Nat) : Bool := match T f with
  | some p => aSubL (aEnv p.1 (M f).2.2.1) ((V f).take (aEnv p.1 (M f).2.2.1).length) && decide (p.1.length = (M f).2.2.1.length) && ((V f).drop (aEnv p.1 (M f).2.2.1).length).all (fun x => match x with
    | none => true
    | some S => S.contains 0) && (aS T W (V f) p.2 (M f).2.2.2.2).1
  | none => false
theorem EnA_of : ∀ {l : List AVs} {v : List Int}, LsA l v → EnA l v
  | [], [], _ => fun _ => trivial
  | a :: l, w :: v, h => fun i => by
    cases i with
    | zero => exact h.1
    | succ i => exact EnA_of h.2 i
  | [], _ :: _, h => h.elim
  | _ :: _, [], h => h.elim
theorem aEnv_ok : ∀ {p : List AVs} {ks_w : List Nat} {v : List Int}, p.length = ks_w.length → LsA p v → LsA (aEnv p ks_w) (j_lay ks_w v)
  | [], [], [], _, _ => trivial
  | a :: p, k :: ks_w, w :: v, hl, h => by
    have ih_w := aEnv_ok (Nat.succ.inj hl) h.2
    show LsA (a :: (if k = 2 then none :: aEnv p ks_w else aEnv p ks_w)) (if k = 2 then w :: 0 :: j_lay ks_w v else w :: j_lay ks_w v)
    by_cases y : k = 2
    · rw [if_pos y, if_pos y]
      exact ⟨h.1, trivial, ih_w⟩
    · rw [if_neg y, if_neg y]
      exact ⟨h.1, ih_w⟩
  | [], _ :: _, _, hl, _ => by cases hl
  | _ :: _, [], _, hl, _ => by cases hl
  | _ :: _, _ :: _, [], _, h => h.elim
  | [], [], _ :: _, _, h => h.elim
theorem LsA.len : ∀ {l : List AVs} {v : List Int}, LsA l v → l.length = v.length
  | [], [], _ => rfl
  | _ :: _, _ :: _, h => congrArg (· + 1) (LsA.len h.2)
  | [], _ :: _, h => h.elim
  | _ :: _, [], h => h.elim
theorem aM_ok {C'_w : CSt} (hC : ∀ f av h Q, aK T W f av h Q → C'_w f av h Q) {V : AL} {f : Nat} (e : aM T V W g_M f = true) : BodyOK (aK T W) C'_w f := fun av h Q hQ => by
  obtain ⟨p, ep, la, q1_w, q4_w⟩ := hQ
  unfold aM at e
  rw [ep] at e
  dsimp only at e
  obtain ⟨e, e4_w⟩ := bnd e
  obtain ⟨e, e3_w⟩ := bnd e
  obtain ⟨e1_w, e2_w⟩ := bnd e
  have l1 := aEnv_ok (of_decide_eq_true e2_w) la
  have l2 := l1.sub e1_w
  refine (aS_ok (h0 := h) hC _).1 e4_w _ _ _ (fun i => ?_) FrW.rf (fun c vs en' h' f' r' _ z => ?_)
  · have hlen := l1.len
    have hv : ∀ (en : List Int) (n : Nat), (j_pad 0 n en).getD i 0 = en.getD i 0 := fun en n => by
      unfold j_pad
      rw [List.getD_eq_getElem?_getD, List.getD_eq_getElem?_getD]
      by_cases y : i < en.length
      · rw [List.getElem?_append_left y]
      · rw [List.getElem?_append_right (by omega), List.getElem?_eq_none (l := en) (by omega)]
        by_cases y2 : i - en.length < n - en.length
        · rw [List.getElem?_replicate, if_pos y2]
          rfl
        · rw [List.getElem?_replicate, if_neg y2]
    rw [hv]
    by_cases y : i < (aEnv p.1 (g_M f).2.2.1).length
    · have t := EnA_of l2 i
      rw [List.getD_eq_getElem?_getD, List.getElem?_take, if_pos y, ← List.getD_eq_getElem?_getD] at t
      exact t
    · rw [List.getD_eq_getElem?_getD (l := j_lay _ _), List.getElem?_eq_none (by omega)]
      show aIn ((V f).getD i none) 0
      cases ey : (V f)[i]? with
      | none =>
        rw [List.getD_eq_getElem?_getD, ey]
        exact trivial
      | some x =>
        rw [List.getD_eq_getElem?_getD, ey]
        have hx : x ∈ (V f).drop (aEnv p.1 (g_M f).2.2.1).length := by
          refine List.mem_of_getElem? (i := i - (aEnv p.1 (g_M f).2.2.1).length) ?_
          rw [List.getElem?_drop, show (aEnv p.1 (g_M f).2.2.1).length + (i - (aEnv p.1 (g_M f).2.2.1).length) = i by omega]
          exact ey
        have t := List.all_eq_true.mp e3_w x hx
        cases x with
        | none => exact trivial
        | some S => exact ⟨0, List.contains_iff_mem.mp t, rfl⟩
  · rcases z with rfl | rfl
    · exact q1_w _ _ f' (r' rfl)
    · exact q4_w _ _ f'
end FRS
