/-! ===== what the machine's words are of these numbers ===== -/
def InI (v : Int) : Prop := -2147483648 ≤ v ∧ v < 2147483648
def InL (v : Int) : Prop := -9223372036854775808 ≤ v ∧ v < 9223372036854775808
theorem i32_of {v : Int} (h : InI v) : (Int32.ofInt v).toInt = v := Int32.toInt_ofInt_of_le (by have := h.1; omega) (by have := h.2; omega)
theorem i64_of {v : Int} (h : InL v) : (Int64.ofInt v).toInt = v := Int64.toInt_ofInt_of_le (by have := h.1; omega) (by have := h.2; omega)
theorem in_i32 (x : Int32) : InI x.toInt := ⟨Int32.le_toInt x, Int32.toInt_lt x⟩
theorem in_i64 (x : Int64) : InL x.toInt := ⟨Int64.le_toInt x, Int64.toInt_lt x⟩
theorem in_j32 (v : Int) : InI (j32 v) := in_i32 _
theorem in_j64 (v : Int) : InL (j64 v) := in_i64 _
theorem of_j32 (v : Int) : Int32.ofInt (j32 v) = Int32.ofInt v := Int32.ofInt_toInt _
theorem of_j64 (v : Int) : Int64.ofInt (j64 v) = Int64.ofInt v := Int64.ofInt_toInt _
theorem j32_in {v : Int} (h : InI v) : j32 v = v := i32_of h
theorem j64_in {v : Int} (h : InL v) : j64 v = v := i64_of h
theorem of_lt {x y : Int} (hx : InI x) (hy : InI y) : Int32.ofInt x < Int32.ofInt y ↔ x < y := by rw [Int32.lt_iff_toInt_lt, i32_of hx, i32_of hy]
theorem of_le {x y : Int} (hx : InI x) (hy : InI y) : Int32.ofInt x ≤ Int32.ofInt y ↔ x ≤ y := by rw [Int32.le_iff_toInt_le, i32_of hx, i32_of hy]
theorem of_eq {x y : Int} (hx : InI x) (hy : InI y) : Int32.ofInt x = Int32.ofInt y ↔ x = y := ⟨fun h => by rw [← i32_of hx, h, i32_of hy], fun h => by rw [h]⟩
theorem ol_lt {x y : Int} (hx : InL x) (hy : InL y) : Int64.ofInt x < Int64.ofInt y ↔ x < y := by rw [Int64.lt_iff_toInt_lt, i64_of hx, i64_of hy]
theorem ol_eq {x y : Int} (hx : InL x) (hy : InL y) : Int64.ofInt x = Int64.ofInt y ↔ x = y := ⟨fun h => by rw [← i64_of hx, h, i64_of hy], fun h => by rw [h]⟩
theorem in_0 : InI 0 := ⟨by decide, by decide⟩
def w_v (ad adW : Nat → Nat) (aT aS : Nat) (kd : Nat) (v : Int) : Value := match kd with
  | 1 => .int (Int32.ofInt v)
  | 2 => .long (Int64.ofInt v)
  | 3 => .ref (adW v.toNat)
  | 4 => .ref aT
  | 5 => .ref aS
  | _ => .ref (ad v.toNat)
def w_s (ad : Nat → Nat) (x : Int) (q : Nat × Nat) : Value := match q.1 with
  | 1 => .int (Int32.ofInt x)
  | 2 => .long (Int64.ofInt x)
  | _ => match q.2 with
    | 0 => .null
    | r + 1 => .ref (ad r)
def w_fs (ad : Nat → Nat) (f : Nat → Int) (sl : List (Nat × Nat)) : List Value := sl.mapIdx fun k q => w_s ad (f k) q
def w_c (cA : Nat → ClassId) (ad : Nat → Nat) (f : Nat → Int) (c : XC) : va_E := match c.1 with
  | 6 => .inl (cA 6, c.2.1, .inl fun j => Int32.ofInt (f j))
  | 7 => .inl (cA 7, c.2.1, .inr (.inl fun j => Int64.ofInt (f j)))
  | 8 => .inl (cA 8, c.2.1, .inl fun j => Int32.ofInt (f j))
  | 9 => .inl (cA 9, c.2.1, .inl fun j => Int32.ofInt (f j))
  | k => .inr (k - 10, w_fs ad f c.2.2)
def w_w (cA : Nat → ClassId) (ad : Nat → Nat) (st : XT) : va_W := st.1.1.mapIdx fun o c => (ad o, w_c cA ad (st.2 o) c)
theorem w_w_at {cA : Nat → ClassId} {ad : Nat → Nat} {st : XT} {o : Nat} {c : XC} (h : st.1.1[o]? = some c) : (w_w cA ad st)[o]? = some (ad o, w_c cA ad (st.2 o) c) := by
  simp [w_w, List.getElem?_mapIdx, h]
theorem w_fs_at {ad : Nat → Nat} {f : Nat → Int} {sl : List (Nat × Nat)} {k : Nat} {q : Nat × Nat} (h : sl[k]? = some q) : (w_fs ad f sl)[k]? = some (w_s ad (f k) q) := by
  simp [w_fs, List.getElem?_mapIdx, h]
/-- numbers of the world are what their kinds bear, references lead to cells of their kinds -/
def OkC (ck : Nat → List Nat) (g : XS) (f : Nat → Int) (c : XC) : Prop := 6 ≤ c.1 ∧ (c.1 < 10 → c.2.1 < 2147483648 ∧ (c.1 = 7 → ∀ k, InL (f k)) ∧ (c.1 ≠ 7 → ∀ k, InI (f k))) ∧
  (10 ≤ c.1 → c.2.2.map (·.1) = ck (c.1 - 10) ∧ ∀ k q, c.2.2[k]? = some q → (q.1 = 1 → InI (f k)) ∧ (q.1 = 2 → InL (f k)) ∧ (∀ r, q.1 ≠ 1 → q.1 ≠ 2 → q.2 = r + 1 → ∃ c', g[r]? = some c' ∧ c'.1 = q.1))
def OkS (ck : Nat → List Nat) (st : XT) : Prop := ∀ o c, st.1.1[o]? = some c → OkC ck st.1.1 (st.2 o) c
def OkV (g : XS) (kd : Nat) (v : Int) : Prop := (kd = 1 → InI v) ∧ (kd = 2 → InL v) ∧ (kd = 3 → 0 ≤ v ∧ v < 24) ∧ (6 ≤ kd → 0 ≤ v ∧ ∃ c, g[v.toNat]? = some c ∧ c.1 = kd) ∧ kd ≠ 0
theorem OkV.int {g : XS} {v : Int} (h : InI v) : OkV g 1 v := ⟨fun _ => h, fun e => (by cases e), fun e => (by cases e), fun e => absurd e (by decide), by decide⟩
theorem OkV.long {g : XS} {v : Int} (h : InL v) : OkV g 2 v := ⟨fun e => (by cases e), fun _ => h, fun e => (by cases e), fun e => absurd e (by decide), by decide⟩
theorem OkV.word {g : XS} {v : Int} (h : 0 ≤ v ∧ v < 24) : OkV g 3 v := ⟨fun e => (by cases e), fun e => (by cases e), fun _ => h, fun e => absurd e (by decide), by decide⟩
theorem OkV.ref {g : XS} {kd : Nat} {v : Int} (hk : 6 ≤ kd) (h0 : 0 ≤ v) {c : XC} (h : g[v.toNat]? = some c) (e : c.1 = kd) : OkV g kd v := ⟨fun z => (by omega), fun z => (by omega), fun z => (by omega), fun _ => ⟨h0, c, h, e⟩, by omega⟩
/-- the list of what locals hold -/
def w_l (ad adW : Nat → Nat) (aT aS : Nat) (τ : List Nat) (en : List Int) : List (Nat × Value) := (List.range τ.length).filterMap fun i => if τ.getD i 0 = 0 then none else some (i, w_v ad adW aT aS (τ.getD i 0) (en.getD i 0))
theorem w_l_mem {ad adW : Nat → Nat} {aT aS : Nat} {τ : List Nat} {en : List Int} {q : Nat × Value} : q ∈ w_l ad adW aT aS τ en ↔ q.1 < τ.length ∧ τ.getD q.1 0 ≠ 0 ∧ q.2 = w_v ad adW aT aS (τ.getD q.1 0) (en.getD q.1 0) := by
  unfold w_l
  rw [List.mem_filterMap]
  constructor
  · rintro ⟨i, hi, h⟩
    split at h
    · cases h
    · rename_i hne
      cases h
      exact ⟨List.mem_range.mp hi, hne, rfl⟩
  · rintro ⟨h1, h2, h3⟩
    refine ⟨q.1, List.mem_range.mpr h1, ?_⟩
    rw [if_neg h2, ← h3]
theorem lv_mono {ls : Array Slot} {n : Nat} {l l' : List (Nat × Value)} (h : lv_has ls n l) (hs : ∀ q ∈ l', q ∈ l) : lv_has ls n l' := ⟨h.1, h.2.1, fun q hq => h.2.2 q (hs q hq)⟩
theorem w_cat {ad adW : Nat → Nat} {aT aS : Nat} {v : Int} : ∀ {kd : Nat}, (w_v ad adW aT aS kd v).category = k_cat kd
  | 0 => rfl
  | 1 => rfl
  | 2 => rfl
  | 3 => rfl
  | 4 => rfl
  | 5 => rfl
  | _ + 6 => rfl
theorem w_v_ref {ad adW : Nat → Nat} {aT aS : Nat} {v : Int} : ∀ {kd : Nat}, 6 ≤ kd → w_v ad adW aT aS kd v = .ref (ad v.toNat)
  | 0, h => absurd h (by decide)
  | 1, h => absurd h (by decide)
  | 2, h => absurd h (by decide)
  | 3, h => absurd h (by decide)
  | 4, h => absurd h (by decide)
  | 5, h => absurd h (by decide)
  | _ + 6, _ => rfl
/-- a reference of some kind: where it leads -/
theorem w_v_r {ad adW : Nat → Nat} {aT aS : Nat} {v : Int} : ∀ {kd : Nat}, 3 ≤ kd → ∃ x, w_v ad adW aT aS kd v = .ref x
  | 0, h => absurd h (by decide)
  | 1, h => absurd h (by decide)
  | 2, h => absurd h (by decide)
  | 3, _ => ⟨_, rfl⟩
  | 4, _ => ⟨_, rfl⟩
  | 5, _ => ⟨_, rfl⟩
  | _ + 6, _ => ⟨_, rfl⟩
theorem w_c_obj {cA : Nat → ClassId} {ad : Nat → Nat} {f : Nat → Int} {c : XC} (h : 10 ≤ c.1) : w_c cA ad f c = .inr (c.1 - 10, w_fs ad f c.2.2) := by
  unfold w_c
  split <;> first | omega | rfl
