/-! ===== a fourth reading_w: intervals, for_w the reference_w; what a number_w is_w known_w to be ===== -/
/-- tag_w, low_w, high_w: tag_w 1 an int within_w, 2 a long within_w, 3 a block's base (429 j, j below_w 12) and a number_w within_w, 4 the number_w low_w itself_w, 5 a told_w meter, 6 a told_w class, 7 how many_w meters are told_w, 8 how many_w classes; else nothing_w -/
abbrev IT : Type := Nat × Int × Int
def IV (P : Int × Int) : IT → Int → Prop
  | (1, l, h), v => l ≤ v ∧ v ≤ h ∧ InI v
  | (2, l, h), v => l ≤ v ∧ v ≤ h ∧ InL v
  | (3, l, h), v => InI v ∧ ∃ j : Nat, j < 12 ∧ 429 * (j : Int) + l ≤ v ∧ v ≤ 429 * (j : Int) + h
  | (4, l, _), v => v = l
  | (5, _, _), v => 0 ≤ v ∧ v < P.1 ∧ P.1 ≤ 6
  | (6, _, _), v => 0 ≤ v ∧ v < P.2 ∧ P.2 ≤ 4
  | (7, _, _), v => v = P.1 ∧ 0 ≤ v ∧ v ≤ 6
  | (8, _, _), v => v = P.2 ∧ 0 ≤ v ∧ v ≤ 4
  | _, _ => True
def iT : IT := (1, -2147483648, 2147483647)
def iL : IT := (2, -9223372036854775808, 9223372036854775807)
/-- as_w an int within_w -/
def i_wd : IT → IT
  | (5, _, _) => (1, 0, 5)
  | (6, _, _) => (1, 0, 3)
  | (7, _, _) => (1, 0, 6)
  | (8, _, _) => (1, 0, 4)
  | t => t
section IVS
variable {P : Int × Int} {v w : Int} {a b t u : IT}
theorem IV.top (h : InI v) : IV P iT v := ⟨h.1, by have := h.2; omega, h⟩
theorem IV.topL (h : InL v) : IV P iL v := ⟨h.1, by have := h.2; omega, h⟩
theorem IV.wd : ∀ {t : IT}, IV P t v → IV P (i_wd t) v
  | (0, _, _), h => h
  | (1, _, _), h => h
  | (2, _, _), h => h
  | (3, _, _), h => h
  | (4, _, _), h => h
  | (5, _, _), h => ⟨h.1, by have := h.2; omega, by have := h.1; omega, by have := h.2; omega⟩
  | (6, _, _), h => ⟨h.1, by have := h.2; omega, by have := h.1; omega, by have := h.2; omega⟩
  | (7, _, _), h => ⟨h.2.1, h.2.2, by have := h.2; omega, by have := h.2; omega⟩
  | (8, _, _), h => ⟨h.2.1, h.2.2, by have := h.2; omega, by have := h.2; omega⟩
  | (_ + 9, _, _), h => h
def i_sub1 (a b : IT) : Bool := a.1 == b.1 && (Nat.ble 5 a.1 || (a.1 == 4 && decide (a.2.1 = b.2.1)) || (a.1 != 4 && decide (b.2.1 ≤ a.2.1) && decide (a.2.2 ≤ b.2.2)))
theorem IV.sub1 (h : i_sub1 a b = true) (hv : IV P a v) : IV P b v := by
  obtain ⟨ta, la, ha_w⟩ := a
  obtain ⟨tb, lb, hb_w⟩ := b
  simp only [i_sub1, Bool.or_eq_true, Bool.and_eq_true, beq_iff_eq, bne_iff_ne, decide_eq_true_eq, Nat.ble_eq] at h
  obtain ⟨rfl, h⟩ := h
  match ta, h, hv with
  | 0, _, _ => trivial
  | 1, h, hv =>
    have h1 : lb ≤ la ∧ ha_w ≤ hb_w := by omega
    obtain ⟨k1_w, k2, k3⟩ := hv
    exact ⟨by omega, by omega, k3⟩
  | 2, h, hv =>
    have h1 : lb ≤ la ∧ ha_w ≤ hb_w := by omega
    obtain ⟨k1_w, k2, k3⟩ := hv
    exact ⟨by omega, by omega, k3⟩
  | 3, h, hv =>
    have h1 : lb ≤ la ∧ ha_w ≤ hb_w := by omega
    obtain ⟨k1_w, j, k2, k3, k4⟩ := hv
    exact ⟨k1_w, j, k2, by omega, by omega⟩
  | 4, h, hv =>
    have h1 : la = lb := by omega
    exact Eq.trans hv h1
  | 5, _, hv => exact hv
  | 6, _, hv => exact hv
  | 7, _, hv => exact hv
  | 8, _, hv => exact hv
  | _ + 9, _, _ => trivial
/-- a block's base, told_w as_w a number_w -/
def i_base (a b : IT) : Bool := b.1 == 3 && a.1 == 1 && decide (a.2.1 = a.2.2) && decide (0 ≤ a.2.1) && decide (a.2.1 < 5148) && decide (a.2.1 % 429 = 0) && decide (b.2.1 ≤ 0) && decide (0 ≤ b.2.2)
theorem IV.base (h : i_base a b = true) (hv : IV P a v) : IV P b v := by
  obtain ⟨ta, la, ha_w⟩ := a
  obtain ⟨tb, lb, hb_w⟩ := b
  simp only [i_base, Bool.and_eq_true, beq_iff_eq, decide_eq_true_eq] at h
  obtain ⟨⟨⟨⟨⟨⟨⟨rfl, rfl⟩, rfl⟩, h1⟩, h2⟩, h3⟩, h4⟩, h5⟩ := h
  obtain ⟨k1_w, k2, k3⟩ := hv
  exact ⟨k3, (la / 429).toNat, by omega, by omega, by omega⟩
def i_sub (a b : IT) : Bool := b.1 == 0 || i_sub1 a b || i_sub1 (i_wd a) b || i_base a b
theorem IV.z {l h : Int} : IV P (0, l, h) v := trivial
theorem IV.sub (h : i_sub a b = true) (hv : IV P a v) : IV P b v := by
  simp only [i_sub, Bool.or_eq_true, beq_iff_eq] at h
  rcases h with ((h | h) | h) | h
  · obtain ⟨tb, lb, hb_w⟩ := b
    dsimp only at h
    subst h
    exact IV.z
  · exact IV.sub1 h hv
  · exact IV.sub1 h hv.wd
  · exact IV.base h hv
/-- one that holds_w both_w -/
def i_lub0 (a b : IT) : IT := bif (a.1 == b.1) && (a.1 == 1 || a.1 == 2 || a.1 == 3) then (a.1, min a.2.1 b.2.1, max a.2.2 b.2.2) else (0, 0, 0)
def i_lub (a b : IT) : IT := bif i_sub a b then b else bif i_sub b a then a else i_lub0 (i_wd a) (i_wd b)
theorem lub0_l (hv : IV P a v) : IV P (i_lub0 a b) v := by
  unfold i_lub0
  cases h3 : (a.1 == b.1) && (a.1 == 1 || a.1 == 2 || a.1 == 3) with
  | false => exact IV.z
  | true =>
    obtain ⟨ta, la, ha_w⟩ := a
    obtain ⟨tb, lb, hb_w⟩ := b
    simp only [Bool.and_eq_true, Bool.or_eq_true, beq_iff_eq] at h3
    refine IV.sub1 ?_ hv
    have h4 : ta ≠ 4 := by omega
    simp [cond, i_sub1, h4, Int.min_le_left, Int.le_max_left]
theorem lub0_r (hv : IV P b v) : IV P (i_lub0 a b) v := by
  unfold i_lub0
  cases h3 : (a.1 == b.1) && (a.1 == 1 || a.1 == 2 || a.1 == 3) with
  | false => exact IV.z
  | true =>
    obtain ⟨ta, la, ha_w⟩ := a
    obtain ⟨tb, lb, hb_w⟩ := b
    simp only [Bool.and_eq_true, Bool.or_eq_true, beq_iff_eq] at h3
    refine IV.sub1 ?_ hv
    obtain ⟨rfl, h3⟩ := h3
    have h4 : ta ≠ 4 := by omega
    simp [cond, i_sub1, h4, Int.min_le_right, Int.le_max_right]
theorem ilub_l (hv : IV P a v) : IV P (i_lub a b) v := by
  unfold i_lub
  cases h : i_sub a b with
  | true => exact IV.sub h hv
  | false =>
    cases h2 : i_sub b a with
    | true => exact hv
    | false => exact lub0_l hv.wd
theorem ilub_r (hv : IV P b v) : IV P (i_lub a b) v := by
  unfold i_lub
  cases h : i_sub a b with
  | true => exact hv
  | false =>
    cases h2 : i_sub b a with
    | true => exact IV.sub h2 hv
    | false => exact lub0_r hv.wd
/-- a wider_w one: a bound_w that moved is_w given up -/
def i_wid (a b : IT) : IT := bif i_sub b a then a else bif (i_wd a).1 == 1 && (i_wd b).1 == 1 then (1, (if (i_wd a).2.1 ≤ (i_wd b).2.1 then (i_wd a).2.1 else -2147483648), (if (i_wd b).2.2 ≤ (i_wd a).2.2 then (i_wd a).2.2 else 2147483647)) else (0, 0, 0)
theorem wid_l (hv : IV P a v) : IV P (i_wid a b) v := by
  unfold i_wid
  cases h : i_sub b a with
  | true => exact hv
  | false =>
    cases h2 : (i_wd a).1 == 1 && (i_wd b).1 == 1 with
    | false => exact IV.z
    | true =>
      have h3 := hv.wd
      generalize i_wd a = a' at h2 h3 ⊢
      obtain ⟨ta, la, ha_w⟩ := a'
      simp only [Bool.and_eq_true, beq_iff_eq] at h2
      obtain ⟨rfl, -⟩ := h2
      obtain ⟨k1_w, k2, k3⟩ := h3
      have k4 := k3
      unfold InI at k4
      refine ⟨?_, ?_, k3⟩
      · dsimp only
        split <;> omega
      · dsimp only
        split <;> omega
/-- an int that was worked out, if it stays_w an int -/
def i_clip (l h : Int) : IT := if -2147483648 ≤ l ∧ h < 2147483648 then (1, l, h) else iT
theorem i_j32 {l h : Int} (a : l ≤ v) (b : v ≤ h) : IV P (i_clip l h) (j32 v) := by
  unfold i_clip
  split
  · rename_i k
    have hv : InI v := ⟨Int.le_trans k.1 a, by omega⟩
    rw [j32_in hv]
    exact ⟨a, b, hv⟩
  · exact IV.top (in_j32 _)
/-- an int within_w, as_w it is_w -/
def i_is (t : IT) : Bool := (i_wd t).1 == 1
theorem IV.int (h : i_is t = true) (hv : IV P t v) : (i_wd t).2.1 ≤ v ∧ v ≤ (i_wd t).2.2 ∧ InI v := by
  have h3 := hv.wd
  unfold i_is at h
  generalize i_wd t = a' at h h3 ⊢
  obtain ⟨ta, la, ha_w⟩ := a'
  rw [beq_iff_eq] at h
  dsimp only at h
  subst h
  exact h3
/-- int operations -/
def i_op (op_w : Nat) (a b : IT) : IT :=
  let a' := i_wd a
  let b' := i_wd b
  bif a'.1 == 1 && b'.1 == 1 then (match op_w with
    | 0 => i_clip (a'.2.1 + b'.2.1) (a'.2.2 + b'.2.2)
    | 1 => i_clip (a'.2.1 - b'.2.2) (a'.2.2 - b'.2.1)
    | 2 => if a'.2.1 = a'.2.2 ∧ 0 ≤ a'.2.1 then i_clip (a'.2.1 * b'.2.1) (a'.2.1 * b'.2.2) else iT
    | _ => iT)
  else bif a'.1 == 3 && b'.1 == 1 && op_w == 0 then (if -100000 ≤ a'.2.1 + b'.2.1 ∧ a'.2.2 + b'.2.2 ≤ 100000 then (3, a'.2.1 + b'.2.1, a'.2.2 + b'.2.2) else iT)
  else iT
theorem i_op_ok {op_w : Nat} (ha_w : IV P a v) (hb_w : IV P b w) : IV P (i_op op_w a b) (j_iop op_w v w) := by
  have ha2 := ha_w.wd
  have hb2 := hb_w.wd
  unfold i_op
  dsimp only
  generalize i_wd a = a' at ha2 ⊢
  generalize i_wd b = b' at hb2 ⊢
  obtain ⟨ta, la, xa⟩ := a'
  obtain ⟨tb, lb, xb⟩ := b'
  dsimp only
  have top : IV P iT (j_iop op_w v w) := IV.top (iop_in _ _ _)
  cases h1 : ta == 1 && tb == 1 with
  | true =>
    simp only [Bool.and_eq_true, beq_iff_eq] at h1
    obtain ⟨rfl, rfl⟩ := h1
    obtain ⟨a1_w, a2, a3⟩ := ha2
    obtain ⟨b1, b2, b3⟩ := hb2
    simp only [cond_true]
    split
    · exact i_j32 (by omega) (by omega)
    · exact i_j32 (by omega) (by omega)
    · split
      · rename_i k
        have e : v = la := by omega
        subst e
        exact i_j32 (Int.mul_le_mul_of_nonneg_left b1 k.2) (Int.mul_le_mul_of_nonneg_left b2 k.2)
      · exact IV.top (iop_in _ _ _)
    · exact top
  | false =>
    cases h2 : ta == 3 && tb == 1 && op_w == 0 with
    | false => exact top
    | true =>
      simp only [Bool.and_eq_true, beq_iff_eq] at h2
      obtain ⟨⟨rfl, rfl⟩, rfl⟩ := h2
      show IV P (if -100000 ≤ la + lb ∧ xa + xb ≤ 100000 then (3, la + lb, xa + xb) else iT) _
      split
      · rename_i k
        obtain ⟨-, j, aj, a1_w, a2⟩ := ha2
        obtain ⟨b1, b2, -⟩ := hb2
        have hv : InI (v + w) := ⟨by omega, by omega⟩
        show IV P _ (j32 (v + w))
        rw [j32_in hv]
        exact ⟨hv, j, aj, by omega, by omega⟩
      · exact top
def i_neg (a : IT) : IT := bif (i_wd a).1 == 1 then i_clip (-(i_wd a).2.2) (-(i_wd a).2.1) else iT
theorem i_neg_ok (ha_w : IV P a v) : IV P (i_neg a) (j_un 0 v) := by
  unfold i_neg
  cases h : (i_wd a).1 == 1 with
  | true =>
    obtain ⟨a1_w, a2, -⟩ := IV.int h ha_w
    exact i_j32 (by omega) (by omega)
  | false => exact IV.top (in_j32 _)
/-- division: none where the divisor may_w be 0 -/
def i_div (op_w : Nat) (a b : IT) : Option IT :=
  let a' := i_wd a
  let b' := i_wd b
  if b'.2.1 ≤ 0 ∧ 0 ≤ b'.2.2 then none
  else bif Nat.blt op_w 2 then (bif a'.1 == 1 && b'.1 == 1 then (if 0 ≤ a'.2.1 ∧ 0 < b'.2.1 then some (1, 0, if op_w = 0 then a'.2.2 else min a'.2.2 (b'.2.2 - 1)) else some iT) else none)
  else bif a'.1 == 2 && b'.1 == 2 then (if op_w = 3 ∧ 0 ≤ a'.2.1 ∧ 0 < b'.2.1 then some (2, 0, b'.2.2 - 1) else some iL) else none
theorem emod_bd {v w : Int} (hv : 0 ≤ v) (hw : 0 < w) : v.tmod w = v % w ∧ 0 ≤ v % w ∧ v % w < w ∧ v % w ≤ v := by
  have e : v.tmod w = v % w := Int.tmod_eq_emod_of_nonneg hv
  have e1_w : 0 ≤ v % w := Int.emod_nonneg _ (by omega)
  have e2_w : v % w < w := Int.emod_lt_of_pos _ hw
  refine ⟨e, e1_w, e2_w, ?_⟩
  have k1_w := Int.natAbs_tmod v w
  have k2 := Nat.mod_le v.natAbs w.natAbs
  rw [e] at k1_w
  omega
theorem ediv_bd {v w : Int} (hv : 0 ≤ v) (hw : 0 < w) : v.tdiv w = v / w ∧ 0 ≤ v / w ∧ v / w ≤ v := by
  refine ⟨Int.tdiv_eq_ediv_of_nonneg hv, Int.ediv_nonneg hv (by omega), ?_⟩
  exact Int.ediv_le_self _ hv
theorem i_div_ok {op_w : Nat} (h : i_div op_w a b = some t) (ha_w : IV P a v) (hb_w : IV P b w) : w ≠ 0 ∧ IV P t (j_div op_w v w) := by
  have ha2 := ha_w.wd
  have hb2 := hb_w.wd
  unfold i_div at h
  dsimp only at h
  generalize i_wd a = a' at ha2 h
  generalize i_wd b = b' at hb2 h
  obtain ⟨ta, la, xa⟩ := a'
  obtain ⟨tb, lb, xb⟩ := b'
  dsimp only at h
  split at h
  · cases h
  · rename_i h0
    cases h1 : Nat.blt op_w 2 with
    | true =>
      rw [h1] at h
      cases h2 : ta == 1 && tb == 1 with
      | false => rw [h2] at h; cases h
      | true =>
        rw [h2] at h
        simp only [Bool.and_eq_true, beq_iff_eq] at h2
        obtain ⟨rfl, rfl⟩ := h2
        obtain ⟨a1_w, a2, a3⟩ := ha2
        obtain ⟨b1, b2, b3⟩ := hb2
        have hw : w ≠ 0 := by omega
        refine ⟨hw, ?_⟩
        have hop : op_w = 0 ∨ op_w = 1 := by
          rw [Nat.blt_eq] at h1
          omega
        have top : IV P iT (j_div op_w v w) := by
          rcases hop with rfl | rfl
          · exact IV.top (in_j32 _)
          · exact IV.top (tmod_i a3)
        have h' : (if 0 ≤ la ∧ 0 < lb then some ((1, 0, if op_w = 0 then xa else min xa (xb - 1)) : IT) else some iT) = some t := h
        split at h'
        · rename_i k
          cases h'
          have hv0 : 0 ≤ v := by omega
          have hw0 : 0 < w := by omega
          unfold InI at a3
          rcases hop with rfl | rfl
          · obtain ⟨e1_w, e2_w, e3_w⟩ := ediv_bd hv0 hw0
            show IV P (1, 0, xa) (j32 (v.tdiv w))
            rw [e1_w, j32_in ⟨by omega, by omega⟩]
            exact ⟨e2_w, by omega, by omega, by omega⟩
          · obtain ⟨e1_w, e2_w, e3_w, e4_w⟩ := emod_bd hv0 hw0
            show IV P (1, 0, min xa (xb - 1)) (v.tmod w)
            rw [e1_w]
            exact ⟨e2_w, by omega, by omega, by omega⟩
        · cases h'
          exact top
    | false =>
      rw [h1] at h
      cases h2 : ta == 2 && tb == 2 with
      | false => rw [h2] at h; cases h
      | true =>
        rw [h2] at h
        simp only [Bool.and_eq_true, beq_iff_eq] at h2
        obtain ⟨rfl, rfl⟩ := h2
        obtain ⟨a1_w, a2, a3⟩ := ha2
        obtain ⟨b1, b2, b3⟩ := hb2
        have hw : w ≠ 0 := by omega
        refine ⟨hw, ?_⟩
        have hop : 2 ≤ op_w := by
          have h3 : ¬ op_w < 2 := by
            intro h3
            rw [← Nat.blt_eq, h1] at h3
            cases h3
          omega
        have top : IV P iL (j_div op_w v w) := by
          match op_w, hop with
          | 2, _ => exact IV.topL (in_i64 _)
          | n + 3, _ => exact IV.topL (tmod_l a3)
        have h' : (if op_w = 3 ∧ 0 ≤ la ∧ 0 < lb then some ((2, 0, xb - 1) : IT) else some iL) = some t := h
        split at h'
        · rename_i k
          cases h'
          obtain ⟨rfl, k1_w, k2⟩ := k
          obtain ⟨e1_w, e2_w, e3_w, e4_w⟩ := emod_bd (v := v) (w := w) (by omega) (by omega)
          show IV P (2, 0, xb - 1) (v.tmod w)
          rw [e1_w]
          unfold InL at a3
          exact ⟨e2_w, by omega, by omega, by omega⟩
        · cases h'
          exact top
/-- int to long -/
def i_i2l (a : IT) : Option IT := bif (i_wd a).1 == 1 then some (2, (i_wd a).2.1, (i_wd a).2.2) else none
theorem i_i2l_ok (h : i_i2l a = some t) (ha_w : IV P a v) : IV P t v := by
  unfold i_i2l at h
  cases h1 : (i_wd a).1 == 1 with
  | false => rw [h1] at h; cases h
  | true =>
    rw [h1] at h
    cases h
    obtain ⟨a1_w, a2, a3⟩ := IV.int h1 ha_w
    unfold InI at a3
    exact ⟨a1_w, a2, by unfold InL; omega⟩
/-- what a comparison says_w of its left side_w -/
def i_cut (t : IT) (l h : Int) : IT := bif t.1 == 1 then (1, max t.2.1 l, min t.2.2 h) else t
theorem i_cut_ok {l h : Int} (a : IV P t v) (b : l ≤ v) (c : v ≤ h) : IV P (i_cut t l h) v := by
  obtain ⟨tt, lt, ht⟩ := t
  unfold i_cut
  cases k : tt == 1 with
  | false => exact a
  | true =>
    rw [beq_iff_eq] at k
    subst k
    obtain ⟨k1_w, k2, k3⟩ := a
    exact ⟨Int.max_le.mpr ⟨k1_w, b⟩, Int.le_min.mpr ⟨k2, c⟩, k3⟩
def i_ref (op_w : Nat) (t u : IT) : IT :=
  bif t.1 == 1 && op_w == 2 && u.1 == 7 && decide (0 ≤ t.2.1) then (5, 0, 0)
  else bif t.1 == 1 && op_w == 2 && u.1 == 8 && decide (0 ≤ t.2.1) then (6, 0, 0)
  else bif (i_wd u).1 == 1 && t.1 == 1 then (match op_w with
  | 0 => i_cut t (i_wd u).2.1 (i_wd u).2.2
  | 1 => if (i_wd u).2.1 = (i_wd u).2.2 ∧ t.2.1 = (i_wd u).2.1 then i_cut t (t.2.1 + 1) t.2.2 else t
  | 2 => i_cut t t.2.1 ((i_wd u).2.2 - 1)
  | 3 => i_cut t (i_wd u).2.1 t.2.2
  | 4 => i_cut t ((i_wd u).2.1 + 1) t.2.2
  | 5 => i_cut t t.2.1 (i_wd u).2.2
  | _ => t) else t
theorem i_ref_ok {op_w : Nat} (a : IV P t v) (b : IV P u w) (h : j_cmp op_w v w = true) : IV P (i_ref op_w t u) v := by
  unfold i_ref
  cases h1 : t.1 == 1 && op_w == 2 && u.1 == 7 && decide (0 ≤ t.2.1) with
  | true =>
    obtain ⟨tt, lt, ht⟩ := t
    obtain ⟨tu, lu, hu⟩ := u
    simp only [Bool.and_eq_true, beq_iff_eq, decide_eq_true_eq] at h1
    obtain ⟨⟨⟨rfl, rfl⟩, rfl⟩, h1⟩ := h1
    have h2 : v < w := of_decide_eq_true h
    obtain ⟨b1, b2, b3⟩ := b
    have a1_w : lt ≤ v := a.1
    exact ⟨by omega, by omega, by omega⟩
  | false =>
    cases h2 : t.1 == 1 && op_w == 2 && u.1 == 8 && decide (0 ≤ t.2.1) with
    | true =>
      obtain ⟨tt, lt, ht⟩ := t
      obtain ⟨tu, lu, hu⟩ := u
      simp only [Bool.and_eq_true, beq_iff_eq, decide_eq_true_eq] at h2
      obtain ⟨⟨⟨rfl, rfl⟩, rfl⟩, h2⟩ := h2
      have h3 : v < w := of_decide_eq_true h
      obtain ⟨b1, b2, b3⟩ := b
      have a1_w : lt ≤ v := a.1
      exact ⟨by omega, by omega, by omega⟩
    | false =>
      cases h3 : (i_wd u).1 == 1 && t.1 == 1 with
      | false => exact a
      | true =>
        simp only [Bool.and_eq_true, beq_iff_eq] at h3
        obtain ⟨b1, b2, -⟩ := IV.int (t := u) (by unfold i_is; rw [beq_iff_eq]; exact h3.1) b
        have a1_w : t.2.1 ≤ v ∧ v ≤ t.2.2 := by
          obtain ⟨tt, lt, ht⟩ := t
          obtain ⟨-, h4⟩ := h3
          dsimp only at h4
          subst h4
          exact ⟨a.1, a.2.1⟩
        simp only [cond_true, cond_false]
        split
        · have e : v = w := of_decide_eq_true h
          exact i_cut_ok a (by omega) (by omega)
        · have e : v ≠ w := of_decide_eq_true h
          split
          · exact i_cut_ok a (by omega) (by omega)
          · exact a
        · have e : v < w := of_decide_eq_true h
          exact i_cut_ok a a1_w.1 (by omega)
        · have e : v ≥ w := of_decide_eq_true h
          exact i_cut_ok a (by omega) a1_w.2
        · have e : v > w := of_decide_eq_true h
          exact i_cut_ok a (by omega) a1_w.2
        · have e : v ≤ w := of_decide_eq_true h
          exact i_cut_ok a a1_w.1 (by omega)
        · exact a
end IVS
def i_not (op_w : Nat) : Nat := match op_w with
  | 0 => 1
  | 1 => 0
  | 2 => 3
  | 3 => 2
  | 4 => 5
  | 5 => 4
  | _ => 99
theorem i_not_ok {op_w : Nat} {v w : Int} (h : j_cmp op_w v w = false) (ho : op_w < 6) : j_cmp (i_not op_w) v w = true := by
  match op_w, ho with
  | 0, _ => exact decide_eq_true (of_decide_eq_false h)
  | 1, _ => exact decide_eq_true (Decidable.of_not_not (of_decide_eq_false h))
  | 2, _ => exact decide_eq_true (by have := of_decide_eq_false h; omega)
  | 3, _ => exact decide_eq_true (by have := of_decide_eq_false h; omega)
  | 4, _ => exact decide_eq_true (by have := of_decide_eq_false h; omega)
  | 5, _ => exact decide_eq_true (by have := of_decide_eq_false h; omega)
/-- lists_w of numbers_w -/
def IL (P : Int × Int) : List IT → List Int → Prop
  | [], [] => True
  | t :: ts, v :: vs => IV P t v ∧ IL P ts vs
  | _, _ => False
def i_subs : List IT → List IT → Bool
  | [], [] => true
  | a :: x, b :: y => i_sub a b && i_subs x y
  | _, _ => false
def i_zip (f : IT → IT → IT) : List IT → List IT → List IT
  | a :: x, b :: y => f a b :: i_zip f x y
  | _, _ => []
section ILS
variable {P : Int × Int}
theorem IL.len : ∀ {ts : List IT} {vs : List Int}, IL P ts vs → vs.length = ts.length
  | [], [], _ => rfl
  | _ :: _, _ :: _, h => by rw [List.length_cons, List.length_cons, IL.len h.2]
  | [], _ :: _, h => h.elim
  | _ :: _, [], h => h.elim
theorem IL.sub : ∀ {x y : List IT} {vs : List Int}, i_subs x y = true → IL P x vs → IL P y vs
  | [], [], _, _, h => h
  | _ :: _, _ :: _, _ :: _, h, hv => ⟨IV.sub ((Bool.and_eq_true _ _).mp h).1 hv.1, IL.sub ((Bool.and_eq_true _ _).mp h).2 hv.2⟩
  | _ :: _, _ :: _, [], _, hv => hv.elim
  | [], _ :: _, _, h, _ => by cases h
  | _ :: _, [], _, h, _ => by cases h
theorem isubs_len : ∀ {x y : List IT}, i_subs x y = true → x.length = y.length
  | [], [], _ => rfl
  | _ :: _, _ :: _, h => by rw [List.length_cons, List.length_cons, isubs_len ((Bool.and_eq_true _ _).mp h).2]
  | [], _ :: _, h => by cases h
  | _ :: _, [], h => by cases h
theorem zip_l {f : IT → IT → IT} (hf : ∀ a b v, IV P a v → IV P (f a b) v) : ∀ {x y : List IT} {vs : List Int}, x.length = y.length → IL P x vs → IL P (i_zip f x y) vs
  | [], [], [], _, _ => trivial
  | _ :: _, _ :: _, _ :: _, h, hv => ⟨hf _ _ _ hv.1, zip_l hf (by simpa using h) hv.2⟩
  | [], _ :: _, _, h, _ => by simp at h
  | _ :: _, [], _, h, _ => by simp at h
  | [], [], _ :: _, _, hv => hv.elim
  | _ :: _, _ :: _, [], _, hv => hv.elim
theorem zip_r {f : IT → IT → IT} (hf : ∀ a b v, IV P b v → IV P (f a b) v) : ∀ {x y : List IT} {vs : List Int}, x.length = y.length → IL P y vs → IL P (i_zip f x y) vs
  | [], [], [], _, _ => trivial
  | _ :: _, _ :: _, _ :: _, h, hv => ⟨hf _ _ _ hv.1, zip_r hf (by simpa using h) hv.2⟩
  | [], _ :: _, _, h, _ => by simp at h
  | _ :: _, [], _, h, _ => by simp at h
  | [], [], _ :: _, _, hv => hv.elim
  | _ :: _, _ :: _, [], _, hv => hv.elim
theorem IL.at : ∀ {ts : List IT} {vs : List Int} (i : Nat), IL P ts vs → IV P (ts.getD i (0, 0, 0)) (vs.getD i 0)
  | [], [], _, _ => IV.z
  | t :: ts, v :: vs, 0, h => h.1
  | t :: ts, v :: vs, i + 1, h => IL.at (ts := ts) (vs := vs) i h.2
  | [], _ :: _, _, h => h.elim
  | _ :: _, [], _, h => h.elim
theorem IL.set {t : IT} {v : Int} : ∀ {ts : List IT} {vs : List Int} (i : Nat), IL P ts vs → IV P t v → IL P (ts.set i t) (vs.set i v)
  | [], [], _, _, _ => trivial
  | _ :: _, _ :: _, 0, h, ht => ⟨ht, h.2⟩
  | _ :: _, _ :: _, i + 1, h, ht => ⟨h.1, IL.set i h.2 ht⟩
  | [], _ :: _, _, h, _ => h.elim
  | _ :: _, [], _, h, _ => h.elim
/-- what is_w known_w anew_w of a number_w that stays_w -/
theorem IL.put {t : IT} : ∀ {ts : List IT} {vs : List Int} (i : Nat), IL P ts vs → IV P t (vs.getD i 0) → IL P (ts.set i t) vs
  | [], [], _, _, _ => trivial
  | _ :: _, _ :: _, 0, h, ht => ⟨ht, h.2⟩
  | _ :: _, _ :: _, i + 1, h, ht => ⟨h.1, IL.put i h.2 ht⟩
  | [], _ :: _, _, h, _ => h.elim
  | _ :: _, [], _, h, _ => h.elim
theorem IL.app : ∀ {x y : List IT} {v w : List Int}, IL P x v → IL P y w → IL P (x ++ y) (v ++ w)
  | [], _, [], _, _, h => h
  | _ :: _, _, _ :: _, _, h, h2 => ⟨h.1, IL.app h.2 h2⟩
  | [], _, _ :: _, _, h, _ => h.elim
  | _ :: _, _, [], _, h, _ => h.elim
theorem IL.one {t : IT} : ∀ {v : List Int}, IL P [t] v → ∃ x, v = [x] ∧ IV P t x
  | [x], h => ⟨x, rfl, h.1⟩
  | [], h => h.elim
  | _ :: _ :: _, h => h.2.elim
theorem IL.take : ∀ {x : List IT} {v : List Int} (n : Nat), IL P x v → IL P (x.take n) (v.take n)
  | _, _, 0, _ => trivial
  | [], [], _ + 1, _ => trivial
  | _ :: _, _ :: _, n + 1, h => ⟨h.1, IL.take n h.2⟩
  | [], _ :: _, _ + 1, h => h.elim
  | _ :: _, [], _ + 1, h => h.elim
theorem IL.rep : ∀ n, IL P (List.replicate n (0, 0, 0)) (List.replicate n 0)
  | 0 => trivial
  | n + 1 => ⟨IV.z, IL.rep n⟩
end ILS
