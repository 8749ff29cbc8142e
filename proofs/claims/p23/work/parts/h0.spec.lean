/-! ===== what a settlement is_w (pure) ===== -/
def sumN (f : Nat → Int) : Nat → Int
  | 0 => 0
  | k + 1 => sumN f k + f k
/-- the last_w of the first places_w that is_w read; none: -1 -/
def lastR (r : Nat → Int) : Nat → Int
  | 0 => -1
  | k + 1 => if r k = -1 then lastR r k else (k : Int)
/-- the first of so many_w places_w from one on_w that is_w read; none: -1 -/
def nextR (r : Nat → Int) : Nat → Nat → Int
  | 0, _ => -1
  | n + 1, p => if r p = -1 then nextR r n (p + 1) else (p : Int)
def lssD (D : DD) (c : Nat) : Int := ((D.2.2.1[c]?).map (·.2.1)).getD 0
def prfD (D : DD) (c : Nat) : List Int := ((D.2.2.1[c]?).map (·.2.2)).getD []
def kndD (D : DD) (m : Nat) : Int := ((D.2.2.2.2.1[m]?).map (fun x : Int × Int × Int × Int => x.2.1)).getD 0
def grpD (D : DD) (m : Nat) : Nat := (((D.2.2.2.2.1[m]?).map (fun x : Int × Int × Int × Int => x.2.2.1)).getD 0).toNat
def nC (D : DD) : Nat := D.2.2.1.length
def nU (D : DD) : Nat := D.2.2.2.1.length
def advS (a b : Int) : Int := if b - a < 0 then b - a + 10000 else b - a
/-- of what a register advanced from i to j, what lies ahead_w of k -/
def cutS (f : List Int) (r : Nat → Int) (i j k : Nat) : Int := if upT f j - upT f i = 0 then advS (r i) (r j) * ((k : Int) - (i : Int)) / ((j : Int) - (i : Int)) else advS (r i) (r j) * (upT f k - upT f i) / (upT f j - upT f i)
/-- what a meter used_w in a slot_w, by what it said_w -/
def useS (D : DD) (r : Nat → Int) (m s : Nat) : Int := if lastR r (s + 1) = -1 then 0 else if kndD D m ≠ 1 then (if kndD D m = 3 then -(r (lastR r (s + 1)).toNat) else r (lastR r (s + 1)).toNat) else if nextR r (nS D - s) (s + 1) = -1 then 0 else cutS (prfD D (grpD D m)) r (lastR r (s + 1)).toNat (nextR r (nS D - s) (s + 1)).toNat (s + 1) - cutS (prfD D (grpD D m)) r (lastR r (s + 1)).toNat (nextR r (nS D - s) (s + 1)).toNat s
def groS (D : DD) (r : Nat → Int) (m s : Nat) : Int := (useS D r m s * (1000 + lssD D (grpD D m))).tdiv 1000
def absS (x : Int) : Int := if x < 0 then -x else x
section SETT
variable (D : DD) (a : Nat → Int) (s : Nat)
def rdA (m : Nat) : Nat → Int := fun p => a (13 * m + p)
def gA (m : Nat) : Int := groS D (rdA a m) m s
def resA : Int := a (150 + s) - sumN (gA D a s) (nM D)
end SETT
/-- what a grid that was told_w can_w be -/
def gdX (x : Int) : Prop := x % 16 = 1 ∨ x = 2 ∨ x = 18 ∨ x = 34 ∨ x = 50 ∨ (3 ≤ x ∧ x ≤ 10)
def WFD (D : DD) : Prop := (0 ≤ D.1 ∧ D.1 ≤ 12 ∧ D.2.2.1.length ≤ 4 ∧ D.2.2.2.1.length ≤ 4 ∧ D.2.2.2.2.1.length ≤ 6) ∧ (∀ x ∈ D.2.2.1, 0 ≤ x.2.1 ∧ x.2.1 ≤ 999 ∧ 1 ≤ x.2.2.length ∧ x.2.2.length ≤ 12 ∧ ∀ v ∈ x.2.2, 0 ≤ v ∧ v ≤ 99) ∧ (∀ x ∈ D.2.2.2.2.1, (0 ≤ x.2.2.1 ∧ x.2.2.1 < (D.2.2.1.length : Int)) ∧ (0 ≤ x.2.2.2 ∧ x.2.2.2 < (D.2.2.2.1.length : Int)) ∧ 0 ≤ x.2.1 ∧ x.2.1 ≤ 3) ∧ ∀ l, D.2.2.2.2.2 = some l → ∀ x ∈ l, gdX x
section SUMS
variable {f g : Nat → Int} {n k : Nat} {B : Int}
theorem lastR_b {r : Nat → Int} : ∀ k, lastR r k = -1 ∨ (0 ≤ lastR r k ∧ lastR r k < (k : Int) ∧ r (lastR r k).toNat ≠ -1)
  | 0 => Or.inl rfl
  | k + 1 => by
    by_cases y : r k = -1
    · rw [lastR, if_pos y]
      rcases lastR_b (r := r) k with e | ⟨e1_w, e2_w, e3_w⟩
      · exact Or.inl e
      · exact Or.inr ⟨e1_w, by omega, e3_w⟩
    · rw [lastR, if_neg y]
      exact Or.inr ⟨by omega, by omega, y⟩
theorem nextR_b {r : Nat → Int} : ∀ n p, nextR r n p = -1 ∨ ((p : Int) ≤ nextR r n p ∧ nextR r n p < ((p + n : Nat) : Int) ∧ r (nextR r n p).toNat ≠ -1)
  | 0, _ => Or.inl rfl
  | n + 1, p => by
    by_cases y : r p = -1
    · rw [nextR, if_pos y]
      rcases nextR_b (r := r) n (p + 1) with e | ⟨e1_w, e2_w, e3_w⟩
      · exact Or.inl e
      · exact Or.inr ⟨by omega, by omega, e3_w⟩
    · rw [nextR, if_neg y]
      exact Or.inr ⟨by omega, by omega, y⟩
theorem lastR_cg {r q : Nat → Int} : ∀ k, (∀ i, i < k → r i = q i) → lastR r k = lastR q k
  | 0, _ => rfl
  | k + 1, z => by rw [lastR, lastR, lastR_cg k (fun i y => z i (by omega)), z k (Nat.lt_succ_self k)]
theorem nextR_cg {r q : Nat → Int} : ∀ n p, (∀ i, p ≤ i → i < p + n → r i = q i) → nextR r n p = nextR q n p
  | 0, _, _ => rfl
  | n + 1, p, z => by rw [nextR, nextR, nextR_cg n (p + 1) (fun i y w => z i (by omega) (by omega)), z p (Nat.le_refl p) (by omega)]
end SUMS
section CUTS
variable {f : List Int} {r : Nat → Int} {i j k : Nat}
theorem upT_st (hf : ∀ v ∈ f, 0 ≤ v ∧ v ≤ 99) (q : Nat) : 0 ≤ f.getD (q % f.length) 0 ∧ f.getD (q % f.length) 0 ≤ 99 := by
  rw [List.getD_eq_getElem?_getD]
  cases e : f[q % f.length]? with
  | none => exact ⟨by decide, by decide⟩
  | some v => exact hf v (List.mem_of_getElem? e)
theorem upT_mo (hf : ∀ v ∈ f, 0 ≤ v ∧ v ≤ 99) : ∀ d i, upT f i ≤ upT f (i + d) ∧ upT f (i + d) ≤ upT f i + 99 * (d : Int)
  | 0, i => by
    rw [Nat.add_zero]
    omega
  | d + 1, i => by
    obtain ⟨a, b⟩ := upT_mo hf d i
    obtain ⟨c, e⟩ := upT_st hf (i + d)
    rw [show i + (d + 1) = (i + d) + 1 from rfl, upT]
    omega
theorem upT_nn (hf : ∀ v ∈ f, 0 ≤ v ∧ v ≤ 99) (q : Nat) : 0 ≤ upT f q ∧ upT f q ≤ 99 * (q : Int) := by
  have := upT_mo hf q 0
  rw [Nat.zero_add] at this
  have e : upT f 0 = 0 := rfl
  omega
theorem advS_b {a b : Int} (ha_w : 0 ≤ a ∧ a ≤ 9999) (hb_w : 0 ≤ b ∧ b ≤ 9999) : 0 ≤ advS a b ∧ advS a b ≤ 9999 := by
  unfold advS
  split <;> omega
/-- a part of a whole_w of what isn't below_w 0 -/
theorem part_b {x p w : Int} (hx : 0 ≤ x) (hp : 0 ≤ p) (hw : p ≤ w) (w0_w : 0 < w) : 0 ≤ x * p / w ∧ x * p / w ≤ x := by
  refine ⟨Int.ediv_nonneg (Int.mul_nonneg hx hp) (by omega), ?_⟩
  have e : x * p ≤ x * w := Int.mul_le_mul_of_nonneg_left hw hx
  have := Int.ediv_le_ediv w0_w e
  rw [Int.mul_ediv_cancel x (by omega)] at this
  exact this
theorem cutS_b (hf : ∀ v ∈ f, 0 ≤ v ∧ v ≤ 99) (hi_w : 0 ≤ r i ∧ r i ≤ 9999) (hj : 0 ≤ r j ∧ r j ≤ 9999) (h1 : i ≤ k) (h2 : k ≤ j) (h3 : i < j) : 0 ≤ cutS f r i j k ∧ cutS f r i j k ≤ 9999 := by
  obtain ⟨a0_w, a1_w⟩ := advS_b hi_w hj
  obtain ⟨u0, -⟩ := upT_mo hf (k - i) i
  obtain ⟨u1, -⟩ := upT_mo hf (j - k) k
  rw [show i + (k - i) = k by omega] at u0
  rw [show k + (j - k) = j by omega] at u1
  unfold cutS
  split
  · have := part_b a0_w (p := (k : Int) - (i : Int)) (w := (j : Int) - (i : Int)) (by omega) (by omega) (by omega)
    omega
  · have := part_b a0_w (p := upT f k - upT f i) (w := upT f j - upT f i) (by omega) (by omega) (by omega)
    omega
end CUTS
