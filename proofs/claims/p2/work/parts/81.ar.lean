/-! ===== the fourth reading: arrays by regions ===== -/
/-- an array: its length, the length of its blocks (0: none), its regions (in a block) with what lies there -/
abbrev RG : Type := Nat × Nat × List (Nat × Nat × IT)
def AInv (P : Int × Int) (a : RG) (f : Nat → Int) : Prop := ∀ r, r ∈ a.2.2 → ∀ i j : Nat, r.1 ≤ i → i < r.2.1 → j < 12 → IV P r.2.2 (f (a.2.1 * j + i))
def ar_cov (a : RG) : Bool := (List.range (if a.2.1 = 0 then a.1 else a.2.1)).all fun i => a.2.2.any fun r => decide (r.1 ≤ i) && decide (i < r.2.1)
def ar_hit (a : RG) (l h : Int) : List IT := (a.2.2.filter fun r => decide ((r.1 : Int) ≤ h) && decide (l < (r.2.1 : Int))).map (·.2.2)
def i_lubL : List IT → IT
  | [] => (0, 0, 0)
  | [t] => t
  | t :: u :: ts => i_lub t (i_lubL (u :: ts))
section ARS
variable {P : Int × Int} {a : RG}
theorem lubL_ok {v : Int} {t : IT} (hv : IV P t v) : ∀ {l : List IT}, t ∈ l → IV P (i_lubL l) v
  | [], h => (by cases h)
  | [u], h => by
    rw [List.mem_singleton] at h
    subst h
    exact hv
  | u :: w :: ts, h => by
    rcases List.mem_cons.mp h with rfl | h
    · exact ilub_l hv
    · exact ilub_r (lubL_ok hv h)
theorem ar_find (hc : ar_cov a = true) {i : Nat} (hi : i < (if a.2.1 = 0 then a.1 else a.2.1)) : ∃ r, r ∈ a.2.2 ∧ r.1 ≤ i ∧ i < r.2.1 := by
  have h := List.all_eq_true.mp hc i (List.mem_range.mpr hi)
  obtain ⟨r, hr, h2⟩ := List.any_eq_true.mp h
  simp only [Bool.and_eq_true, decide_eq_true_eq] at h2
  exact ⟨r, hr, h2⟩
theorem hit_mem {l h : Int} {r : Nat × Nat × IT} (hr : r ∈ a.2.2) {i : Nat} (h1 : r.1 ≤ i) (h2 : i < r.2.1) (h3 : l ≤ (i : Int)) (h4 : (i : Int) ≤ h) : r.2.2 ∈ ar_hit a l h := by
  refine List.mem_map.mpr ⟨r, List.mem_filter.mpr ⟨hr, ?_⟩, rfl⟩
  simp only [Bool.and_eq_true, decide_eq_true_eq]
  omega
/-- a cell of a block -/
theorem ar_at {f : Nat → Int} (ha : AInv P a f) (hc : ar_cov a = true) {l h : Int} {i j : Nat} (hi : i < (if a.2.1 = 0 then a.1 else a.2.1)) (hj : j < 12) (h3 : l ≤ (i : Int)) (h4 : (i : Int) ≤ h) : IV P (i_lubL (ar_hit a l h)) (f (a.2.1 * j + i)) := by
  obtain ⟨r, hr, k1, k2⟩ := ar_find hc hi
  exact lubL_ok (ha r hr i j k1 k2 hj) (hit_mem hr k1 k2 h3 h4)
/-- the kind that a load has, if its place is in the array -/
def ar_ld0 (a : RG) (t : IT) : Option IT :=
  if t.1 = 1 ∧ 0 ≤ t.2.1 ∧ t.2.2 < a.1 then
    if a.2.1 = 0 then some (i_lubL (ar_hit a t.2.1 t.2.2))
    else if t.2.1 / a.2.1 = t.2.2 / a.2.1 ∧ a.1 ≤ 12 * a.2.1 then some (i_lubL (ar_hit a (t.2.1 % a.2.1) (t.2.2 % a.2.1))) else none
  else if t.1 = 3 ∧ a.2.1 = 429 ∧ a.1 = 5148 ∧ 0 ≤ t.2.1 ∧ t.2.2 < 429 then some (i_lubL (ar_hit a t.2.1 t.2.2)) else none
def ar_ld (a : RG) (t : IT) : Option IT := ar_ld0 a (i_wd t)
/-- where a place within lies: its block, its place there -/
theorem ar_place {t : IT} {u : IT} {v : Int} (h : ar_ld0 a t = some u) (hv : IV P t v) : 0 ≤ v ∧ v < a.1 ∧ ∃ (i j : Nat) (l x : Int), j < 12 ∧ v.toNat = a.2.1 * j + i ∧ i < (if a.2.1 = 0 then a.1 else a.2.1) ∧ l ≤ (i : Int) ∧ (i : Int) ≤ x ∧ u = i_lubL (ar_hit a l x) ∧
    ((t.1 = 1 ∧ a.2.1 = 0 ∧ l = t.2.1 ∧ x = t.2.2) ∨ (t.1 = 1 ∧ a.2.1 ≠ 0 ∧ l = t.2.1 % a.2.1 ∧ x = t.2.2 % a.2.1) ∨ (t.1 = 3 ∧ l = t.2.1 ∧ x = t.2.2)) := by
  obtain ⟨tt, lt, ht⟩ := t
  unfold ar_ld0 at h
  dsimp only at h ⊢
  split at h
  · rename_i k
    obtain ⟨rfl, k1, k2⟩ := k
    obtain ⟨v1, v2, -⟩ := hv
    have e : v = (v.toNat : Int) := by omega
    refine ⟨by omega, by omega, ?_⟩
    split at h
    · rename_i hp
      cases h
      exact ⟨v.toNat, 0, lt, ht, by decide, by rw [hp]; omega, by rw [if_pos hp]; omega, by omega, by omega, rfl, Or.inl ⟨rfl, hp, rfl, rfl⟩⟩
    · rename_i hp
      split at h
      · rename_i k
        cases h
        have hp0 : (0 : Int) < a.2.1 := by omega
        have q1 : lt / (a.2.1 : Int) ≤ v / a.2.1 := Int.ediv_le_ediv hp0 v1
        have q2 : v / (a.2.1 : Int) ≤ ht / a.2.1 := Int.ediv_le_ediv hp0 v2
        have q3 : v / (a.2.1 : Int) = lt / a.2.1 := by omega
        have m1 := Int.mul_ediv_add_emod v a.2.1
        have m2 := Int.mul_ediv_add_emod lt a.2.1
        have m3 := Int.mul_ediv_add_emod ht a.2.1
        rw [← k.1] at m3
        rw [q3] at m1
        have n1 : v.toNat = a.2.1 * (v.toNat / a.2.1) + v.toNat % a.2.1 := (Nat.div_add_mod _ _).symm
        have n2 : ((v.toNat % a.2.1 : Nat) : Int) = v % a.2.1 := by rw [Int.natCast_emod, ← e]
        have n3 : v.toNat % a.2.1 < a.2.1 := Nat.mod_lt _ (by omega)
        have n4 : v.toNat / a.2.1 < 12 := (Nat.div_lt_iff_lt_mul (by omega)).mpr (by omega)
        exact ⟨v.toNat % a.2.1, v.toNat / a.2.1, lt % a.2.1, ht % a.2.1, n4, n1, by rw [if_neg hp]; exact n3, by omega, by omega, rfl, Or.inr (Or.inl ⟨rfl, hp, rfl, rfl⟩)⟩
      · cases h
  · split at h
    · rename_i k
      cases h
      obtain ⟨rfl, kp, kl, k1, k2⟩ := k
      obtain ⟨-, j, hj, v1, v2⟩ := hv
      refine ⟨by omega, by omega, (v - 429 * (j : Int)).toNat, j, lt, ht, hj, by rw [kp]; omega, by rw [if_neg (by omega), kp]; omega, by omega, by omega, rfl, Or.inr (Or.inr ⟨rfl, rfl, rfl⟩)⟩
    · cases h
theorem ar_ld_ok {f : Nat → Int} (ha : AInv P a f) (hc : ar_cov a = true) {t u : IT} {v : Int} (h : ar_ld a t = some u) (hv : IV P t v) : 0 ≤ v ∧ v < a.1 ∧ IV P u (f v.toNat) := by
  obtain ⟨p1, p2, i, j, l, x, hj, e, hi, h1, h2, rfl, -⟩ := ar_place h hv.wd
  refine ⟨p1, p2, ?_⟩
  rw [e]
  exact ar_at ha hc hi hj h1 h2
/-- a store keeps an array, if what is stored fits all regions that it may hit -/
def ar_st (a : RG) (t w : IT) : Bool := (match ar_ld a t with
  | some _ => true
  | none => false) && a.2.2.all fun r => i_sub w r.2.2 || (if (i_wd t).1 = 1 ∧ a.2.1 ≠ 0 then decide ((i_wd t).2.2 % a.2.1 < (r.1 : Int)) || decide ((r.2.1 : Int) ≤ (i_wd t).2.1 % a.2.1)
    else decide ((i_wd t).2.2 < (r.1 : Int)) || decide ((r.2.1 : Int) ≤ (i_wd t).2.1))
/-- regions end within their block -/
def ar_ok (a : RG) : Bool := a.2.2.all fun r => Nat.ble r.2.1 (if a.2.1 = 0 then a.1 else a.2.1)
theorem ar_st_ok {f g : Nat → Int} (ha : AInv P a f) (hok : ar_ok a = true) {t w : IT} {v x : Int} (h : ar_st a t w = true) (hv : IV P t v) (hx : IV P w x) (hg : ∀ i, g i = if i = v.toNat then x else f i) : AInv P a g := by
  rw [ar_st, Bool.and_eq_true] at h
  obtain ⟨h0, h1⟩ := h
  cases hl : ar_ld a t with
  | none => rw [hl] at h0; cases h0
  | some u =>
    obtain ⟨p1, p2, i0, j0, l, y, hj0, e0, hi0, q1, q2, -, q3⟩ := ar_place hl hv.wd
    intro r hr i j k1 k2 hj
    rw [hg]
    split
    · rename_i e
      have h2 := List.all_eq_true.mp h1 r hr
      rw [Bool.or_eq_true] at h2
      rcases h2 with h2 | h2
      · exact IV.sub h2 hx
      · exfalso
        have hr2 := List.all_eq_true.mp hok r hr
        rw [Nat.ble_eq] at hr2
        have hi : i = i0 := by
          rw [e0] at e
          by_cases hp : a.2.1 = 0
          · rw [hp, Nat.zero_mul, Nat.zero_mul] at e
            omega
          · rw [if_neg hp] at hi0 hr2
            have e1 : (a.2.1 * j0 + i0) % a.2.1 = (a.2.1 * j + i) % a.2.1 := by rw [e]
            rw [Nat.mul_add_mod, Nat.mul_add_mod, Nat.mod_eq_of_lt hi0, Nat.mod_eq_of_lt (show i < a.2.1 by omega)] at e1
            exact e1.symm
        subst hi
        rcases q3 with ⟨z1, z2, rfl, rfl⟩ | ⟨z1, z2, rfl, rfl⟩ | ⟨z1, rfl, rfl⟩
        · rw [if_neg (by omega)] at h2
          simp only [Bool.or_eq_true, decide_eq_true_eq] at h2
          omega
        · rw [if_pos ⟨z1, z2⟩] at h2
          simp only [Bool.or_eq_true, decide_eq_true_eq] at h2
          omega
        · rw [if_neg (by omega)] at h2
          simp only [Bool.or_eq_true, decide_eq_true_eq] at h2
          omega
    · exact ha r hr i j k1 k2 hj
end ARS
