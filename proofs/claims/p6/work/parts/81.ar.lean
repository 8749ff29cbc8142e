/-! ===== the fourth reading_w: arrays_w by regions ===== -/
/-- an array: its length_w, the length_w of its blocks_w (0: none), its regions (in a block_w) with what lies there_w -/
abbrev RG : Type := Nat × Nat × List (Nat × Nat × IT)
def AInv (P : Int × Int) (a : RG) (f : Nat → Int) : Prop := ∀ r, r ∈ a.2.2 → ∀ i j : Nat, r.1 ≤ i → i < r.2.1 → j < 12 → IV P r.2.2 (f (a.2.1 * j + i))
def ar_cov (a : RG) : Bool := (List.range (if a.2.1 = 0 then a.1 else a.2.1)).all fun i => a.2.2.any fun r => decide (r.1 ≤ i) && decide (i < r.2.1)
def ar_hit (a : RG) (l h : Int) : List IT := (a.2.2.filter fun r => decide ((r.1 : Int) ≤ h) && decide (l < (r.2.1 : Int))).map (·.2.2)
def i_lubL : List IT → IT
  | [] => (0, 0, 0)
  | [t] => t
  | t :: u :: ts => i_lub t (i_lubL (u :: ts))
section ARS
variable {P : Int × Int} {a : RG}
theorem lubL_ok {v : Int} {t : IT} (hv : IV P t v) : ∀ {l : List IT}, t ∈ l → IV P (i_lubL l) v
  | [], h => (by cases h)
  | [u], h => by
    rw [List.mem_singleton] at h
    subst h
    exact hv
  | u :: w :: ts, h => by
    rcases List.mem_cons.mp h with rfl | h
    · exact ilub_l hv
    · exact ilub_r (lubL_ok hv h)
theorem ar_find (hc_w : ar_cov a = true) {i : Nat} (hi_w : i < (if a.2.1 = 0 then a.1 else a.2.1)) : ∃ r, r ∈ a.2.2 ∧ r.1 ≤ i ∧ i < r.2.1 := by
  have h := List.all_eq_true.mp hc_w i (List.mem_range.mpr hi_w)
  obtain ⟨r, hr, h2⟩ := List.any_eq_true.mp h
  simp only [Bool.and_eq_true, decide_eq_true_eq] at h2
  exact ⟨r, hr, h2⟩
theorem hit_mem {l h : Int} {r : Nat × Nat × IT} (hr : r ∈ a.2.2) {i : Nat} (h1 : r.1 ≤ i) (h2 : i < r.2.1) (h3 : l ≤ (i : Int)) (h4 : (i : Int) ≤ h) : r.2.2 ∈ ar_hit a l h := by
  refine List.mem_map.mpr ⟨r, List.mem_filter.mpr ⟨hr, ?_⟩, rfl⟩
  simp only [Bool.and_eq_true, decide_eq_true_eq]
  omega
/-- a cell_w of a block_w -/
theorem ar_at {f : Nat → Int} (ha_w : AInv P a f) (hc_w : ar_cov a = true) {l h : Int} {i j : Nat} (hi_w : i < (if a.2.1 = 0 then a.1 else a.2.1)) (hj : j < 12) (h3 : l ≤ (i : Int)) (h4 : (i : Int) ≤ h) : IV P (i_lubL (ar_hit a l h)) (f (a.2.1 * j + i)) := by
  obtain ⟨r, hr, k1_w, k2⟩ := ar_find hc_w hi_w
  exact lubL_ok (ha_w r hr i j k1_w k2 hj) (hit_mem hr k1_w k2 h3 h4)
/-- the kind that a load_w has_w, if its place_w is_w in the array -/
def ar_ld0 (a : RG) (t : IT) : Option IT :=
  if t.1 = 1 ∧ 0 ≤ t.2.1 ∧ t.2.2 < a.1 then
    if a.2.1 = 0 then some (i_lubL (ar_hit a t.2.1 t.2.2))
    else if t.2.1 / a.2.1 = t.2.2 / a.2.1 ∧ a.1 ≤ 12 * a.2.1 then some (i_lubL (ar_hit a (t.2.1 % a.2.1) (t.2.2 % a.2.1))) else none
  else if t.1 = 3 ∧ a.2.1 = 429 ∧ a.1 = 5148 ∧ 0 ≤ t.2.1 ∧ t.2.2 < 429 then some (i_lubL (ar_hit a t.2.1 t.2.2)) else none
def ar_ld (a : RG) (t : IT) : Option IT := ar_ld0 a (i_wd t)
/-- where a place_w within_w lies: its block_w, its place_w there_w -/
theorem ar_place {t : IT} {u : IT} {v : Int} (h : ar_ld0 a t = some u) (hv : IV P t v) : 0 ≤ v ∧ v < a.1 ∧ ∃ (i j : Nat) (l x : Int), j < 12 ∧ v.toNat = a.2.1 * j + i ∧ i < (if a.2.1 = 0 then a.1 else a.2.1) ∧ l ≤ (i : Int) ∧ (i : Int) ≤ x ∧ u = i_lubL (ar_hit a l x) ∧
    ((t.1 = 1 ∧ a.2.1 = 0 ∧ l = t.2.1 ∧ x = t.2.2) ∨ (t.1 = 1 ∧ a.2.1 ≠ 0 ∧ l = t.2.1 % a.2.1 ∧ x = t.2.2 % a.2.1) ∨ (t.1 = 3 ∧ l = t.2.1 ∧ x = t.2.2)) := by
  obtain ⟨tt, lt, ht⟩ := t
  unfold ar_ld0 at h
  dsimp only at h ⊢
  split at h
  · rename_i k
    obtain ⟨rfl, k1_w, k2⟩ := k
    obtain ⟨v1_w, v2, -⟩ := hv
    have e : v = (v.toNat : Int) := by omega
    refine ⟨by omega, by omega, ?_⟩
    split at h
    · rename_i hp
      cases h
      exact ⟨v.toNat, 0, lt, ht, by decide, by rw [hp]; omega, by rw [if_pos hp]; omega, by omega, by omega, rfl, Or.inl ⟨rfl, hp, rfl, rfl⟩⟩
    · rename_i hp
      split at h
      · rename_i k
        cases h
        have hp0 : (0 : Int) < a.2.1 := by omega
        have q1_w : lt / (a.2.1 : Int) ≤ v / a.2.1 := Int.ediv_le_ediv hp0 v1_w
        have q2_w : v / (a.2.1 : Int) ≤ ht / a.2.1 := Int.ediv_le_ediv hp0 v2
        have q3_w : v / (a.2.1 : Int) = lt / a.2.1 := by omega
        have m1_w := Int.mul_ediv_add_emod v a.2.1
        have m2_w := Int.mul_ediv_add_emod lt a.2.1
        have m3_w := Int.mul_ediv_add_emod ht a.2.1
        rw [← k.1] at m3_w
        rw [q3_w] at m1_w
        have n1_w : v.toNat = a.2.1 * (v.toNat / a.2.1) + v.toNat % a.2.1 := (Nat.div_add_mod _ _).symm
        have n2_w : ((v.toNat % a.2.1 : Nat) : Int) = v % a.2.1 := by rw [Int.natCast_emod, ← e]
        have n3_w : v.toNat % a.2.1 < a.2.1 := Nat.mod_lt _ (by omega)
        have n4_w : v.toNat / a.2.1 < 12 := (Nat.div_lt_iff_lt_mul (by omega)).mpr (by omega)
        exact ⟨v.toNat % a.2.1, v.toNat / a.2.1, lt % a.2.1, ht % a.2.1, n4_w, n1_w, by rw [if_neg hp]; exact n3_w, by omega, by omega, rfl, Or.inr (Or.inl ⟨rfl, hp, rfl, rfl⟩)⟩
      · cases h
  · split at h
    · rename_i k
      cases h
      obtain ⟨rfl, kp, kl, k1_w, k2⟩ := k
      obtain ⟨-, j, hj, v1_w, v2⟩ := hv
      refine ⟨by omega, by omega, (v - 429 * (j : Int)).toNat, j, lt, ht, hj, by rw [kp]; omega, by rw [if_neg (by omega), kp]; omega, by omega, by omega, rfl, Or.inr (Or.inr ⟨rfl, rfl, rfl⟩)⟩
    · cases h
theorem ar_ld_ok {f : Nat → Int} (ha_w : AInv P a f) (hc_w : ar_cov a = true) {t u : IT} {v : Int} (h : ar_ld a t = some u) (hv : IV P t v) : 0 ≤ v ∧ v < a.1 ∧ IV P u (f v.toNat) := by
  obtain ⟨p1_w, p2_w, i, j, l, x, hj, e, hi_w, h1, h2, rfl, -⟩ := ar_place h hv.wd
  refine ⟨p1_w, p2_w, ?_⟩
  rw [e]
  exact ar_at ha_w hc_w hi_w hj h1 h2
/-- a store_w keeps_w an array, if what is_w stored_w fits_w all_w regions that it may_w hit_w -/
def ar_st (a : RG) (t w : IT) : Bool := (match ar_ld a t with
  | some _ => true
  | none => false) && a.2.2.all fun r => i_sub w r.2.2 || (if (i_wd t).1 = 1 ∧ a.2.1 ≠ 0 then decide ((i_wd t).2.2 % a.2.1 < (r.1 : Int)) || decide ((r.2.1 : Int) ≤ (i_wd t).2.1 % a.2.1)
    else decide ((i_wd t).2.2 < (r.1 : Int)) || decide ((r.2.1 : Int) ≤ (i_wd t).2.1))
/-- regions end within_w their block_w -/
def ar_ok (a : RG) : Bool := a.2.2.all fun r => Nat.ble r.2.1 (if a.2.1 = 0 then a.1 else a.2.1)
theorem ar_st_ok {f g : Nat → Int} (ha_w : AInv P a f) (hok : ar_ok a = true) {t w : IT} {v x : Int} (h : ar_st a t w = true) (hv : IV P t v) (hx : IV P w x) (hg : ∀ i, g i = if i = v.toNat then x else f i) : AInv P a g := by
  rw [ar_st, Bool.and_eq_true] at h
  obtain ⟨h0, h1⟩ := h
  cases hl : ar_ld a t with
  | none => rw [hl] at h0; cases h0
  | some u =>
    obtain ⟨p1_w, p2_w, i0, j0, l, y, hj0, e0, hi0_w, q1_w, q2_w, -, q3_w⟩ := ar_place hl hv.wd
    intro r hr i j k1_w k2 hj
    rw [hg]
    split
    · rename_i e
      have h2 := List.all_eq_true.mp h1 r hr
      rw [Bool.or_eq_true] at h2
      rcases h2 with h2 | h2
      · exact IV.sub h2 hx
      · exfalso
        have hr2 := List.all_eq_true.mp hok r hr
        rw [Nat.ble_eq] at hr2
        have hi_w : i = i0 := by
          rw [e0] at e
          by_cases hp : a.2.1 = 0
          · rw [hp, Nat.zero_mul, Nat.zero_mul] at e
            omega
          · rw [if_neg hp] at hi0_w hr2
            have e1_w : (a.2.1 * j0 + i0) % a.2.1 = (a.2.1 * j + i) % a.2.1 := by rw [e]
            rw [Nat.mul_add_mod, Nat.mul_add_mod, Nat.mod_eq_of_lt hi0_w, Nat.mod_eq_of_lt (show i < a.2.1 by omega)] at e1_w
            exact e1_w.symm
        subst hi_w
        rcases q3_w with ⟨z1, z2, rfl, rfl⟩ | ⟨z1, z2, rfl, rfl⟩ | ⟨z1, rfl, rfl⟩
        · rw [if_neg (by omega)] at h2
          simp only [Bool.or_eq_true, decide_eq_true_eq] at h2
          omega
        · rw [if_pos ⟨z1, z2⟩] at h2
          simp only [Bool.or_eq_true, decide_eq_true_eq] at h2
          omega
        · rw [if_neg (by omega)] at h2
          simp only [Bool.or_eq_true, decide_eq_true_eq] at h2
          omega
    · exact ha_w r hr i j k1_w k2 hj
end ARS
