/-! ===== the third reading: this claim's tables (written by wip/tools/tytab.py) ===== -/
def g_fk : Nat → List Nat := fun c => [[16, 15, 15, 13, 13, 12, 12, 12, 12, 14, 18, 17, 17, 100, 100, 1], [17, 17, 17, 1, 1, 1], [17, 17, 17, 17, 17, 17, 17, 17, 17, 17, 1, 1], [17, 17, 17, 17, 1], [17, 1], [7, 17, 17, 17, 17, 17, 17, 17, 11, 1, 1, 1, 1], [19, 17, 1, 1, 1, 2, 1, 100, 100], [6], [17, 17, 17, 17, 17, 17, 17, 17, 17, 17, 1], [8, 1, 1, 1, 1, 1, 2], [1, 6, 1, 1, 6, 6, 7, 1, 1, 7, 6, 6, 1, 7, 6, 6, 6, 6, 1, 1, 9, 6, 6, 6, 6, 1, 7, 6, 7, 2]].getD c []
def g_PT : Nat → List Nat := t_at [[[10], [10, 2, 2, 2], [10], [10], [10], [10, 1, 1], [10, 1, 1], [10, 1, 1], [10, 1, 1, 1], [10, 1, 1, 1], [10, 1, 1], [10], [10], [10, 1], [10, 1, 1], [10, 1, 1]],
  [[10, 1, 1], [10, 1], [10, 1, 1], [10, 1, 1], [10, 1, 1], [10, 1], [10, 1], [10, 1, 1], [10, 1], [10], [10], [10, 1, 1, 1], [10, 1, 1, 1], [10, 1], [10], [10, 1, 1]],
  [[10, 1, 1], [10, 1, 1, 1, 1], [10, 1, 1], [10, 1], [10], [10], [10, 1], [10, 1], [10, 1, 1, 100], [10], [10], [10, 1, 1, 1], [10, 1, 1], [2], [2, 1], [10]],
  [[10, 1, 100], [10, 100], [10, 100], [10, 1], [10], [17, 1], [17, 1], [17, 1, 1], [17, 1, 1], [17, 1], [17, 17], [17, 1], [19], [19], [19, 2], [19]],
  [[19], [19], [19], [19, 1], [19, 1], [1], [1], [1], [19], [19], [19, 1], [19], [19], [19], [11], [11]],
  [[11, 11], [11, 19], [19], [19], [1], [11, 1], [11, 1], [11, 1], [11], [11, 1], [11], [11, 1], [11, 1, 1, 1, 1], [1, 1, 1, 1, 1], [1, 1, 1], [15]],
  [[15], [15, 15], [15, 2, 1, 17, 1], [15, 2], [15, 2, 1, 1, 1], [15, 1, 2], [15, 2], [15, 2], [15, 2], [15, 2, 1, 1], [15, 2], [15, 1], [15, 1], [15, 1], [15, 1], [15, 1, 1]],
  [[15, 1, 1, 1], [15, 1], [15, 1], [13], [13, 1, 1, 1, 1], [13, 13], [16], [16, 15], [16, 15, 13], [3], [16, 15], [16, 15], [16, 15], [16, 15], [16, 15], [3]],
  [[16, 15], [16, 15, 13], [16, 15, 13], [16, 15, 13], [16, 13], [16, 1], [16], [16, 3], [16, 1, 1], [16, 1], [16], [16, 1], [16, 15], [12], [12, 15], [12, 12]],
  [[12, 13, 1], [12], [12, 1, 1], [12, 1, 1, 1], [12, 1], [12, 1], [12, 1, 1], [12, 1, 1, 1], [12, 15, 1, 1], [12, 15, 1, 1], [12, 15, 1, 1, 1, 1], [12, 1, 1], [12, 1, 1, 1], [12, 1, 1, 1], [12, 1], [12, 1, 1, 1]],
  [[12, 1, 1, 1, 1], [12], [12, 1, 1, 1], [12, 15, 1], [12, 1, 1, 1], [12, 1, 1, 100], [12, 1, 1], [14], [14, 12, 1, 1, 1], [14, 12], [14, 12, 1, 1], [18], [18, 15, 12, 1], [18, 15, 1], [18, 15, 1], [18, 1, 17, 1, 17]],
  [[18, 15, 12, 17], [18, 15, 12], [18, 15, 12, 1], [18, 15, 12], [18, 15, 1], [18, 15, 12], [20], [20, 2, 2, 2], [20, 2], [20], [1], [1], [1], [1], [20], [20, 1]],
  [[20, 1], [20, 1], [20, 1], [20, 1], [20, 1], [20, 1], [1, 1, 1], [20, 1], [20, 1, 1], [20, 1, 1], [20, 1, 1], [20], [20, 1, 1], [20, 1, 1], [20], [20, 1]],
  [[20, 1, 1, 1], [20, 1], [20], [20, 1, 1], [20], [20], [20], [20, 1, 1], [20, 1, 1], [20, 1], [20, 1], [20, 1], [20, 1], [20, 1], [20, 1], [1, 1, 1]],
  [[20, 1, 1, 1], [20], [20], [20], [20], [20, 1], [20, 1], [20, 1], [20, 1, 1], [20, 1], [20, 1], [20, 1], [20, 1], [20, 1], [20, 1], [20, 1, 1]],
  [[20, 1], [20], [20], [20, 1, 1, 1], [20, 1, 1, 1], [20, 1, 1, 1], [1, 1, 1], [20, 1, 1, 1, 1], [20, 1, 1, 1, 1, 1], [20, 1, 1, 1], [20, 1, 1, 1], [20, 1, 1], [20, 1], [20, 1, 1], [20, 1, 1], [20, 1]],
  [[20, 1, 1, 1], [20, 1, 1, 1], [20, 1, 1], [20, 1], [20, 1], [20, 1, 1], [20, 1, 1], [20, 1, 1], [20, 1, 1, 1, 1], [20, 1, 1, 1], [20, 1, 1, 1, 1], [20, 1, 1, 1], [20, 1, 1], [20, 1, 1, 1, 1], [20, 1], [20]],
  [[20], [20, 1], [20, 100], [20, 1, 1], [20, 1, 1], [20, 1, 1], [20, 1], [20, 1, 1], [20, 1, 1], [20, 1, 1], [20, 1], [20, 1], [20, 1, 1], [20, 1, 1], [20, 1], [20, 1]],
  [[20], [20], [20, 1, 1, 1], [20, 1], [20, 1, 1, 1], [20, 1, 1, 1], [20, 1], [20], [20, 1, 1], [20, 1, 1], [20], [20, 1, 1, 1, 1], [20, 1, 1], [20, 1], [20, 1], [20]],
  [[20, 1, 1, 100], [20], [20], [20], [20, 1, 1], [20, 1], [20, 1, 1, 1], [20, 1, 100], [20], [20, 1], [10, 1, 7], [10, 1, 1, 7], [10, 1, 1, 7], [10, 1, 1, 7], [10, 1, 7], [10, 1, 1, 7]],
  [[10, 1, 1, 7], [10, 1, 1, 7], [10, 1, 7], [10, 1, 7], [10, 1, 1, 1, 7], [10, 1, 1, 1, 7], [10, 1, 7], [10, 1, 1, 7], [10, 1, 1, 7], [10, 1, 1, 1, 1, 7], [10, 1, 1, 7], [10, 1, 1, 1, 7], [], [2, 1], [1], [1]],
  [[1, 1], [1, 1], [], [], [], [], [], [], [], [], [], [], [], [], [], []]] []
def g_RY : Nat → List Nat := t_at [[[], [1], [1], [], [1], [1], [1], [1], [1], [1], [1], [1], [100], [1], [1], [1]],
  [[1], [1], [1], [1], [1], [1], [1], [1], [1], [1], [1], [1], [1], [1], [1], [1]],
  [[1], [1], [1], [1], [1], [], [1], [1], [100], [1], [1], [1], [], [2], [1], [1]],
  [[100], [100], [100], [1], [1], [], [1], [], [], [], [], [], [], [], [], []],
  [[], [], [], [1], [1], [100], [100], [100], [100], [100], [100], [1], [100], [3], [], []],
  [[], [1], [1], [1], [1], [100], [100], [100], [1], [], [], [], [1], [1], [1], []],
  [[], [], [], [], [], [], [1], [1], [1], [1], [100], [100], [100], [100], [100], [100]],
  [[100], [1], [1], [], [], [], [], [1], [1], [100], [100], [100], [100], [100], [100], [1]],
  [[100], [100], [100], [100], [100], [100], [100], [100], [100], [100], [100], [100], [100], [], [], []],
  [[100], [100], [1], [], [], [1], [1], [1], [100], [1], [1], [1], [], [], [100], [1]],
  [[], [1], [1], [], [], [100], [100], [], [], [100], [], [], [], [], [], []],
  [[], [1], [1], [1], [1], [], [1], [1], [], [], [100], [100], [1], [100], [], []],
  [[100], [100], [], [100], [100], [], [100], [], [1], [1], [1], [100], [1], [1], [1], [1]],
  [[], [100], [], [1], [], [], [1], [], [], [], [], [], [], [], [1], [1]],
  [[], [1], [1], [1], [1], [1], [1], [1], [1], [1], [1], [100], [100], [100], [100], [100]],
  [[], [], [], [1], [1], [1], [1], [1], [1], [1], [1], [], [1], [1], [], []],
  [[1], [1], [1], [1], [1], [1], [1], [1], [], [1], [], [1], [1], [], [], [1]],
  [[100], [1], [100], [1], [1], [1], [1], [1], [1], [1], [1], [1], [1], [1], [1], [1]],
  [[1], [1], [1], [100], [1], [1], [1], [1], [1], [1], [], [1], [1], [1], [1], [1]],
  [[100], [1], [1], [1], [1], [1], [1], [100], [1], [1], [1], [1], [1], [1], [1], [1]],
  [[1], [1], [1], [1], [1], [1], [1], [1], [1], [1], [1], [1], [], [2], [1], [1]],
  [[1], [1], [], [], [], [], [], [], [], [], [], [], [], [], [], []]] []
def g_dp : Nat → Nat := t_at [[99999, 99999, 99999, 3, 99999, 3, 2, 3, 4, 3, 3, 5, 4, 6, 4, 4],
  [4, 4, 4, 4, 4, 5, 3, 3, 5, 5, 4, 2, 2, 5, 2, 2],
  [2, 6, 6, 6, 6, 2, 5, 5, 2, 4, 5, 6, 2, 0, 0, 5],
  [3, 2, 2, 4, 3, 99999, 0, 0, 0, 0, 0, 0, 99999, 99999, 99999, 3],
  [2, 1, 1, 1, 0, 0, 0, 0, 0, 0, 0, 0, 1, 0, 99999, 1],
  [1, 3, 1, 1, 0, 1, 2, 2, 2, 1, 1, 1, 1, 0, 0, 99999],
  [2, 2, 1, 1, 1, 0, 1, 1, 1, 99999, 2, 0, 0, 0, 0, 2],
  [3, 1, 1, 99999, 1, 1, 99999, 5, 5, 0, 4, 4, 4, 4, 4, 0],
  [4, 4, 4, 4, 4, 0, 3, 3, 3, 3, 2, 3, 3, 99999, 2, 1],
  [2, 0, 1, 1, 2, 2, 1, 1, 2, 2, 1, 1, 1, 1, 0, 1],
  [1, 1, 1, 3, 2, 1, 1, 99999, 2, 3, 2, 99999, 3, 2, 1, 1],
  [4, 5, 4, 4, 1, 4, 99999, 99999, 99999, 99999, 99999, 99999, 99999, 99999, 99999, 99999],
  [99999, 99999, 99999, 99999, 99999, 99999, 99999, 99999, 99999, 99999, 99999, 99999, 99999, 99999, 99999, 99999],
  [99999, 99999, 99999, 99999, 99999, 99999, 99999, 99999, 99999, 99999, 99999, 99999, 99999, 99999, 99999, 99999],
  [99999, 99999, 99999, 99999, 99999, 99999, 99999, 99999, 99999, 99999, 99999, 99999, 99999, 99999, 99999, 99999],
  [99999, 99999, 99999, 99999, 99999, 99999, 99999, 99999, 99999, 99999, 99999, 99999, 99999, 99999, 99999, 99999],
  [99999, 99999, 99999, 99999, 99999, 99999, 99999, 99999, 99999, 99999, 99999, 99999, 99999, 99999, 99999, 99999],
  [99999, 99999, 99999, 99999, 99999, 99999, 99999, 99999, 99999, 99999, 99999, 99999, 99999, 99999, 99999, 99999],
  [99999, 99999, 99999, 99999, 99999, 99999, 99999, 99999, 99999, 99999, 99999, 99999, 99999, 99999, 99999, 99999],
  [99999, 99999, 99999, 99999, 99999, 99999, 99999, 99999, 99999, 99999, 99999, 99999, 99999, 99999, 99999, 99999],
  [99999, 99999, 99999, 99999, 99999, 99999, 99999, 99999, 99999, 99999, 99999, 99999, 99999, 0, 0, 0],
  [0, 0, 99999, 99999, 99999, 99999, 99999, 99999, 99999, 99999, 99999, 99999, 99999, 99999, 99999, 99999]] 99999
def g_hd (f : Nat) : Bool := [54, 55, 56, 57, 58, 59, 68, 77, 97, 98, 101, 102, 103, 104, 151].any (fun q => Nat.beq q f)
def g_wk (ci k : Nat) : Bool := Nat.blt ci 10 && !(Nat.beq ci 9 && Nat.beq k 1)
def g_T (d : Nat) : TT := (g_fk, g_PT, g_RY, fun f => Nat.blt (g_dp f) d && !g_THR f, g_wk)
/-- the tape's length, and all that is the reference's -/
def g_ro (o k : Nat) : Bool := (Nat.beq o 2 && Nat.beq k 1) || Nat.ble 182 o || Nat.beq o 3
def g_gg (fk : Nat → List Nat) (g : XS) : Bool := (List.range g.length).all fun o => match g[o]? with
  | some c => decide (c.1 < 100) && decide (c.2.1 < 2147483648) && (decide (c.1 < 10) || (List.range (fk (c.1 - 10)).length).all fun k => decide ((fk (c.1 - 10)).getD k 0 < 6) || decide (100 ≤ (fk (c.1 - 10)).getD k 0) || (match j_rf g o k with
    | some r => decide (0 ≤ r) && (match g[r.toNat]? with
      | some c' => decide (c'.1 = (fk (c.1 - 10)).getD k 0)
      | none => false)
    | none => false))
  | none => true
theorem g_gg_ok {fk : Nat → List Nat} {g : XS} (h : g_gg fk g = true) : GG fk g := by
  have key : ∀ (o : Nat) (c : XC), g[o]? = some c → _ := fun o c hc => by
    have h1 := List.all_eq_true.mp h o (List.mem_range.mpr (List.getElem?_eq_some_iff.mp hc).1)
    rw [hc] at h1
    exact h1
  refine ⟨fun o c hc => ?_, fun o c ci k kd hc e hk h6 h7 => ?_⟩
  · have h1 := key o c hc
    simp only [Bool.and_eq_true, decide_eq_true_eq] at h1
    exact h1.1
  · have h1 := key o c hc
    simp only [Bool.and_eq_true, Bool.or_eq_true, decide_eq_true_eq] at h1
    have eci : c.1 - 10 = ci := by omega
    rw [eci] at h1
    have h2 := List.all_eq_true.mp (h1.2.resolve_left (by omega)) k (List.mem_range.mpr (List.getElem?_eq_some_iff.mp hk).1)
    have ekd : (fk ci).getD k 0 = kd := by rw [List.getD_eq_getElem?_getD, hk]; rfl
    rw [ekd] at h2
    simp only [Bool.or_eq_true, decide_eq_true_eq] at h2
    have h3 := h2.resolve_left (by omega)
    split at h3
    · rename_i r hr
      rw [Bool.and_eq_true] at h3
      obtain ⟨h4, h5⟩ := h3
      split at h5
      · rename_i c' hc'
        exact ⟨r, hr, of_decide_eq_true h4, c', hc', of_decide_eq_true h5⟩
      · cases h5
    · cases h3
theorem g_GG : GG g_fk a_g3 := g_gg_ok (by decide +kernel)
theorem g_wk1 : (List.range a_g3.length).all (fun o => match a_g3[o]? with
  | some c => Nat.blt o 182 || decide (c.1 < 10) || decide (20 ≤ c.1)
  | none => true) = true := by decide +kernel
theorem g_wk2 : (a_g3[2]?).map (fun c => c.1) = some 19 := by decide +kernel
theorem g_wk3 : (a_g3[3]?).map (fun c => c.1) = some 8 := by decide +kernel
theorem g_WK (d : Nat) : WK (g_T d) a_g3 g_ro := by
  intro ci k hw o c hc e
  have hw : g_wk ci k = true := hw
  cases hr : g_ro o k with
  | false => rfl
  | true =>
    exfalso
    simp only [g_ro, Bool.or_eq_true, Bool.and_eq_true, Nat.beq_eq, Nat.ble_eq] at hr
    simp only [g_wk, Bool.and_eq_true, Bool.not_eq_true', Nat.blt_eq] at hw
    rcases hr with (⟨rfl, rfl⟩ | hr) | rfl
    · have h2 := g_wk2
      rw [hc] at h2
      have h3 : c.1 = 19 := Option.some.inj h2
      have h4 : ci = 9 := by omega
      subst h4
      exact absurd hw.2 (by decide)
    · have h1 := List.all_eq_true.mp g_wk1 o (List.mem_range.mpr (List.getElem?_eq_some_iff.mp hc).1)
      rw [hc] at h1
      simp only [Bool.or_eq_true, decide_eq_true_eq, Nat.blt_eq] at h1
      omega
    · have h2 := g_wk3
      rw [hc] at h2
      have h3 : c.1 = 8 := Option.some.inj h2
      omega
def g_tc (f : Nat) : Bool := tyM (g_T (g_dp f)) g_M g_THR f && tyMk (g_T 0) g_M f
def g_tk (f : Nat) : Bool := Nat.beq (g_dp f) 99999 || g_hd f || g_tc f
def g_tg (f : Nat) : Bool := (g_PT f).all (fun t => Nat.blt t 300) && (g_RY f).all (fun t => Nat.blt t 300)
theorem tk_0 : ∀ f, 0 ≤ f → f < 16 → g_tk f = true ∧ g_tg f = true := by
  have h : (List.range 16).all (fun k => g_tk (0 + k) && g_tg (0 + k)) = true := by decide +kernel
  intro f h1 h2
  have h3 := List.all_eq_true.mp h (f - 0) (List.mem_range.mpr (by omega))
  rw [show 0 + (f - 0) = f by omega, Bool.and_eq_true] at h3
  exact h3
theorem tk_1 : ∀ f, 16 ≤ f → f < 32 → g_tk f = true ∧ g_tg f = true := by
  have h : (List.range 16).all (fun k => g_tk (16 + k) && g_tg (16 + k)) = true := by decide +kernel
  intro f h1 h2
  have h3 := List.all_eq_true.mp h (f - 16) (List.mem_range.mpr (by omega))
  rw [show 16 + (f - 16) = f by omega, Bool.and_eq_true] at h3
  exact h3
theorem tk_2 : ∀ f, 32 ≤ f → f < 48 → g_tk f = true ∧ g_tg f = true := by
  have h : (List.range 16).all (fun k => g_tk (32 + k) && g_tg (32 + k)) = true := by decide +kernel
  intro f h1 h2
  have h3 := List.all_eq_true.mp h (f - 32) (List.mem_range.mpr (by omega))
  rw [show 32 + (f - 32) = f by omega, Bool.and_eq_true] at h3
  exact h3
theorem tk_3 : ∀ f, 48 ≤ f → f < 64 → g_tk f = true ∧ g_tg f = true := by
  have h : (List.range 16).all (fun k => g_tk (48 + k) && g_tg (48 + k)) = true := by decide +kernel
  intro f h1 h2
  have h3 := List.all_eq_true.mp h (f - 48) (List.mem_range.mpr (by omega))
  rw [show 48 + (f - 48) = f by omega, Bool.and_eq_true] at h3
  exact h3
theorem tk_4 : ∀ f, 64 ≤ f → f < 80 → g_tk f = true ∧ g_tg f = true := by
  have h : (List.range 16).all (fun k => g_tk (64 + k) && g_tg (64 + k)) = true := by decide +kernel
  intro f h1 h2
  have h3 := List.all_eq_true.mp h (f - 64) (List.mem_range.mpr (by omega))
  rw [show 64 + (f - 64) = f by omega, Bool.and_eq_true] at h3
  exact h3
theorem tk_5 : ∀ f, 80 ≤ f → f < 96 → g_tk f = true ∧ g_tg f = true := by
  have h : (List.range 16).all (fun k => g_tk (80 + k) && g_tg (80 + k)) = true := by decide +kernel
  intro f h1 h2
  have h3 := List.all_eq_true.mp h (f - 80) (List.mem_range.mpr (by omega))
  rw [show 80 + (f - 80) = f by omega, Bool.and_eq_true] at h3
  exact h3
theorem tk_6 : ∀ f, 96 ≤ f → f < 112 → g_tk f = true ∧ g_tg f = true := by
  have h : (List.range 16).all (fun k => g_tk (96 + k) && g_tg (96 + k)) = true := by decide +kernel
  intro f h1 h2
  have h3 := List.all_eq_true.mp h (f - 96) (List.mem_range.mpr (by omega))
  rw [show 96 + (f - 96) = f by omega, Bool.and_eq_true] at h3
  exact h3
theorem tk_7 : ∀ f, 112 ≤ f → f < 128 → g_tk f = true ∧ g_tg f = true := by
  have h : (List.range 16).all (fun k => g_tk (112 + k) && g_tg (112 + k)) = true := by decide +kernel
  intro f h1 h2
  have h3 := List.all_eq_true.mp h (f - 112) (List.mem_range.mpr (by omega))
  rw [show 112 + (f - 112) = f by omega, Bool.and_eq_true] at h3
  exact h3
theorem tk_8 : ∀ f, 128 ≤ f → f < 144 → g_tk f = true ∧ g_tg f = true := by
  have h : (List.range 16).all (fun k => g_tk (128 + k) && g_tg (128 + k)) = true := by decide +kernel
  intro f h1 h2
  have h3 := List.all_eq_true.mp h (f - 128) (List.mem_range.mpr (by omega))
  rw [show 128 + (f - 128) = f by omega, Bool.and_eq_true] at h3
  exact h3
theorem tk_9 : ∀ f, 144 ≤ f → f < 160 → g_tk f = true ∧ g_tg f = true := by
  have h : (List.range 16).all (fun k => g_tk (144 + k) && g_tg (144 + k)) = true := by decide +kernel
  intro f h1 h2
  have h3 := List.all_eq_true.mp h (f - 144) (List.mem_range.mpr (by omega))
  rw [show 144 + (f - 144) = f by omega, Bool.and_eq_true] at h3
  exact h3
theorem tk_10 : ∀ f, 160 ≤ f → f < 176 → g_tk f = true ∧ g_tg f = true := by
  have h : (List.range 16).all (fun k => g_tk (160 + k) && g_tg (160 + k)) = true := by decide +kernel
  intro f h1 h2
  have h3 := List.all_eq_true.mp h (f - 160) (List.mem_range.mpr (by omega))
  rw [show 160 + (f - 160) = f by omega, Bool.and_eq_true] at h3
  exact h3
theorem tk_11 : ∀ f, 176 ≤ f → f < 192 → g_tk f = true ∧ g_tg f = true := by
  have h : (List.range 16).all (fun k => g_tk (176 + k) && g_tg (176 + k)) = true := by decide +kernel
  intro f h1 h2
  have h3 := List.all_eq_true.mp h (f - 176) (List.mem_range.mpr (by omega))
  rw [show 176 + (f - 176) = f by omega, Bool.and_eq_true] at h3
  exact h3
theorem tk_12 : ∀ f, 192 ≤ f → f < 208 → g_tk f = true ∧ g_tg f = true := by
  have h : (List.range 16).all (fun k => g_tk (192 + k) && g_tg (192 + k)) = true := by decide +kernel
  intro f h1 h2
  have h3 := List.all_eq_true.mp h (f - 192) (List.mem_range.mpr (by omega))
  rw [show 192 + (f - 192) = f by omega, Bool.and_eq_true] at h3
  exact h3
theorem tk_13 : ∀ f, 208 ≤ f → f < 224 → g_tk f = true ∧ g_tg f = true := by
  have h : (List.range 16).all (fun k => g_tk (208 + k) && g_tg (208 + k)) = true := by decide +kernel
  intro f h1 h2
  have h3 := List.all_eq_true.mp h (f - 208) (List.mem_range.mpr (by omega))
  rw [show 208 + (f - 208) = f by omega, Bool.and_eq_true] at h3
  exact h3
theorem tk_14 : ∀ f, 224 ≤ f → f < 240 → g_tk f = true ∧ g_tg f = true := by
  have h : (List.range 16).all (fun k => g_tk (224 + k) && g_tg (224 + k)) = true := by decide +kernel
  intro f h1 h2
  have h3 := List.all_eq_true.mp h (f - 224) (List.mem_range.mpr (by omega))
  rw [show 224 + (f - 224) = f by omega, Bool.and_eq_true] at h3
  exact h3
theorem tk_15 : ∀ f, 240 ≤ f → f < 256 → g_tk f = true ∧ g_tg f = true := by
  have h : (List.range 16).all (fun k => g_tk (240 + k) && g_tg (240 + k)) = true := by decide +kernel
  intro f h1 h2
  have h3 := List.all_eq_true.mp h (f - 240) (List.mem_range.mpr (by omega))
  rw [show 240 + (f - 240) = f by omega, Bool.and_eq_true] at h3
  exact h3
theorem tk_16 : ∀ f, 256 ≤ f → f < 272 → g_tk f = true ∧ g_tg f = true := by
  have h : (List.range 16).all (fun k => g_tk (256 + k) && g_tg (256 + k)) = true := by decide +kernel
  intro f h1 h2
  have h3 := List.all_eq_true.mp h (f - 256) (List.mem_range.mpr (by omega))
  rw [show 256 + (f - 256) = f by omega, Bool.and_eq_true] at h3
  exact h3
theorem tk_17 : ∀ f, 272 ≤ f → f < 288 → g_tk f = true ∧ g_tg f = true := by
  have h : (List.range 16).all (fun k => g_tk (272 + k) && g_tg (272 + k)) = true := by decide +kernel
  intro f h1 h2
  have h3 := List.all_eq_true.mp h (f - 272) (List.mem_range.mpr (by omega))
  rw [show 272 + (f - 272) = f by omega, Bool.and_eq_true] at h3
  exact h3
theorem tk_18 : ∀ f, 288 ≤ f → f < 304 → g_tk f = true ∧ g_tg f = true := by
  have h : (List.range 16).all (fun k => g_tk (288 + k) && g_tg (288 + k)) = true := by decide +kernel
  intro f h1 h2
  have h3 := List.all_eq_true.mp h (f - 288) (List.mem_range.mpr (by omega))
  rw [show 288 + (f - 288) = f by omega, Bool.and_eq_true] at h3
  exact h3
theorem tk_19 : ∀ f, 304 ≤ f → f < 320 → g_tk f = true ∧ g_tg f = true := by
  have h : (List.range 16).all (fun k => g_tk (304 + k) && g_tg (304 + k)) = true := by decide +kernel
  intro f h1 h2
  have h3 := List.all_eq_true.mp h (f - 304) (List.mem_range.mpr (by omega))
  rw [show 304 + (f - 304) = f by omega, Bool.and_eq_true] at h3
  exact h3
theorem tk_20 : ∀ f, 320 ≤ f → f < 336 → g_tk f = true ∧ g_tg f = true := by
  have h : (List.range 16).all (fun k => g_tk (320 + k) && g_tg (320 + k)) = true := by decide +kernel
  intro f h1 h2
  have h3 := List.all_eq_true.mp h (f - 320) (List.mem_range.mpr (by omega))
  rw [show 320 + (f - 320) = f by omega, Bool.and_eq_true] at h3
  exact h3
theorem tk_21 : ∀ f, 336 ≤ f → f < 352 → g_tk f = true ∧ g_tg f = true := by
  have h : (List.range 16).all (fun k => g_tk (336 + k) && g_tg (336 + k)) = true := by decide +kernel
  intro f h1 h2
  have h3 := List.all_eq_true.mp h (f - 336) (List.mem_range.mpr (by omega))
  rw [show 336 + (f - 336) = f by omega, Bool.and_eq_true] at h3
  exact h3
theorem tk_all : ∀ f, g_tk f = true ∧ g_tg f = true := fun f => by
  by_cases h : f < 352
  · exact (ab_two (b := 176) (ab_two (b := 80) (ab_two (b := 32) (ab_two (b := 16) (tk_0) (tk_1)) (ab_two (b := 48) (tk_2) (ab_two (b := 64) (tk_3) (tk_4)))) (ab_two (b := 128) (ab_two (b := 96) (tk_5) (ab_two (b := 112) (tk_6) (tk_7))) (ab_two (b := 144) (tk_8) (ab_two (b := 160) (tk_9) (tk_10))))) (ab_two (b := 256) (ab_two (b := 208) (ab_two (b := 192) (tk_11) (tk_12)) (ab_two (b := 224) (tk_13) (ab_two (b := 240) (tk_14) (tk_15)))) (ab_two (b := 304) (ab_two (b := 272) (tk_16) (ab_two (b := 288) (tk_17) (tk_18))) (ab_two (b := 320) (tk_19) (ab_two (b := 336) (tk_20) (tk_21))))) : ∀ f, 0 ≤ f → f < 352 → g_tk f = true ∧ g_tg f = true) f (Nat.zero_le f) h
  · have e1 : g_dp f = 99999 := by
      unfold g_dp
      exact t_out (by show 352 ≤ f; omega)
    have e2 : g_PT f = [] := by
      unfold g_PT
      exact t_out (by show 352 ≤ f; omega)
    have e3 : g_RY f = [] := by
      unfold g_RY
      exact t_out (by show 352 ≤ f; omega)
    unfold g_tk g_tg
    rw [e1, e2, e3]
    exact ⟨rfl, rfl⟩
theorem g_TG (d : Nat) : TG (g_T d) := fun f _ => by
  have h := (tk_all f).2
  rw [g_tg, Bool.and_eq_true] at h
  exact h
section CLS
variable {xs : Nat → Int} {L K c d : Nat}
/-- the class's methods come to an end, whatever the numbers are; by hand: those that g_hd names -/
theorem cls_all (hK : 4294967300 ≤ K) (hand : ∀ n f, g_hd f = true → g_dp f < n → TotF (g_T 0) (a_g3, c, d) g_ro (evF xs L g_ck K g_cW g_M n) f) : ∀ n f, g_dp f < n → n < 99999 → g_hd f = false → TotX (g_T 0) (a_g3, c, d) g_ro (evF xs L g_ck K g_cW g_M n) f ∧ (g_THR f = false → TotF (g_T 0) (a_g3, c, d) g_ro (evF xs L g_ck K g_cW g_M n) f)
  | 0, _, h, _, _ => absurd h (by omega)
  | n + 1, f, h, hn, hh => by
    have hk := (tk_all f).1
    simp only [g_tk, hh, Bool.or_false, Bool.or_eq_true, Nat.beq_eq] at hk
    have h1 := hk.resolve_left (by omega)
    rw [g_tc, Bool.and_eq_true] at h1
    refine ty_X (T := g_T (g_dp f)) (g := (a_g3, c, d)) g_GG (g_TG _) nt_cW (g_WK _) hK (fun q hq => ?_) h1.1 h1.2
    have hq2 : (Nat.blt (g_dp q) (g_dp f) && !g_THR q) = true := hq
    rw [Bool.and_eq_true] at hq2
    have hlt : g_dp q < g_dp f := by
      have := hq2.1
      simp only [Nat.blt_eq] at this
      exact this
    cases hx : g_hd q with
    | true => exact hand n q hx (by omega)
    | false => exact (cls_all hK hand n q (by omega) (by omega) hx).2 (by simpa using hq2.2)
end CLS
