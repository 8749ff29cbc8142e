/-! ===== what a work's lines do to a state_w (pure) ===== -/
def supF (a : Nat → Int) (m : Nat) (u : Int) (f : Nat) : Nat → Int := fun q => if 78 + (12 * m + f) ≤ q ∧ q < 78 + (12 * m + 12) then u else a q
def fl1 (x : LX) (a : Nat → Int) : Nat → Int := if x.1 = 0 then updF a (13 * x.2.1.toNat + x.2.2.1.toNat) x.2.2.2 else if x.1 = 1 then supF a x.2.1.toNat x.2.2.1 x.2.2.2.toNat else if x.1 = 2 then updF a (150 + x.2.1.toNat) x.2.2.1 else if a 162 < 4 then updF a 162 (a 162 + 1) else a
def lnN (N : List LX) (n : Nat) : LX := N.getD n (3, 0, 0, 0)
def flS (N : List LX) (a : Nat → Int) : Nat → Nat → Int
  | 0 => a
  | n + 1 => fl1 (lnN N n) (flS N a n)
/-- the first line that couldn't be followed -/
def flK (N : List LX) (a : Nat → Int) : Nat → Int
  | 0 => -1
  | n + 1 => if flK N a n = -1 then (if (lnN N n).1 = 0 then -1 else if (lnN N n).1 = 1 then -1 else if (lnN N n).1 = 2 then -1 else if flS N a n 162 < 4 then -1 else (n : Int)) else flK N a n
/-- a line that a grid allows -/
def LV (D : DD) (x : LX) : Prop := (x.1 = 0 ∧ 0 ≤ x.2.1 ∧ x.2.1 < (nM D : Int) ∧ 0 ≤ x.2.2.1 ∧ x.2.2.1 ≤ 12 ∧ 0 ≤ x.2.2.2 ∧ x.2.2.2 ≤ 9999) ∨ (x.1 = 1 ∧ 0 ≤ x.2.1 ∧ x.2.1 < (nM D : Int) ∧ 0 ≤ x.2.2.1 ∧ x.2.2.1 < (nU D : Int) ∧ 0 ≤ x.2.2.2 ∧ x.2.2.2 ≤ 11) ∨ (x.1 = 2 ∧ 0 ≤ x.2.1 ∧ x.2.1 < (nS D : Int) ∧ 0 ≤ x.2.2.1 ∧ x.2.2.1 ≤ 9999) ∨ x.1 = 3
def LVs (D : DD) (N : List LX) : Prop := ∀ x ∈ N, LV D x
/-- a state_w as_w a grid begins it -/
def fsuD (D : DD) (m : Nat) : Int := ((D.2.2.2.2.1[m]?).map (·.2.2.2)).getD 0
def fedD (D : DD) (s : Nat) : Int := (D.2.1.getD []).getD s 0
def bgA (D : DD) : Nat → Int := fun q => if q < 78 then -1 else if q < 150 then fsuD D ((q - 78) / 12) else if q < 162 then fedD D (q - 150) else 0
def FEB (D : DD) : Prop := ∀ s : Nat, s < 12 → 0 ≤ fedD D s ∧ fedD D s ≤ 9999
def jdV (D : DD) (N : List LX) (w : Int) : Int := if w = 0 then flK N (bgA D) N.length else if w = 1 then flS N (bgA D) N.length 162 else allA D (flS N (bgA D) N.length)
section FLW
variable {S P V W : Nat → Int} {D : DD} {a b : Nat → Int} {x : LX} {N M : List LX} {i j k n : Nat} {what : Int} {h : XH}
theorem lastP_b (w : WFD D) (m : Int) : lastP D m ≤ 12 := by
  obtain ⟨-, -, -, s12, eD⟩ := w.cn
  unfold lastP
  split <;> omega
theorem mostS_bw (m : Int) : mostS D m ≤ 9999 := by
  unfold mostS
  split <;> omega
theorem sWl_v (w : WFD D) (e : sWl S P V W what D i = .ok (x, j)) : LV D x := by
  obtain ⟨-, -, -, s12, eD⟩ := w.cn
  unfold sWl at e
  split at e
  · obtain ⟨m, e1_w, e⟩ := eB_ok2 e
    obtain ⟨p, e2_w, e⟩ := eB_ok2 e
    obtain ⟨v, e3_w, e⟩ := eB_ok2 e
    have b1 := sTold_b e1_w
    have b2 := sNum_b e2_w
    have b3 := sNum_b e3_w
    have l1 := lastP_b w m.1
    have l2 := mostS_bw (D := D) m.1
    have lm : (nmM D).length = nM D := List.length_map _
    cases e
    exact Or.inl ⟨rfl, b1.1, by dsimp only; omega, b2.1, by dsimp only; omega, b3.1, by dsimp only; omega⟩
  · split at e
    · obtain ⟨m, e1_w, e⟩ := eB_ok2 e
      obtain ⟨p, e2_w, e⟩ := eB_ok2 e
      obtain ⟨v, e3_w, e⟩ := eB_ok2 e
      have b1 := sTold_b e1_w
      have b2 := sTold_b e2_w
      have b3 := sNum_b e3_w
      have lm : (nmM D).length = nM D := List.length_map _
      have lu : D.2.2.2.1.length = nU D := rfl
      cases e
      exact Or.inr (Or.inl ⟨rfl, b1.1, by dsimp only; omega, b2.1, by dsimp only; omega, b3.1, by dsimp only; omega⟩)
    · split at e
      · obtain ⟨m, e1_w, e⟩ := eB_ok2 e
        obtain ⟨p, e2_w, e⟩ := eB_ok2 e
        have b1 := sNum_b e1_w
        have b2 := sNum_b e2_w
        cases e
        exact Or.inr (Or.inr (Or.inl ⟨rfl, b1.1, by dsimp only; omega, b2.1, b2.2⟩))
      · cases e
        exact Or.inr (Or.inr (Or.inr rfl))
theorem sWork_v (w : WFD D) : ∀ (k : Nat) (M : List LX) (i : Nat), LVs D M → sWork S P V W D k M i = .ok N → LVs D N
  | 0, M, i, v, e => by
    cases e
    exact v
  | k + 1, M, i, v, e => by
    unfold sWork at e
    split at e
    · cases e
      exact v
    · obtain ⟨r, e1_w, e⟩ := eB_ok2 e
      obtain ⟨j, e2_w, e⟩ := eB_ok2 e
      refine sWork_v w k _ j (fun x hx => ?_) e
      rcases List.mem_append.mp hx with z | z
      · exact v x z
      · rw [List.mem_singleton.mp z]
        unfold sWx at e1_w
        split at e1_w
        · cases e1_w
        · split at e1_w
          · cases e1_w
          · exact sWl_v (j := r.2) w e1_w
theorem lnN_v (v : LVs D N) (n : Nat) : LV D (lnN N n) := by
  unfold lnN
  rw [List.getD_eq_getElem?_getD]
  cases e : N[n]? with
  | none => exact Or.inr (Or.inr (Or.inr rfl))
  | some x => exact v x (List.mem_of_getElem? e)
theorem lnN_at (hn : n < N.length) : N[n]? = some (lnN N n) := by
  unfold lnN
  rw [List.getD_eq_getElem?_getD, List.getElem?_eq_getElem hn]
  rfl
theorem fl1_e (e : EqD D a b) : EqD D (fl1 x a) (fl1 x b) := fun q hq => by
  have e2_w := e 162 (Or.inr (Or.inr (Or.inr rfl)))
  unfold fl1
  rw [e2_w]
  split
  · unfold updF
    split
    · rfl
    · exact e q hq
  · split
    · unfold supF
      split
      · rfl
      · exact e q hq
    · split
      · unfold updF
        split
        · rfl
        · exact e q hq
      · split
        · unfold updF
          split
          · rfl
          · exact e q hq
        · exact e q hq
theorem flS_e (e : EqD D a b) : ∀ n, EqD D (flS N a n) (flS N b n)
  | 0 => e
  | n + 1 => fl1_e (flS_e e n)
theorem fl1_r (w : WFD D) (v : LV D x) (r : RGA D a) (p : SUPA D a) (r0 : 0 ≤ a 162 ∧ a 162 ≤ 4) : RGA D (fl1 x a) ∧ SUPA D (fl1 x a) ∧ 0 ≤ fl1 x a 162 ∧ fl1 x a 162 ≤ 4 := by
  obtain ⟨c4, u4_w, m6_w, s12, eD⟩ := w.cn
  obtain ⟨ra, rb, rc⟩ := r
  unfold fl1
  rcases v with ⟨v0_w, v1_w, v2, v3, v4_w, v5, v6⟩ | ⟨v0_w, v1_w, v2, v3, v4_w, v5, v6⟩ | ⟨v0_w, v1_w, v2, v3, v4_w⟩ | v0_w
  · rw [if_pos v0_w]
    refine ⟨⟨fun q z => ?_, fun q z1 z2 => ?_, fun q z1 z2 => ?_⟩, fun m s hm_w hs => ?_, ?_⟩
    · unfold updF
      split
      · omega
      · exact ra q z
    · unfold updF
      rw [if_neg (by omega)]
      exact rb q z1 z2
    · unfold updF
      rw [if_neg (by omega)]
      exact rc q z1 z2
    · unfold updF
      rw [if_neg (by omega)]
      exact p m s hm_w hs
    · unfold updF
      rw [if_neg (by omega)]
      exact r0
  · rw [if_neg (by omega), if_pos v0_w]
    refine ⟨⟨fun q z => ?_, fun q z1 z2 => ?_, fun q z1 z2 => ?_⟩, fun m s hm_w hs => ?_, ?_⟩
    · unfold supF
      rw [if_neg (by omega)]
      exact ra q z
    · unfold supF
      split
      · omega
      · exact rb q z1 z2
    · unfold supF
      rw [if_neg (by omega)]
      exact rc q z1 z2
    · unfold supF
      split
      · exact v4_w
      · exact p m s hm_w hs
    · unfold supF
      rw [if_neg (by omega)]
      exact r0
  · rw [if_neg (by omega), if_neg (by omega), if_pos v0_w]
    refine ⟨⟨fun q z => ?_, fun q z1 z2 => ?_, fun q z1 z2 => ?_⟩, fun m s hm_w hs => ?_, ?_⟩
    · unfold updF
      rw [if_neg (by omega)]
      exact ra q z
    · unfold updF
      rw [if_neg (by omega)]
      exact rb q z1 z2
    · unfold updF
      split
      · exact ⟨v3, v4_w⟩
      · exact rc q z1 z2
    · unfold updF
      rw [if_neg (by omega)]
      exact p m s hm_w hs
    · unfold updF
      rw [if_neg (by omega)]
      exact r0
  · rw [if_neg (by omega), if_neg (by omega), if_neg (by omega)]
    split
    · refine ⟨⟨fun q z => ?_, fun q z1 z2 => ?_, fun q z1 z2 => ?_⟩, fun m s hm_w hs => ?_, ?_⟩
      · unfold updF
        rw [if_neg (by omega)]
        exact ra q z
      · unfold updF
        rw [if_neg (by omega)]
        exact rb q z1 z2
      · unfold updF
        rw [if_neg (by omega)]
        exact rc q z1 z2
      · unfold updF
        rw [if_neg (by omega)]
        exact p m s hm_w hs
      · unfold updF
        rw [if_pos rfl]
        omega
    · exact ⟨⟨ra, rb, rc⟩, p, r0⟩
theorem flS_r (w : WFD D) (v : LVs D N) (r : RGA D a) (p : SUPA D a) (r0 : 0 ≤ a 162 ∧ a 162 ≤ 4) : ∀ n, RGA D (flS N a n) ∧ SUPA D (flS N a n) ∧ 0 ≤ flS N a n 162 ∧ flS N a n 162 ≤ 4
  | 0 => ⟨r, p, r0⟩
  | n + 1 => by
    obtain ⟨x1_w, x2_w, x3⟩ := flS_r w v r p r0 n
    exact fl1_r w (lnN_v v n) x1_w x2_w x3
theorem bgA_r (w : WFD D) (f : FEB D) : RGA D (bgA D) ∧ SUPA D (bgA D) ∧ 0 ≤ bgA D 162 ∧ bgA D 162 ≤ 4 := by
  obtain ⟨c4, u4_w, m6_w, s12, eD⟩ := w.cn
  have su : ∀ m, m < nM D → 0 ≤ fsuD D m ∧ fsuD D m < (nU D : Int) := fun m hm_w => by
    obtain ⟨x, ex_w, hx⟩ := mt_x hm_w
    obtain ⟨-, ⟨s0, s1_w⟩, -⟩ := w.2.2.1 x hx
    have e : fsuD D m = x.2.2.2 := by
      unfold fsuD
      rw [ex_w]
      rfl
    rw [e]
    exact ⟨s0, s1_w⟩
  have e2_w : bgA D 162 = 0 := rfl
  refine ⟨⟨fun q z => ?_, fun q z1 z2 => ?_, fun q z1 z2 => ?_⟩, fun m s hm_w hs => ?_, by omega, by omega⟩
  · unfold bgA
    rw [if_pos (by omega)]
    omega
  · unfold bgA
    rw [if_neg (by omega), if_pos (by omega)]
    have := su ((q - 78) / 12) (by omega)
    omega
  · unfold bgA
    rw [if_neg (by omega), if_neg (by omega), if_pos (by omega)]
    exact f _ (by omega)
  · unfold bgA
    rw [if_neg (by omega), if_pos (by omega), show (78 + (12 * m + s) - 78) / 12 = m by omega]
    exact (su m hm_w).2
theorem FEB_of (lq : LQ h) (rf : RF D h) : FEB D := by
  obtain ⟨P, hQ, -⟩ := lq
  intro s hs
  have k := q_cell hQ (q := 188) (r := 5) (x := (5, 17, (1, 0, 9999))) (by decide) rfl rfl (i := 5 + s) (by dsimp only; omega) (by dsimp only; omega)
  have e : h 188 (5 + s) = fedD D s := rf.ix.2.2.2.2.1 s hs
  rw [← e]
  exact ⟨k.1, k.2.1⟩
end FLW
