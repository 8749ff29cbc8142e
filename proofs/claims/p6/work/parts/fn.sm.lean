/-! ===== the state_w of both_w, side_w by side_w ===== -/
def nM (D : DD) : Nat := D.2.2.2.2.1.length
def nS (D : DD) : Nat := D.1.toNat
/-- the cells_w of a state_w that mean something -/
def inD (D : DD) (q : Nat) : Prop := q < 13 * nM D ∨ (78 ≤ q ∧ q < 78 + 12 * nM D) ∨ (150 ≤ q ∧ q < 150 + nS D) ∨ q = 162
def EqD (D : DD) (a b : Nat → Int) : Prop := ∀ q : Nat, inD D q → a q = b q
/-- a ledger of the class, in the reference's order_w -/
def cl (b : Nat) (h : XH) : Nat → Int := fun q => if q < 78 then h (b + 2) q else if q < 150 then h (b + 4) (q - 78) else if q < 162 then h (b + 6) (q - 150) else h b 10
/-- a block_w of the reference_w -/
def bl (c : Nat) (h : XH) : Nat → Int := fun q => h 194 (c + q)
/-- a deed taken_w back -/
def tkb (e : Nat → Int) (mn_w pn : Nat) (a : Nat → Int) : Nat → Int := fun q => if e 0 = 0 ∧ q = 13 * mn_w + pn then e 3 else if e 0 = 1 ∧ 78 + 12 * mn_w ≤ q ∧ q < 78 + 12 * mn_w + 12 then e (4 + (q - 78 - 12 * mn_w)) else if e 0 = 2 ∧ q = 150 + pn then e 3 else if e 0 = 3 ∧ q = 162 then a q - 1 else a q
def TBK (D : DD) (e a' a : Nat → Int) : Prop := ∃ mn_w pn : Nat, e 1 = (mn_w : Int) ∧ mn_w < 6 ∧ e 2 = (pn : Int) ∧ pn < 13 ∧ (e 0 = 0 ∨ e 0 = 1 ∨ (e 0 = 2 ∧ pn < 12) ∨ e 0 = 3) ∧ EqD D a (tkb e mn_w pn a')
def ent (i : Nat) (h : XH) : Nat → Int := fun k => h 156 (16 * i + k)
/-- what is_w ahead_w of a deed's block_w: the next one's, or_w now -/
def nxt (n i : Nat) (h : XH) : Nat → Int := if i + 1 = n then bl 0 h else bl (429 * (3 + (i + 1))) h
def PST (D : DD) (n : Nat) (h : XH) : Prop := n ≤ 8 ∧ h 154 1 = (n : Int) ∧ h 182 18 = (n : Int) ∧ ∀ i : Nat, i < n → TBK D (ent i h) (nxt n i h) (bl (429 * (3 + i)) h)
/-- what is_w seen_w -/
def SEN (b c : Nat) (h : XH) : Prop := ∃ n : Nat, n ≤ 8 ∧ h b 11 = (n : Int) ∧ h 194 (c + 404) = (n : Int) ∧ ∀ i : Nat, i < n → h (b + 16) i = h 194 (c + (405 + 3 * i)) ∧ h (b + 18) i = h 194 (c + (405 + 3 * i + 1)) ∧ h (b + 20) i = h 194 (c + (405 + 3 * i + 2))
def MKb (D : DD) (b c f g : Nat) (h : XH) : Prop := (h 195 g = 0 ∨ h 195 g = 1) ∧ (h 0 f = 0 ↔ h 195 g = 0) ∧ (h 195 g ≠ 0 → EqD D (cl b h) (bl c h) ∧ SEN b c h)
def SM (D : DD) (h : XH) : Prop := nM D ≤ 6 ∧ nS D ≤ 12 ∧ EqD D (cl 70 h) (bl 0 h) ∧ SEN 70 0 h ∧ (∃ n, PST D n h) ∧ MKb D 112 429 13 0 h ∧ MKb D 133 858 14 1 h
section SMS
variable {h h1 h2 h' : XH} {D : DD} {n : Nat} {a a' b' e e' : Nat → Int} {b c f g : Nat}
theorem inD.le (i : inD D b) (m : nM D ≤ 6) (s : nS D ≤ 12) : b ≤ 162 := by
  unfold inD at i
  omega
theorem EqD.tr {x y z : Nat → Int} (p : EqD D x y) (q : EqD D y z) : EqD D x z := fun k i => (p k i).trans (q k i)
theorem EqD.sy {x y : Nat → Int} (p : EqD D x y) : EqD D y x := fun k i => (p k i).symm
theorem EqD.of {x y : Nat → Int} (m : nM D ≤ 6) (s : nS D ≤ 12) (p : ∀ q : Nat, q ≤ 162 → x q = y q) : EqD D x y := fun k i => p k (i.le m s)
theorem tkb_cg {mn_w pn : Nat} (p : EqD D a a') (he : ∀ k : Nat, k < 16 → e k = e' k) : EqD D (tkb e mn_w pn a) (tkb e' mn_w pn a') := fun q i => by
  unfold tkb
  rw [he 0 (by decide), he 3 (by decide), p q i]
  by_cases y : e' 0 = 1 ∧ 78 + 12 * mn_w ≤ q ∧ q < 78 + 12 * mn_w + 12
  · rw [if_pos y, if_pos y, he _ (by omega)]
  · rw [if_neg y, if_neg y]
theorem TBK.cg (t : TBK D e a' a) (p1_w : EqD D a' b') {a1_w : Nat → Int} (p2_w : EqD D a a1_w) (he : ∀ k : Nat, k < 16 → e k = e' k) : TBK D e' b' a1_w := by
  obtain ⟨mn_w, pn, t1_w, t2_w, t3_w, t4_w, t5_w, t6⟩ := t
  refine ⟨mn_w, pn, (he 1 (by decide)).symm.trans t1_w, t2_w, (he 2 (by decide)).symm.trans t3_w, t4_w, by rw [← he 0 (by decide)]; exact t5_w, (p2_w.sy.tr t6).tr (tkb_cg p1_w he)⟩
theorem cl_eq (z : ∀ o k : Nat, b ≤ o → o ≤ b + 20 → h' o k = h o k) : cl b h' = cl b h := funext fun q => by
  unfold cl
  rw [z (b + 2) q (by omega) (by omega), z (b + 4) _ (by omega) (by omega), z (b + 6) _ (by omega) (by omega), z b 10 (by omega) (by omega)]
/-- one more_w deed on_w both_w sides -/
theorem PST.push (s : PST D n h) (m6_w : nM D ≤ 6) (s12 : nS D ≤ 12) (k1_w : h' 154 1 = ((pn8 n + 1 : Nat) : Int)) (k2 : h' 182 18 = ((pn8 n + 1 : Nat) : Int)) (k3 : ∀ k : Nat, k < 16 * pn8 n → h' 156 k = h 156 (if n = 8 then k + 16 else k)) (k4 : ∀ i : Nat, i < pn8 n → ∀ q : Nat, q < 404 → h' 194 (429 * (3 + i) + q) = h 194 (429 * (3 + (if n = 8 then i + 1 else i)) + q)) (k5 : ∀ q : Nat, q < 404 → h' 194 (429 * (3 + pn8 n) + q) = h 194 q) (k6 : TBK D (ent (pn8 n) h') (bl 0 h') (bl 0 h)) : PST D (pn8 n + 1) h' := by
  obtain ⟨n8, s1_w, s2_w, s3_w⟩ := s
  have p7_w : pn8 n ≤ 7 := by
    unfold pn8
    split <;> omega
  have b0 : EqD D (bl (429 * (3 + pn8 n)) h') (bl 0 h) := EqD.of m6_w s12 (fun q z => by
    show h' 194 (429 * (3 + pn8 n) + q) = h 194 (0 + q)
    rw [Nat.zero_add]
    exact k5 q (by omega))
  refine ⟨by omega, k1_w, k2, fun i z => ?_⟩
  by_cases yi : i = pn8 n
  · subst yi
    unfold nxt
    rw [if_pos rfl]
    exact k6.cg (fun _ _ => rfl) b0.sy (fun _ _ => rfl)
  · have ip : i < pn8 n := by omega
    unfold nxt
    rw [if_neg (by omega)]
    have bi : EqD D (bl (429 * (3 + (if n = 8 then i + 1 else i))) h) (bl (429 * (3 + i)) h') := EqD.of m6_w s12 (fun q z => (k4 i ip q (by omega)).symm)
    have ei : ∀ k : Nat, k < 16 → ent (if n = 8 then i + 1 else i) h k = ent i h' k := fun k z => by
      show h 156 (16 * (if n = 8 then i + 1 else i) + k) = h' 156 (16 * i + k)
      rw [k3 (16 * i + k) (by omega)]
      by_cases y8 : n = 8
      · rw [if_pos y8, if_pos y8]
        exact congrArg (h 156) (by omega)
      · rw [if_neg y8, if_neg y8]
    have t := s3_w (if n = 8 then i + 1 else i) (by
      unfold pn8 at ip
      split at ip
      · rw [if_pos (by assumption)]
        omega
      · rw [if_neg (by assumption)]
        exact ip)
    refine t.cg ?_ bi ei
    unfold nxt
    by_cases y8 : n = 8
    · have e7_w : pn8 n = 7 := if_pos y8
      rw [if_pos y8]
      by_cases y6 : i + 1 = 7
      · rw [if_pos (by omega), show i + 1 = pn8 n by omega]
        exact b0.sy
      · rw [if_neg (by omega)]
        refine EqD.of m6_w s12 (fun q z => ?_)
        have := k4 (i + 1) (by omega) q (by omega)
        rw [if_pos y8] at this
        exact this.symm
    · have e7_w : pn8 n = n := if_neg y8
      rw [if_neg y8]
      by_cases y6 : i + 1 = n
      · rw [if_pos y6, show i + 1 = pn8 n by omega]
        exact b0.sy
      · rw [if_neg y6]
        refine EqD.of m6_w s12 (fun q z => ?_)
        have := k4 (i + 1) (by omega) q (by omega)
        rw [if_neg y8] at this
        exact this.symm
/-- the last_w deed off_w on_w both_w sides: what is_w now is_w what was ahead_w of it -/
theorem PST.pop (s : PST D (n + 1) h) (m6_w : nM D ≤ 6) (s12 : nS D ≤ 12) (k1_w : h' 154 1 = (n : Int)) (k2 : h' 182 18 = (n : Int)) (k3 : ∀ k : Nat, h' 156 k = h 156 k) (k4 : ∀ q : Nat, 1287 ≤ q → q < 4719 → h' 194 q = h 194 q) (k5 : ∀ q : Nat, q < 404 → h' 194 q = h 194 (429 * (3 + n) + q)) : PST D n h' := by
  obtain ⟨n8, s1_w, s2_w, s3_w⟩ := s
  refine ⟨by omega, k1_w, k2, fun i z => (s3_w i (by omega)).cg ?_ (EqD.of m6_w s12 (fun q zq => (k4 _ (by omega) (by omega)).symm)) (fun k _ => (k3 _).symm)⟩
  unfold nxt
  rw [if_neg (by omega)]
  by_cases y : i + 1 = n
  · rw [if_pos y]
    refine EqD.of m6_w s12 (fun q zq => ?_)
    show h 194 (429 * (3 + (i + 1)) + q) = h' 194 (0 + q)
    rw [Nat.zero_add, k5 q (by omega), y]
  · rw [if_neg y]
    exact EqD.of m6_w s12 (fun q zq => (k4 _ (by omega) (by omega)).symm)
theorem SEN.fr (s : SEN b c h) (z1 : ∀ o k : Nat, b ≤ o → o ≤ b + 20 → h' o k = h o k) (z2 : ∀ k : Nat, c + 404 ≤ k → k < c + 429 → h' 194 k = h 194 k) : SEN b c h' := by
  obtain ⟨n, s1_w, s2_w, s3_w, s4_w⟩ := s
  refine ⟨n, s1_w, (z1 _ _ (by omega) (by omega)).trans s2_w, (z2 _ (by omega) (by omega)).trans s3_w, fun i z => ?_⟩
  rw [z1 (b + 16) _ (by omega) (by omega), z1 (b + 18) _ (by omega) (by omega), z1 (b + 20) _ (by omega) (by omega), z2 _ (by omega) (by omega), z2 _ (by omega) (by omega), z2 _ (by omega) (by omega)]
  exact s4_w i z
theorem MKb.fr (s : MKb D b c f g h) (m6_w : nM D ≤ 6) (s12 : nS D ≤ 12) (z0 : h' 0 f = h 0 f) (z1 : ∀ o k : Nat, b ≤ o → o ≤ b + 20 → h' o k = h o k) (z2 : ∀ k : Nat, c ≤ k → k < c + 429 → h' 194 k = h 194 k) (z3 : h' 195 g = h 195 g) : MKb D b c f g h' := by
  obtain ⟨s1_w, s2_w, s3_w⟩ := s
  refine ⟨by rw [z3]; exact s1_w, by rw [z0, z3]; exact s2_w, fun y => ?_⟩
  obtain ⟨s4_w, s5⟩ := s3_w (by rw [← z3]; exact y)
  refine ⟨?_, s5.fr z1 (fun k a b => z2 k (by omega) b)⟩
  rw [cl_eq z1]
  exact s4_w.tr (EqD.of m6_w s12 (fun q z => (z2 _ (by omega) (by omega)).symm))
theorem PST.fr (s : PST D n h) (m6_w : nM D ≤ 6) (s12 : nS D ≤ 12) (z1 : ∀ o k : Nat, 154 ≤ o → o ≤ 156 → h' o k = h o k) (z2 : ∀ k : Nat, k < 4719 → h' 194 k = h 194 k) (z3 : h' 182 18 = h 182 18) : PST D n h' := by
  obtain ⟨n8, s1_w, s2_w, s3_w⟩ := s
  refine ⟨n8, (z1 _ _ (by decide) (by decide)).trans s1_w, z3.trans s2_w, fun i z => (s3_w i z).cg ?_ (EqD.of m6_w s12 (fun q zq => (z2 _ (by omega)).symm)) (fun k _ => (z1 156 _ (by decide) (by decide)).symm)⟩
  unfold nxt
  by_cases y : i + 1 = n
  · rw [if_pos y, if_pos y]
    exact EqD.of m6_w s12 (fun q zq => (z2 _ (by omega)).symm)
  · rw [if_neg y, if_neg y]
    exact EqD.of m6_w s12 (fun q zq => (z2 _ (by omega)).symm)
/-- a call that changes_w nothing_w of the state_w -/
theorem SM.fr (s : SM D h) (z0 : h' 0 13 = h 0 13 ∧ h' 0 14 = h 0 14) (z1 : ∀ o k : Nat, 70 ≤ o → o ≤ 90 ∨ (112 ≤ o ∧ o ≤ 156) → o ≤ 156 → h' o k = h o k) (z2 : ∀ k : Nat, k < 4719 → h' 194 k = h 194 k) (z3 : h' 182 18 = h 182 18) (z4 : h' 195 0 = h 195 0 ∧ h' 195 1 = h 195 1) : SM D h' := by
  obtain ⟨m6_w, s12, s1_w, s2_w, ⟨n, s3_w⟩, s4_w, s5⟩ := s
  have z70 : ∀ o k : Nat, 70 ≤ o → o ≤ 70 + 20 → h' o k = h o k := fun o k a b => z1 o k a (Or.inl b) (by omega)
  have z112 : ∀ o k : Nat, 112 ≤ o → o ≤ 112 + 20 → h' o k = h o k := fun o k a b => z1 o k (by omega) (Or.inr ⟨a, by omega⟩) (by omega)
  have z133 : ∀ o k : Nat, 133 ≤ o → o ≤ 133 + 20 → h' o k = h o k := fun o k a b => z1 o k (by omega) (Or.inr ⟨by omega, by omega⟩) (by omega)
  refine ⟨m6_w, s12, ?_, s2_w.fr z70 (fun k a b => z2 k (by omega)), ⟨n, s3_w.fr m6_w s12 (fun o k a b => z1 o k (by omega) (Or.inr ⟨by omega, b⟩) b) z2 z3⟩, s4_w.fr m6_w s12 z0.1 z112 (fun k a b => z2 k (by omega)) z4.1, s5.fr m6_w s12 z0.2 z133 (fun k a b => z2 k (by omega)) z4.2⟩
  rw [cl_eq z70]
  exact s1_w.tr (EqD.of m6_w s12 (fun q z => (z2 _ (by omega)).symm))
end SMS
