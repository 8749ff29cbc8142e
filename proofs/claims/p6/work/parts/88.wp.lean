/-! ===== what is_w to hold ahead_w, for_w what is_w to hold behind_w: expressions and statements of the reference_w and the class, by hand_w ===== -/
abbrev WQ : Type := List Int → XH → Prop
abbrev WE : Type := List Int → XH → WQ → Prop
abbrev WC : Type := List Int → XH → (XH → Prop) → (XH → Prop) → Prop
abbrev WR : Type := Nat → List Int → List Int → XH → Prop
abbrev WS : Type := List Int → XH → WR → Prop
section WPD
variable (g : XS × Nat × Nat) (F : XP) (K : Nat)
/-- the truth of an expression that is_w no condition by itself_w -/
def w_nz (A : WE) : WC := fun en h Qt Qf => A en h fun x h1 => (j_hd x ≠ 0 → Qt h1) ∧ (j_hd x = 0 → Qf h1)
def w_cmp (k : Nat) (A B : WE) : WC := fun en h Qt Qf => A en h fun x h1 => B en h1 fun y h2 => (j_cmp k (j_hd x) (j_hd y) = true → Qt h2) ∧ (j_cmp k (j_hd x) (j_hd y) = false → Qf h2)
def w_cmp0 (k : Nat) (A : WE) : WC := fun en h Qt Qf => A en h fun x h1 => (j_cmp k (j_hd x) 0 = true → Qt h1) ∧ (j_cmp k (j_hd x) 0 = false → Qf h1)
def w_and (A B : WC) : WC := fun en h Qt Qf => A en h (fun h1 => B en h1 Qt Qf) Qf
def w_or (A B : WC) : WC := fun en h Qt Qf => A en h Qt (fun h1 => B en h1 Qt Qf)
def w_not (A : WC) : WC := fun en h Qt Qf => A en h Qf Qt
/-- a condition as_w a number_w -/
def w_b (A : WC) : WE := fun en h Q => A en h (fun h1 => Q [1] h1) (fun h1 => Q [0] h1)
def w_call (f : Nat) (A : WE) : WE := fun en h Q => A en h fun av h1 => ∃ r h2, F f av (g, h1) = some (1, r, (g, h2)) ∧ Q r h2
def wNE (t : Nat) (a b c : SX) (A B C : WE × WC) : WE := match t with
  | 1 => fun _ h Q => Q [sx_c a b c] h
  | 3 => fun en h Q => Q [en.getD (sx_n a) 0] h
  | 4 => fun en h Q => A.1 en h fun x h1 => Q [h1 (j_hd x).toNat (sx_n b)] h1
  | 5 => fun en h Q => A.1 en h fun x h1 => ∃ r, j_rf g.1 (j_hd x).toNat (sx_n b) = some r ∧ Q [r] h1
  | 7 => fun en h Q => A.1 en h fun x h1 => B.1 en h1 fun y h2 => sx_n c = 0 ∧ (0 ≤ j_hd y ∧ j_hd y < j_len g.1 (j_hd x).toNat) ∧ Q [h2 (j_hd x).toNat (j_hd y).toNat] h2
  | 10 => fun en h Q => A.1 en h fun x h1 => sx_n c = 0 ∧ Q [j_len g.1 (j_hd x).toNat] h1
  | 14 => fun en h Q => A.1 en h fun x h1 => B.1 en h1 fun y h2 => Q [j_iop (sx_n c) (j_hd x) (j_hd y)] h2
  | 15 => fun en h Q => A.1 en h fun x h1 => B.1 en h1 fun y h2 => Q [j_lop (sx_n c) (j_hd x) (j_hd y)] h2
  | 16 => fun en h Q => A.1 en h fun x h1 => B.1 en h1 fun y h2 => Q [j_lsh (sx_n c) (j_hd x) (j_hd y)] h2
  | 17 => fun en h Q => A.1 en h fun x h1 => B.1 en h1 fun y h2 => j_hd y ≠ 0 ∧ Q [j_div (sx_n c) (j_hd x) (j_hd y)] h2
  | 18 => fun en h Q => A.1 en h fun x h1 => Q [j_un (sx_n c) (j_hd x)] h1
  | 20 => w_b (w_cmp (sx_n c) A.1 B.1)
  | 21 => w_b (w_cmp0 (sx_n c) A.1)
  | 22 => w_b (w_cmp (sx_n c) A.1 B.1)
  | 23 => w_b (w_cmp (sx_n c) A.1 B.1)
  | 24 => A.1
  | 25 => w_b (w_and A.2 B.2)
  | 26 => w_b (w_or A.2 B.2)
  | 27 => w_b (w_not A.2)
  | 28 => fun en h Q => A.2 en h (fun h1 => B.1 en h1 Q) (fun h1 => C.1 en h1 Q)
  | 30 => fun en h Q => A.1 en h fun x h1 => B.1 en h1 fun y h2 => Q (x ++ y) h2
  | 31 => fun _ h Q => Q [] h
  | 32 => w_call g F (sx_n b) A.1
  | _ => fun _ _ _ => False
def wNC (t : Nat) (a b c : SX) (A B C : WE × WC) : WC := match t with
  | 20 => w_cmp (sx_n c) A.1 B.1
  | 21 => w_cmp0 (sx_n c) A.1
  | 22 => w_cmp (sx_n c) A.1 B.1
  | 23 => w_cmp (sx_n c) A.1 B.1
  | 24 => A.2
  | 25 => w_and A.2 B.2
  | 26 => w_or A.2 B.2
  | 27 => w_not A.2
  | _ => w_nz (wNE g F t a b c A B C)
def wP : SX → WE × WC
  | .op (.var t) (.op a (.op b c)) => (wNE g F t a b c (wP a) (wP b) (wP c), wNC g F t a b c (wP a) (wP b) (wP c))
  | _ => (fun _ _ _ => False, fun _ _ _ _ => False)
def wE (t : SX) : WE := (wP g F t).1
def wC (t : SX) : WC := (wP g F t).2
def w_seq (A B : WS) : WS := fun en h Q => A en h fun c vs en1 h1 => (c = 0 → B en1 h1 Q) ∧ (c ≠ 0 → Q c vs en1 h1)
def w_if (A : WC) (B C : WS) : WS := fun en h Q => A en h (fun h1 => B en h1 Q) (fun h1 => C en h1 Q)
def w_loop (A : WC) (B P : WS) : WS := fun en h Q => ∃ (I : List Int → XH → Prop) (m : List Int → XH → Nat), I en h ∧ ∀ en h, I en h → m en h < K ∧ A en h (fun h1 => B en h1 fun c vs en1 h2 =>
    (c = 0 ∨ c = 3 → P en1 h2 fun c' _ en2 h3 => c' = 0 ∧ I en2 h3 ∧ m en2 h3 < m en h) ∧ (c = 2 → Q 0 [] en1 h2) ∧ (c ≠ 0 → c ≠ 2 → c ≠ 3 → Q c vs en1 h2)) (fun h1 => Q 0 [] en h1)
def w_do (B : WS) (A : WC) : WS := fun en h Q => ∃ (I : List Int → XH → Prop) (m : List Int → XH → Nat), I en h ∧ ∀ en h, I en h → m en h < K ∧ B en h fun c vs en1 h2 =>
    (c = 0 ∨ c = 3 → A en1 h2 (fun h3 => I en1 h3 ∧ m en1 h3 < m en h) (fun h3 => Q 0 [] en1 h3)) ∧ (c = 2 → Q 0 [] en1 h2) ∧ (c ≠ 0 → c ≠ 2 → c ≠ 3 → Q c vs en1 h2)
def w_sw (A : WE) (B : WS) : WS := fun en h Q => A en h fun x h1 => B (j_hd x :: en) h1 fun c vs en1 h2 => (c = 2 → Q 0 vs en1 h2) ∧ (c ≠ 2 → Q c vs en1 h2)
def w_ty (ty_w : Nat) (v : Int) : Int := match ty_w with
  | 8 => ((Int32.ofInt v).toInt8.toInt32).toInt
  | 9 => (Int32.ofInt v &&& 1).toInt
  | _ => v
def wNS (t : Nat) (a b c : SX) (A B C : WS) : WS := match t with
  | 1 => fun en h Q => Q 0 [] en h
  | 2 => w_seq A B
  | 3 => fun en h Q => wE g F b en h fun x h1 => Q 0 [] (en.set (sx_n a) (j_hd x)) h1
  | 4 => fun en h Q => Q 0 [] (en.set (sx_n a) (j32 (en.getD (sx_n a) 0 + (if sx_n c = 0 then (sx_n b : Int) else -(sx_n b : Int))))) h
  | 5 => fun en h Q => wE g F a en h fun x h1 => wE g F b en h1 fun y h2 => Q 0 [] en (j_up h2 (j_hd x).toNat (sx_n c) (j_hd y))
  | 6 => fun en h Q => wE g F a en h fun x h1 => wE g F b en h1 fun y h2 => Q 0 [] en (j_up h2 (j_hd x).toNat (sx_n c / 16) (j_iop (sx_n c % 16) (h1 (j_hd x).toNat (sx_n c / 16)) (j_hd y)))
  | 7 => match c with
    | .op (.var ty_w) v => fun en h Q => wE g F a en h fun x h1 => wE g F b en h1 fun y h2 => wE g F v en h2 fun z h3 => (0 ≤ j_hd y ∧ j_hd y < j_len g.1 (j_hd x).toNat) ∧ Q 0 [] en (j_up h3 (j_hd x).toNat (j_hd y).toNat (w_ty ty_w (j_hd z)))
    | _ => fun _ _ _ => False
  | 8 => match c with
    | .op (.var op_w) v => fun en h Q => wE g F a en h fun x h1 => wE g F b en h1 fun y h2 => (0 ≤ j_hd y ∧ j_hd y < j_len g.1 (j_hd x).toNat) ∧ wE g F v en h2 fun z h3 => Q 0 [] en (j_up h3 (j_hd x).toNat (j_hd y).toNat (j_iop op_w (h2 (j_hd x).toNat (j_hd y).toNat) (j_hd z)))
    | _ => fun _ _ _ => False
  | 9 => fun en h Q => wE g F a en h fun _ h1 => Q 0 [] en h1
  | 10 => w_if (wC g F a) B (fun en h Q => Q 0 [] en h)
  | 11 => w_if (wC g F a) B C
  | 12 => w_loop K (wC g F a) B C
  | 13 => w_do K B (wC g F a)
  | 14 => fun en h Q => Q 2 [] en h
  | 15 => fun en h Q => Q 3 [] en h
  | 16 => fun en h Q => wE g F a en h fun x h1 => Q 1 x en h1
  | 27 => fun en h Q => wE g F a en h fun x h1 => (j_hd x = 0 ∨ j_hd x = 1) ∧ Q 1 x en h1
  | 17 => fun en h Q => Q 1 [] en h
  | 19 => w_sw (wE g F a) B
  | 20 => A
  | 22 => fun en h Q => Q 0 [] en h
  | 23 => fun en h Q => wE g F a en h fun x h1 => wE g F b en h1 fun y h2 => (j_hd y = 0 ∨ j_hd y = 1) ∧ Q 0 [] en (j_up h2 (j_hd x).toNat (sx_n c) (j_hd y))
  | 28 => w_if (wC g F a) B (fun en h Q => Q 2 [] en h)
  | 25 => fun en h Q => ((sx_l a).any (fun n => decide (en.headD 0 = sx_z n)) = true → B en.tail h fun c vs en1 h1 => c ≠ 0 ∧ Q c vs en1 h1) ∧ ((sx_l a).any (fun n => decide (en.headD 0 = sx_z n)) = false → C en h Q)
  | 26 => fun en h Q => A en.tail h Q
  | _ => fun _ _ _ => False
def wS : SX → WS
  | .op (.var t) (.op a (.op b c)) => wNS g F K t a b c (wS a) (wS b) (wS c)
  | _ => fun _ _ _ => False
end WPD
/-! ===== it is_w right ===== -/
section WPO
variable {xs : Nat → Int} {L K : Nat} {ck : Nat → List Nat} {F : XP} {cW : Nat → Nat → Int} {g : XS × Nat × Nat}
def WkE (g : XS × Nat × Nat) (W : WE) (A : XE) : Prop := ∀ en h Q, W en h Q → ∃ r h', A en (g, h) = some (r, (g, h')) ∧ Q r h'
def WkC (g : XS × Nat × Nat) (W : WC) (A : XE) : Prop := ∀ en h Qt Qf, W en h Qt Qf → ∃ r h', A en (g, h) = some (r, (g, h')) ∧ (j_hd r ≠ 0 → Qt h') ∧ (j_hd r = 0 → Qf h')
def WkB (g : XS × Nat × Nat) (W : WC) (A : XE) : Prop := ∀ en h Qt Qf, W en h Qt Qf → ∃ v h', A en (g, h) = some ([v], (g, h')) ∧ (v = 0 ∨ v = 1) ∧ (v ≠ 0 → Qt h') ∧ (v = 0 → Qf h')
theorem WkB.c {W : WC} {A : XE} (h : WkB g W A) : WkC g W A := fun en hh Qt Qf k => by
  obtain ⟨v, h', e1_w, -, e2_w⟩ := h en hh Qt Qf k
  exact ⟨[v], h', e1_w, e2_w⟩
theorem WkB.e {W : WC} {A : XE} (h : WkB g W A) : WkE g (w_b W) A := fun en hh Q k => by
  obtain ⟨v, h', e1_w, e3_w, e2_w, e4_w⟩ := h en hh _ _ k
  refine ⟨[v], h', e1_w, ?_⟩
  rcases e3_w with rfl | rfl
  · exact e4_w rfl
  · exact e2_w (by decide)
theorem okb_cmp {k : Nat} {A B : WE} {A' B' : XE} (hA : WkE g A A') (hB_w : WkE g B B') : WkB g (w_cmp k A B) (n_cmp (j_cmp k) A' B') := fun en h Qt Qf hw => by
  obtain ⟨x, h1, a1_w, hw⟩ := hA en h _ hw
  obtain ⟨y, h2, b1, hw⟩ := hB_w en h1 _ hw
  have e : n_cmp (j_cmp k) A' B' en (g, h) = some ([j_b (j_cmp k (j_hd x) (j_hd y))], (g, h2)) := by
    unfold n_cmp
    rw [a1_w, Option.bind_some, b1]
    rfl
  refine ⟨_, h2, e, j_b01 _, fun h0 => hw.1 (b_ne h0), fun h0 => hw.2 (b_eq h0)⟩
theorem okb_cmp0 {k : Nat} {A : WE} {A' X : XE} (hA : WkE g A A') (hX : ∀ en st, X en st = (A' en st).bind fun x => some ([j_b (j_cmp k (j_hd x.1) 0)], x.2)) : WkB g (w_cmp0 k A) X := fun en h Qt Qf hw => by
  obtain ⟨x, h1, a1_w, hw⟩ := hA en h _ hw
  refine ⟨j_b (j_cmp k (j_hd x) 0), h1, by rw [hX, a1_w]; rfl, j_b01 _, fun h0 => hw.1 (b_ne h0), fun h0 => hw.2 (b_eq h0)⟩
theorem okb_nz {B : WC} {B' : XE} (hB_w : WkC g B B') : WkB g B (n_nz B') := fun en h Qt Qf hw => by
  obtain ⟨v, h1, b1, b2, b3⟩ := hB_w en h _ _ hw
  refine ⟨j_b (decide (j_hd v ≠ 0)), h1, by unfold n_nz; rw [b1]; rfl, j_b01 _, fun h0 => b2 (of_decide_eq_true (b_ne h0)), fun h0 => b3 (Decidable.of_not_not (of_decide_eq_false (b_eq h0)))⟩
theorem okb_and {A B : WC} {A' B' : XE} (hA : WkC g A A') (hB_w : WkC g B B') : WkB g (w_and A B) (n_ife A' (n_nz B') (fun _ st => some ([0], st))) := fun en h Qt Qf hw => by
  obtain ⟨v, h1, a1_w, a2, a3⟩ := hA en h _ _ hw
  unfold n_ife
  rw [a1_w, Option.bind_some]
  by_cases h0 : j_hd v = 0
  · exact ⟨0, h1, if_pos h0, Or.inl rfl, fun k => absurd rfl k, fun _ => a3 h0⟩
  · obtain ⟨w, h2, b1, b2, b3⟩ := okb_nz hB_w en h1 _ _ (a2 h0)
    exact ⟨w, h2, (if_neg h0).trans b1, b2, b3⟩
theorem okb_or {A B : WC} {A' B' : XE} (hA : WkC g A A') (hB_w : WkC g B B') : WkB g (w_or A B) (n_ife A' (fun _ st => some ([1], st)) (n_nz B')) := fun en h Qt Qf hw => by
  obtain ⟨v, h1, a1_w, a2, a3⟩ := hA en h _ _ hw
  unfold n_ife
  rw [a1_w, Option.bind_some]
  by_cases h0 : j_hd v = 0
  · obtain ⟨w, h2, b1, b2, b3⟩ := okb_nz hB_w en h1 _ _ (a3 h0)
    exact ⟨w, h2, (if_pos h0).trans b1, b2, b3⟩
  · exact ⟨1, h1, if_neg h0, Or.inr rfl, fun _ => a2 h0, fun k => absurd k (by decide)⟩
theorem okb_not {A : WC} {A' X : XE} (hA : WkC g A A') (hX : ∀ en st, X en st = (A' en st).bind fun x => some ([j_b (decide (j_hd x.1 = 0))], x.2)) : WkB g (w_not A) X := fun en h Qt Qf hw => by
  obtain ⟨v, h1, a1_w, a2, a3⟩ := hA en h _ _ hw
  refine ⟨j_b (decide (j_hd v = 0)), h1, by rw [hX, a1_w]; rfl, j_b01 _, fun h0 => a3 (of_decide_eq_true (b_ne h0)), fun h0 => a2 (of_decide_eq_false (b_eq h0))⟩
theorem okc_nz {A : WE} {A' : XE} (hA : WkE g A A') : WkC g (w_nz A) A' := fun en h Qt Qf hw => by
  obtain ⟨r, h', a1_w, a2⟩ := hA en h _ hw
  exact ⟨r, h', a1_w, a2.1, a2.2⟩
theorem oke_ife {A : WC} {B C : WE} {A' B' C'_w : XE} (hA : WkC g A A') (hB_w : WkE g B B') (hC : WkE g C C'_w) : WkE g (fun en h Q => A en h (fun h1 => B en h1 Q) (fun h1 => C en h1 Q)) (n_ife A' B' C'_w) := fun en h Q hw => by
  obtain ⟨r, h1, a1_w, a2, a3⟩ := hA en h _ _ hw
  unfold n_ife
  rw [a1_w, Option.bind_some]
  by_cases h0 : j_hd r = 0
  · obtain ⟨v, h2, b1, b2⟩ := hC en h1 _ (a3 h0)
    exact ⟨v, h2, (if_pos h0).trans b1, b2⟩
  · obtain ⟨v, h2, b1, b2⟩ := hB_w en h1 _ (a2 h0)
    exact ⟨v, h2, (if_neg h0).trans b1, b2⟩
theorem oke_1 {A : WE} {A' X : XE} (hA : WkE g A A') {f : List Int → XH → List Int} (hX : ∀ en st, X en st = (A' en st).bind fun x => some (f x.1 x.2.2, x.2)) : WkE g (fun en h Q => A en h fun x h1 => Q (f x h1) h1) X := fun en h Q hw => by
  obtain ⟨x, h1, a1_w, hw⟩ := hA en h _ hw
  exact ⟨_, h1, by rw [hX, a1_w]; rfl, hw⟩
theorem oke_2 {A B : WE} {A' B' X : XE} (hA : WkE g A A') (hB_w : WkE g B B') {f : List Int → List Int → List Int} (hX : ∀ en st, X en st = (A' en st).bind fun x => (B' en x.2).bind fun y => some (f x.1 y.1, y.2)) : WkE g (fun en h Q => A en h fun x h1 => B en h1 fun y h2 => Q (f x y) h2) X := fun en h Q hw => by
  obtain ⟨x, h1, a1_w, hw⟩ := hA en h _ hw
  obtain ⟨y, h2, b1, hw⟩ := hB_w en h1 _ hw
  exact ⟨_, h2, by rw [hX, a1_w, Option.bind_some, b1]; rfl, hw⟩
theorem wP_ok : ∀ (t : SX), WkE g (wP g F t).1 (evE xs L ck F cW t) ∧ WkC g (wP g F t).2 (evE xs L ck F cW t)
  | .op (.var t) (.op a (.op b c)) => by
    obtain ⟨eA_w, cA_w⟩ := wP_ok a
    obtain ⟨eB, cB_w⟩ := wP_ok b
    obtain ⟨eC_w, cC⟩ := wP_ok c
    have k20 : WkB g (w_cmp (sx_n c) (wP g F a).1 (wP g F b).1) (n_cmp (j_cmp (sx_n c)) (evE xs L ck F cW a) (evE xs L ck F cW b)) := okb_cmp eA_w eB
    have k21 : WkB g (w_cmp0 (sx_n c) (wP g F a).1) (nodeE xs L ck F cW 21 a b c (evE xs L ck F cW a) (evE xs L ck F cW b) (evE xs L ck F cW c)) := okb_cmp0 eA_w (fun _ _ => rfl)
    have k25 := okb_and cA_w cB_w
    have k26 := okb_or cA_w cB_w
    have k27 : WkB g (w_not (wP g F a).2) (nodeE xs L ck F cW 27 a b c (evE xs L ck F cW a) (evE xs L ck F cW b) (evE xs L ck F cW c)) := okb_not cA_w (fun _ _ => rfl)
    have hE : WkE g (wNE g F t a b c (wP g F a) (wP g F b) (wP g F c)) (nodeE xs L ck F cW t a b c (evE xs L ck F cW a) (evE xs L ck F cW b) (evE xs L ck F cW c)) := by
      unfold wNE
      split
      · exact fun en h Q hw => ⟨_, h, rfl, hw⟩
      · exact fun en h Q hw => ⟨_, h, rfl, hw⟩
      · exact oke_1 eA_w (fun _ _ => rfl)
      · intro en h Q hw
        obtain ⟨x, h1, a1_w, r, hr, hw⟩ := eA_w en h _ hw
        refine ⟨[r], h1, ?_, hw⟩
        show (evE xs L ck F cW a en (g, h)).bind _ = _
        rw [a1_w, Option.bind_some]
        show (j_rf g.1 (j_hd x).toNat (sx_n b)).bind _ = _
        rw [hr]
        rfl
      · intro en h Q hw
        obtain ⟨x, h1, a1_w, hw⟩ := eA_w en h _ hw
        obtain ⟨y, h2, b1, hc_w, hb_w, hw⟩ := eB en h1 _ hw
        refine ⟨_, h2, ?_, hw⟩
        show n_aload xs L (sx_n c) _ _ en _ = _
        unfold n_aload
        rw [a1_w, Option.bind_some, b1, Option.bind_some, hc_w]
        exact if_pos hb_w
      · intro en h Q hw
        obtain ⟨x, h1, a1_w, hc_w, hw⟩ := eA_w en h _ hw
        refine ⟨_, h1, ?_, hw⟩
        show n_alen L (sx_n c) _ en _ = _
        unfold n_alen
        rw [a1_w, Option.bind_some, hc_w]
        rfl
      · exact oke_2 eA_w eB (fun _ _ => rfl)
      · exact oke_2 eA_w eB (fun _ _ => rfl)
      · exact oke_2 eA_w eB (fun _ _ => rfl)
      · intro en h Q hw
        obtain ⟨x, h1, a1_w, hw⟩ := eA_w en h _ hw
        obtain ⟨y, h2, b1, hb_w, hw⟩ := eB en h1 _ hw
        refine ⟨_, h2, ?_, hw⟩
        show (evE xs L ck F cW a en (g, h)).bind _ = _
        rw [a1_w, Option.bind_some]
        show (evE xs L ck F cW b en (g, h1)).bind _ = _
        rw [b1, Option.bind_some]
        exact if_neg hb_w
      · exact oke_1 eA_w (fun _ _ => rfl)
      · exact k20.e
      · exact k21.e
      · exact k20.e
      · exact k20.e
      · exact eA_w
      · exact k25.e
      · exact k26.e
      · exact k27.e
      · exact oke_ife cA_w eB eC_w
      · exact oke_2 eA_w eB (fun _ _ => rfl)
      · exact fun en h Q hw => ⟨_, h, rfl, hw⟩
      · intro en h Q hw
        obtain ⟨av, h1, a1_w, r, h2, hr, hw⟩ := eA_w en h _ hw
        refine ⟨r, h2, ?_, hw⟩
        show n_call F (sx_n b) _ en _ = _
        unfold n_call
        rw [a1_w, Option.bind_some, hr]
        rfl
      · exact fun _ _ _ hw => hw.elim
    refine ⟨hE, ?_⟩
    show WkC g (wNC g F t a b c (wP g F a) (wP g F b) (wP g F c)) (nodeE xs L ck F cW t a b c (evE xs L ck F cW a) (evE xs L ck F cW b) (evE xs L ck F cW c))
    unfold wNC
    split
    · exact k20.c
    · exact k21.c
    · exact k20.c
    · exact k20.c
    · exact cA_w
    · exact k25.c
    · exact k26.c
    · exact k27.c
    · exact okc_nz hE
  | .var _ => ⟨fun _ _ _ hw => hw.elim, fun _ _ _ _ hw => hw.elim⟩
  | .op (.op _ _) _ => ⟨fun _ _ _ hw => hw.elim, fun _ _ _ _ hw => hw.elim⟩
  | .op (.var _) (.var _) => ⟨fun _ _ _ hw => hw.elim, fun _ _ _ _ hw => hw.elim⟩
  | .op (.var _) (.op _ (.var _)) => ⟨fun _ _ _ hw => hw.elim, fun _ _ _ _ hw => hw.elim⟩
def WkS (g : XS × Nat × Nat) (W : WS) (A : XR) : Prop := ∀ en h Q, W en h Q → ∃ c vs en' h', A en (g, h) = some (c, vs, en', (g, h')) ∧ Q c vs en' h'
theorem oks_c (k : Nat) : WkS g (fun en h Q => Q k [] en h) (fun en st => some (k, [], en, st)) := fun en h Q hw => ⟨k, [], en, h, rfl, hw⟩
theorem oks_seq {A B : WS} {A' B' : XR} (hA : WkS g A A') (hB_w : WkS g B B') : WkS g (w_seq A B) (s_seq A' B') := fun en h Q hw => by
  obtain ⟨c, vs, en1, h1, a1_w, a2, a3⟩ := hA en h _ hw
  unfold s_seq
  rw [a1_w, Option.bind_some]
  dsimp only
  by_cases h0 : c = 0
  · rw [if_pos h0]
    exact hB_w en1 h1 Q (a2 h0)
  · rw [if_neg h0]
    exact ⟨c, vs, en1, h1, rfl, a3 h0⟩
theorem oks_if {A : WC} {B C : WS} {A' : XE} {B' C'_w : XR} (hA : WkC g A A') (hB_w : WkS g B B') (hC : WkS g C C'_w) : WkS g (w_if A B C) (s_if A' B' C'_w) := fun en h Q hw => by
  obtain ⟨r, h1, a1_w, a2, a3⟩ := hA en h _ _ hw
  unfold s_if
  rw [a1_w, Option.bind_some]
  dsimp only
  by_cases h0 : j_hd r = 0
  · rw [if_pos h0]
    exact hC en h1 Q (a3 h0)
  · rw [if_neg h0]
    exact hB_w en h1 Q (a2 h0)
theorem oks_loop {A : WC} {B P : WS} {A' : XE} {B' P'_w : XR} (hA : WkC g A A') (hB_w : WkS g B B') (hP : WkS g P P'_w) : WkS g (w_loop K A B P) (s_loop A' B' P'_w K) := fun en h Q hw => by
  obtain ⟨I, m, hI, hs⟩ := hw
  have key_w : ∀ k en h, I en h → m en h < k → ∃ c vs en' h', s_loop A' B' P'_w k en (g, h) = some (c, vs, en', (g, h')) ∧ Q c vs en' h' := by
    intro k
    induction k with
    | zero => exact fun en h _ hk => absurd hk (by omega)
    | succ k ih_w =>
      intro en h hI hk
      obtain ⟨-, hw⟩ := hs en h hI
      obtain ⟨r, h1, a1_w, a2, a3⟩ := hA en h _ _ hw
      unfold s_loop
      rw [a1_w, Option.bind_some]
      dsimp only
      by_cases h0 : j_hd r = 0
      · rw [if_pos h0]
        exact ⟨0, [], en, h1, rfl, a3 h0⟩
      · rw [if_neg h0]
        obtain ⟨c, vs, en1, h2, b1, b2, b3, b4⟩ := hB_w en h1 _ (a2 h0)
        rw [b1, Option.bind_some]
        dsimp only
        by_cases c0 : c = 0 ∨ c = 3
        · rw [if_pos c0]
          obtain ⟨c', vs', en2, h3, p1_w, p2_w, p3_w, p4_w⟩ := hP en1 h2 _ (b2 c0)
          rw [p1_w, Option.bind_some]
          dsimp only
          rw [if_pos p2_w]
          exact ih_w en2 h3 p3_w (by omega)
        · rw [if_neg c0]
          by_cases c2 : c = 2
          · rw [if_pos c2]
            exact ⟨0, [], en1, h2, rfl, b3 c2⟩
          · rw [if_neg c2]
            exact ⟨c, vs, en1, h2, rfl, b4 (fun e => c0 (Or.inl e)) c2 (fun e => c0 (Or.inr e))⟩
  exact key_w K en h hI (hs en h hI).1
theorem oks_do {B : WS} {A : WC} {A' : XE} {B' : XR} (hA : WkC g A A') (hB_w : WkS g B B') : WkS g (w_do K B A) (s_do B' A' K) := fun en h Q hw => by
  obtain ⟨I, m, hI, hs⟩ := hw
  have key_w : ∀ k en h, I en h → m en h < k → ∃ c vs en' h', s_do B' A' k en (g, h) = some (c, vs, en', (g, h')) ∧ Q c vs en' h' := by
    intro k
    induction k with
    | zero => exact fun en h _ hk => absurd hk (by omega)
    | succ k ih_w =>
      intro en h hI hk
      obtain ⟨-, hw⟩ := hs en h hI
      obtain ⟨c, vs, en1, h2, b1, b2, b3, b4⟩ := hB_w en h _ hw
      unfold s_do
      rw [b1, Option.bind_some]
      dsimp only
      by_cases c0 : c = 0 ∨ c = 3
      · rw [if_pos c0]
        obtain ⟨r, h3, a1_w, a2, a3⟩ := hA en1 h2 _ _ (b2 c0)
        rw [a1_w, Option.bind_some]
        dsimp only
        by_cases h0 : j_hd r = 0
        · rw [if_pos h0]
          exact ⟨0, [], en1, h3, rfl, a3 h0⟩
        · rw [if_neg h0]
          exact ih_w en1 h3 (a2 h0).1 (by have := (a2 h0).2; omega)
      · rw [if_neg c0]
        by_cases c2 : c = 2
        · rw [if_pos c2]
          exact ⟨0, [], en1, h2, rfl, b3 c2⟩
        · rw [if_neg c2]
          exact ⟨c, vs, en1, h2, rfl, b4 (fun e => c0 (Or.inl e)) c2 (fun e => c0 (Or.inr e))⟩
  exact key_w K en h hI (hs en h hI).1
theorem wS_ok : ∀ (t : SX), WkS g (wS g F K t) (evS xs L ck F K cW t)
  | .op (.var t) (.op a (.op b c)) => by
    have sA := wS_ok a
    have sB := wS_ok b
    have sC_w := wS_ok c
    have e := fun t => (wP_ok (xs := xs) (L := L) (ck := ck) (F := F) (cW := cW) (g := g) t).1
    have k := fun t => (wP_ok (xs := xs) (L := L) (ck := ck) (F := F) (cW := cW) (g := g) t).2
    show WkS g (wNS g F K t a b c (wS g F K a) (wS g F K b) (wS g F K c)) (nodeS xs L ck F K cW t a b c (evS xs L ck F K cW a) (evS xs L ck F K cW b) (evS xs L ck F K cW c))
    unfold wNS
    split
    · exact fun en h Q hw => ⟨_, _, _, _, rfl, hw⟩
    · exact oks_seq sA sB
    · intro en h Q hw
      obtain ⟨x, h1, a1_w, hw⟩ := e b en h _ hw
      exact ⟨_, _, _, h1, by show (evE xs L ck F cW b en (g, h)).bind _ = _; rw [a1_w]; rfl, hw⟩
    · exact fun en h Q hw => ⟨_, _, _, _, rfl, hw⟩
    · intro en h Q hw
      obtain ⟨x, h1, a1_w, hw⟩ := e a en h _ hw
      obtain ⟨y, h2, b1, hw⟩ := e b en h1 _ hw
      exact ⟨_, _, _, _, by show s_putf _ _ _ en _ = _; unfold s_putf; rw [a1_w, Option.bind_some, b1]; rfl, hw⟩
    · intro en h Q hw
      obtain ⟨x, h1, a1_w, hw⟩ := e a en h _ hw
      obtain ⟨y, h2, b1, hw⟩ := e b en h1 _ hw
      exact ⟨_, _, _, _, by show s_putfC _ _ _ _ en _ = _; unfold s_putfC; rw [a1_w, Option.bind_some, b1]; rfl, hw⟩
    · split
      · rename_i ty_w v
        intro en h Q hw
        obtain ⟨x, h1, a1_w, hw⟩ := e a en h _ hw
        obtain ⟨y, h2, b1, hw⟩ := e b en h1 _ hw
        obtain ⟨z, h3, c1_w, hb_w, hw⟩ := e v en h2 _ hw
        refine ⟨_, _, _, _, ?_, hw⟩
        show s_ast ty_w _ _ _ en _ = _
        unfold s_ast
        rw [a1_w, Option.bind_some, b1, Option.bind_some, c1_w, Option.bind_some]
        exact if_pos hb_w
      · exact fun _ _ _ hw => hw.elim
    · split
      · rename_i op_w v
        intro en h Q hw
        obtain ⟨x, h1, a1_w, hw⟩ := e a en h _ hw
        obtain ⟨y, h2, b1, hb_w, hw⟩ := e b en h1 _ hw
        obtain ⟨z, h3, c1_w, hw⟩ := e v en h2 _ hw
        refine ⟨_, _, _, _, ?_, hw⟩
        show s_astC op_w _ _ _ en _ = _
        unfold s_astC
        rw [a1_w, Option.bind_some, b1, Option.bind_some]
        dsimp only
        rw [if_pos hb_w, c1_w, Option.bind_some]
        exact if_pos hb_w.2
      · exact fun _ _ _ hw => hw.elim
    · intro en h Q hw
      obtain ⟨x, h1, a1_w, hw⟩ := e a en h _ hw
      exact ⟨_, _, _, h1, by show (evE xs L ck F cW a en (g, h)).bind _ = _; rw [a1_w]; rfl, hw⟩
    · exact oks_if (k a) sB (oks_c _)
    · exact oks_if (k a) sB sC_w
    · exact oks_loop (k a) sB sC_w
    · exact oks_do (k a) sB
    · exact fun en h Q hw => ⟨_, _, _, _, rfl, hw⟩
    · exact fun en h Q hw => ⟨_, _, _, _, rfl, hw⟩
    · intro en h Q hw
      obtain ⟨x, h1, a1_w, hw⟩ := e a en h _ hw
      exact ⟨_, _, _, h1, by show (evE xs L ck F cW a en (g, h)).bind _ = _; rw [a1_w]; rfl, hw⟩
    · intro en h Q hw
      obtain ⟨x, h1, a1_w, hb_w, hw⟩ := e a en h _ hw
      refine ⟨_, _, _, h1, ?_, hw⟩
      show (evE xs L ck F cW a en (g, h)).bind _ = _
      rw [a1_w, Option.bind_some]
      exact if_pos hb_w
    · exact fun en h Q hw => ⟨_, _, _, _, rfl, hw⟩
    · intro en h Q hw
      obtain ⟨x, h1, a1_w, hw⟩ := e a en h _ hw
      obtain ⟨c, vs, en1, h2, b1, b2, b3⟩ := sB _ h1 _ hw
      show ∃ c vs en' h', s_sw _ _ en (g, h) = _ ∧ _
      unfold s_sw
      rw [a1_w, Option.bind_some]
      dsimp only
      rw [b1, Option.bind_some]
      dsimp only
      by_cases c2 : c = 2
      · rw [if_pos c2]
        exact ⟨0, vs, en1, h2, rfl, b2 c2⟩
      · rw [if_neg c2]
        exact ⟨c, vs, en1, h2, rfl, b3 c2⟩
    · exact sA
    · exact fun en h Q hw => ⟨_, _, _, _, rfl, hw⟩
    · intro en h Q hw
      obtain ⟨x, h1, a1_w, hw⟩ := e a en h _ hw
      obtain ⟨y, h2, b1, hb_w, hw⟩ := e b en h1 _ hw
      refine ⟨_, _, _, _, ?_, hw⟩
      show (evE xs L ck F cW a en (g, h)).bind _ = _
      rw [a1_w, Option.bind_some]
      show (evE xs L ck F cW b en (g, h1)).bind _ = _
      rw [b1, Option.bind_some]
      exact if_pos hb_w
    · exact oks_if (k a) sB (oks_c _)
    · intro en h Q hw
      show ∃ c' vs en' h', (if (sx_l a).any (fun n => decide (en.headD 0 = sx_z n)) then (evS xs L ck F K cW b en.tail (g, h)).bind fun r => if r.1 = 0 then none else some r else evS xs L ck F K cW c en (g, h)) = _ ∧ _
      cases hl : (sx_l a).any (fun n => decide (en.headD 0 = sx_z n)) with
      | true =>
        obtain ⟨c', vs, en1, h1, b1, b2, b3⟩ := sB _ h _ (hw.1 hl)
        refine ⟨c', vs, en1, h1, ?_, b3⟩
        rw [if_pos rfl, b1, Option.bind_some]
        exact if_neg b2
      | false =>
        rw [if_neg (by decide)]
        exact sC_w en h Q (hw.2 hl)
    · intro en h Q hw
      exact sA en.tail h Q hw
    · exact fun _ _ _ hw => hw.elim
  | .var _ => fun _ _ _ hw => hw.elim
  | .op (.op _ _) _ => fun _ _ _ hw => hw.elim
  | .op (.var _) (.var _) => fun _ _ _ hw => hw.elim
  | .op (.var _) (.op _ (.var _)) => fun _ _ _ hw => hw.elim
/-- a method_w by its body_w -/
theorem wF_ok {M : Nat → XM} {n f : Nat} {av : List Int} {h : XH} {Q : List Int → XH → Prop} (hw : wS g (evF xs L ck K cW M n) K (M f).2.2.2.2 (j_pad 0 (M f).2.1 (j_lay (M f).2.2.1 av)) h (fun c vs _ h' => c = 1 ∧ Q vs h')) : ∃ r h', evF xs L ck K cW M (n + 1) f av (g, h) = some (1, r, (g, h')) ∧ Q r h' := by
  obtain ⟨c, vs, en, h', e1_w, rfl, e2_w⟩ := wS_ok (xs := xs) (L := L) (ck := ck) (cW := cW) _ _ _ _ hw
  refine ⟨vs, h', ?_, e2_w⟩
  rw [evF_s, e1_w, Option.bind_some]
  exact if_pos ⟨Or.inl rfl, Nat.le_refl _, Nat.le_refl _, List.isPrefixOf_iff_prefix.mpr (List.prefix_refl _)⟩
end WPO
