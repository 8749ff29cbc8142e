/-! ===== a calculus of what holds_w behind_w, if an end is_w come to: calls by contracts ===== -/
abbrev PQQ : Type := List Int → XH → Prop
abbrev PE : Type := List Int → XH → PQQ → Prop
abbrev PC : Type := List Int → XH → (XH → Prop) → (XH → Prop) → Prop
abbrev PRR : Type := Nat → List Int → List Int → XH → Prop
abbrev PS : Type := List Int → XH → PRR → Prop
/-- contracts: what must hold ahead_w of a call for_w what is_w wanted_w of its code, its answer_w, the heap behind_w -/
abbrev CSt : Type := Nat → List Int → XH → (Nat → List Int → XH → Prop) → Prop
def rfO (o : Int) (k : Nat) : Int := (j_rf a_g3 o.toNat k).getD 0
def lnO (o : Int) : Int := j_len a_g3 o.toNat
section PCD
variable (C : CSt)
def p_nz (A : PE) : PC := fun en h Qt Qf => A en h fun x h1 => (j_hd x ≠ 0 → Qt h1) ∧ (j_hd x = 0 → Qf h1)
def p_cmp (k : Nat) (A B : PE) : PC := fun en h Qt Qf => A en h fun x h1 => B en h1 fun y h2 => (j_cmp k (j_hd x) (j_hd y) = true → Qt h2) ∧ (j_cmp k (j_hd x) (j_hd y) = false → Qf h2)
def p_cmp0 (k : Nat) (A : PE) : PC := fun en h Qt Qf => A en h fun x h1 => (j_cmp k (j_hd x) 0 = true → Qt h1) ∧ (j_cmp k (j_hd x) 0 = false → Qf h1)
def p_and (A B : PC) : PC := fun en h Qt Qf => A en h (fun h1 => B en h1 Qt Qf) Qf
def p_or (A B : PC) : PC := fun en h Qt Qf => A en h Qt (fun h1 => B en h1 Qt Qf)
def p_not (A : PC) : PC := fun en h Qt Qf => A en h Qf Qt
def p_bb (A : PC) : PE := fun en h Q => A en h (fun h1 => Q [1] h1) (fun h1 => Q [0] h1)
def p_call (f : Nat) (A : PE) : PE := fun en h Q => A en h fun av h1 => C f av h1 fun k r h2 => k = 1 → Q r h2
def p_ld (k : Nat) (x y : Int) (h : XH) (Q : PQQ) : Prop := match k with
  | 0 => 0 ≤ y ∧ y < lnO x → Q [h x.toNat y.toNat] h
  | 1 => False
  | _ => 0 ≤ y ∧ y < 24 → Q [y] h
def p_ln (k : Nat) (x : Int) (h : XH) (Q : PQQ) : Prop := match k with
  | 0 => Q [lnO x] h
  | 1 => False
  | _ => Q [24] h
def pNE (t : Nat) (a b c : SX) (A B D : PE × PC) : PE := match t with
  | 1 => fun _ h Q => Q [sx_c a b c] h
  | 3 => fun en h Q => Q [en.getD (sx_n a) 0] h
  | 4 => fun en h Q => A.1 en h fun x h1 => Q [h1 (j_hd x).toNat (sx_n b)] h1
  | 5 => fun en h Q => A.1 en h fun x h1 => Q [rfO (j_hd x) (sx_n b)] h1
  | 7 => fun en h Q => A.1 en h fun x h1 => B.1 en h1 fun y h2 => p_ld (sx_n c) (j_hd x) (j_hd y) h2 Q
  | 10 => fun en h Q => A.1 en h fun x h1 => p_ln (sx_n c) (j_hd x) h1 Q
  | 13 => fun en h Q => A.1 en h fun x h1 => Q [g_cW (sx_n c) (j_hd x).toNat] h1
  | 14 => fun en h Q => A.1 en h fun x h1 => B.1 en h1 fun y h2 => Q [j_iop (sx_n c) (j_hd x) (j_hd y)] h2
  | 15 => fun en h Q => A.1 en h fun x h1 => B.1 en h1 fun y h2 => Q [j_lop (sx_n c) (j_hd x) (j_hd y)] h2
  | 16 => fun en h Q => A.1 en h fun x h1 => B.1 en h1 fun y h2 => Q [j_lsh (sx_n c) (j_hd x) (j_hd y)] h2
  | 17 => fun en h Q => A.1 en h fun x h1 => B.1 en h1 fun y h2 => j_hd y ≠ 0 → Q [j_div (sx_n c) (j_hd x) (j_hd y)] h2
  | 18 => fun en h Q => A.1 en h fun x h1 => Q [j_un (sx_n c) (j_hd x)] h1
  | 20 => p_bb (p_cmp (sx_n c) A.1 B.1)
  | 21 => p_bb (p_cmp0 (sx_n c) A.1)
  | 22 => p_bb (p_cmp (sx_n c) A.1 B.1)
  | 23 => p_bb (p_cmp (sx_n c) A.1 B.1)
  | 24 => A.1
  | 25 => p_bb (p_and A.2 B.2)
  | 26 => p_bb (p_or A.2 B.2)
  | 27 => p_bb (p_not A.2)
  | 28 => fun en h Q => A.2 en h (fun h1 => B.1 en h1 Q) (fun h1 => D.1 en h1 Q)
  | 30 => fun en h Q => A.1 en h fun x h1 => B.1 en h1 fun y h2 => Q (x ++ y) h2
  | 31 => fun _ h Q => Q [] h
  | 32 => p_call C (sx_n b) A.1
  | _ => fun _ _ _ => False
def pNC (t : Nat) (a b c : SX) (A B D : PE × PC) : PC := match t with
  | 20 => p_cmp (sx_n c) A.1 B.1
  | 21 => p_cmp0 (sx_n c) A.1
  | 22 => p_cmp (sx_n c) A.1 B.1
  | 23 => p_cmp (sx_n c) A.1 B.1
  | 24 => A.2
  | 25 => p_and A.2 B.2
  | 26 => p_or A.2 B.2
  | 27 => p_not A.2
  | _ => p_nz (pNE C t a b c A B D)
def pP : SX → PE × PC
  | .op (.var t) (.op a (.op b c)) => (pNE C t a b c (pP a) (pP b) (pP c), pNC C t a b c (pP a) (pP b) (pP c))
  | _ => (fun _ _ _ => False, fun _ _ _ _ => False)
def pE (t : SX) : PE := (pP C t).1
def pC (t : SX) : PC := (pP C t).2
def p_seq (A B : PS) : PS := fun en h R => A en h fun c vs en1 h1 => (c = 0 → B en1 h1 R) ∧ (c ≠ 0 → R c vs en1 h1)
def p_if (A : PC) (B D : PS) : PS := fun en h R => A en h (fun h1 => B en h1 R) (fun h1 => D en h1 R)
def p_loop (A : PC) (B P : PS) : PS := fun en h R => ∃ I : List Int → XH → Prop, I en h ∧ ∀ en h, I en h → A en h (fun h1 => B en h1 fun c vs en1 h2 =>
    (c = 0 ∨ c = 3 → P en1 h2 fun c' _ en2 h3 => c' = 0 → I en2 h3) ∧ (c = 2 → R 0 [] en1 h2) ∧ (c ≠ 0 → c ≠ 2 → c ≠ 3 → R c vs en1 h2)) (fun h1 => R 0 [] en h1)
def p_do (B : PS) (A : PC) : PS := fun en h R => ∃ I : List Int → XH → Prop, I en h ∧ ∀ en h, I en h → B en h fun c vs en1 h2 =>
    (c = 0 ∨ c = 3 → A en1 h2 (fun h3 => I en1 h3) (fun h3 => R 0 [] en1 h3)) ∧ (c = 2 → R 0 [] en1 h2) ∧ (c ≠ 0 → c ≠ 2 → c ≠ 3 → R c vs en1 h2)
def p_sw (A : PE) (B : PS) : PS := fun en h R => A en h fun x h1 => B (j_hd x :: en) h1 fun c vs en1 h2 => (c = 2 → R 0 vs en1 h2) ∧ (c ≠ 2 → R c vs en1 h2)
def pNS (t : Nat) (a b c : SX) (A B D : PS) : PS := match t with
  | 1 => fun en h R => R 0 [] en h
  | 2 => p_seq A B
  | 3 => fun en h R => pE C b en h fun x h1 => R 0 [] (en.set (sx_n a) (j_hd x)) h1
  | 4 => fun en h R => R 0 [] (en.set (sx_n a) (j32 (en.getD (sx_n a) 0 + (if sx_n c = 0 then (sx_n b : Int) else -(sx_n b : Int))))) h
  | 5 => fun en h R => pE C a en h fun x h1 => pE C b en h1 fun y h2 => R 0 [] en (j_up h2 (j_hd x).toNat (sx_n c) (j_hd y))
  | 6 => fun en h R => pE C a en h fun x h1 => pE C b en h1 fun y h2 => R 0 [] en (j_up h2 (j_hd x).toNat (sx_n c / 16) (j_iop (sx_n c % 16) (h1 (j_hd x).toNat (sx_n c / 16)) (j_hd y)))
  | 7 => match c with
    | .op (.var ty_w) v => fun en h R => pE C a en h fun x h1 => pE C b en h1 fun y h2 => pE C v en h2 fun z h3 => 0 ≤ j_hd y ∧ j_hd y < lnO (j_hd x) → R 0 [] en (j_up h3 (j_hd x).toNat (j_hd y).toNat (w_ty ty_w (j_hd z)))
    | _ => fun _ _ _ => False
  | 8 => match c with
    | .op (.var op_w) v => fun en h R => pE C a en h fun x h1 => pE C b en h1 fun y h2 => pE C v en h2 fun z h3 => 0 ≤ j_hd y ∧ j_hd y < lnO (j_hd x) → R 0 [] en (j_up h3 (j_hd x).toNat (j_hd y).toNat (j_iop op_w (h2 (j_hd x).toNat (j_hd y).toNat) (j_hd z)))
    | _ => fun _ _ _ => False
  | 9 => fun en h R => pE C a en h fun _ h1 => R 0 [] en h1
  | 10 => p_if (pC C a) B (fun en h R => R 0 [] en h)
  | 11 => p_if (pC C a) B D
  | 12 => p_loop (pC C a) B D
  | 13 => p_do B (pC C a)
  | 14 => fun en h R => R 2 [] en h
  | 15 => fun en h R => R 3 [] en h
  | 16 => fun en h R => pE C a en h fun x h1 => R 1 x en h1
  | 27 => fun en h R => pE C a en h fun x h1 => (j_hd x = 0 ∨ j_hd x = 1) → R 1 x en h1
  | 17 => fun en h R => R 1 [] en h
  | 18 => fun en h R => R 4 [] en h
  | 19 => p_sw (pE C a) B
  | 20 => A
  | 22 => fun en h R => R 0 [] en h
  | 23 => fun en h R => pE C a en h fun x h1 => pE C b en h1 fun y h2 => (j_hd y = 0 ∨ j_hd y = 1) → R 0 [] en (j_up h2 (j_hd x).toNat (sx_n c) (j_hd y))
  | 28 => p_if (pC C a) B (fun en h R => R 2 [] en h)
  | 25 => fun en h R => ((sx_l a).any (fun n => decide (en.headD 0 = sx_z n)) = true → B en.tail h fun c vs en1 h1 => c ≠ 0 → R c vs en1 h1) ∧ ((sx_l a).any (fun n => decide (en.headD 0 = sx_z n)) = false → D en h R)
  | 26 => fun en h R => A en.tail h R
  | _ => fun _ _ _ => False
def pS : SX → PS
  | .op (.var t) (.op a (.op b c)) => pNS C t a b c (pS a) (pS b) (pS c)
  | _ => fun _ _ _ => False
end PCD
def SndC (C : CSt) (F : XP) : Prop := ∀ (cd : Nat × Nat) (f : Nat) (av : List Int) (h : XH) (Q : Nat → List Int → XH → Prop), C f av h Q → ∀ (k : Nat) (r : List Int) (g' : XS × Nat × Nat) (h' : XH), F f av ((a_g3, cd), h) = some (k, r, (g', h')) → (k = 1 → g' = (a_g3, cd)) ∧ Q k r h'
section PCO
variable {xs : Nat → Int} {L K : Nat} {F : XP} {C : CSt} {cd : Nat × Nat}
def PkE (cd : Nat × Nat) (W : PE) (A : XE) : Prop := ∀ en h Q, W en h Q → ∀ (r : List Int) (g' : XS × Nat × Nat) (h' : XH), A en ((a_g3, cd), h) = some (r, (g', h')) → g' = (a_g3, cd) ∧ Q r h'
def PkC (cd : Nat × Nat) (W : PC) (A : XE) : Prop := ∀ en h Qt Qf, W en h Qt Qf → ∀ (r : List Int) (g' : XS × Nat × Nat) (h' : XH), A en ((a_g3, cd), h) = some (r, (g', h')) → g' = (a_g3, cd) ∧ (j_hd r ≠ 0 → Qt h') ∧ (j_hd r = 0 → Qf h')
def PkB (cd : Nat × Nat) (W : PC) (A : XE) : Prop := ∀ en h Qt Qf, W en h Qt Qf → ∀ (r : List Int) (g' : XS × Nat × Nat) (h' : XH), A en ((a_g3, cd), h) = some (r, (g', h')) → g' = (a_g3, cd) ∧ (r = [1] ∧ Qt h' ∨ r = [0] ∧ Qf h')
theorem PkB.c {W : PC} {A : XE} (a : PkB cd W A) : PkC cd W A := fun en h Qt Qf w r g' h' e => by
  obtain ⟨e1_w, ⟨rfl, e2_w⟩ | ⟨rfl, e2_w⟩⟩ := a en h Qt Qf w r g' h' e
  · exact ⟨e1_w, fun _ => e2_w, fun z => absurd z (by decide)⟩
  · exact ⟨e1_w, fun z => absurd rfl z, fun _ => e2_w⟩
theorem PkB.e {W : PC} {A : XE} (a : PkB cd W A) : PkE cd (p_bb W) A := fun en h Q w r g' h' e => by
  obtain ⟨e1_w, ⟨rfl, e2_w⟩ | ⟨rfl, e2_w⟩⟩ := a en h _ _ w r g' h' e
  · exact ⟨e1_w, e2_w⟩
  · exact ⟨e1_w, e2_w⟩
theorem pk_bv {b : Bool} {Qt Qf : Prop} (ht : b = true → Qt) (hf : b = false → Qf) : ([j_b b] = ([1] : List Int) ∧ Qt) ∨ ([j_b b] = ([0] : List Int) ∧ Qf) := by
  cases b with
  | true => exact Or.inl ⟨rfl, ht rfl⟩
  | false => exact Or.inr ⟨rfl, hf rfl⟩
theorem pkb_cmp {k : Nat} {A B : PE} {A' B' : XE} (hA : PkE cd A A') (hB_w : PkE cd B B') : PkB cd (p_cmp k A B) (n_cmp (j_cmp k) A' B') := fun en h Qt Qf w r g' h' e => by
  obtain ⟨⟨x, g1, h1⟩, e1_w, e⟩ := j_bd e
  obtain ⟨rfl, w⟩ := hA en h _ w _ _ _ e1_w
  obtain ⟨⟨y, g2, h2⟩, e2_w, e⟩ := j_bd e
  obtain ⟨rfl, w⟩ := hB_w en h1 _ w _ _ _ e2_w
  cases e
  exact ⟨rfl, pk_bv w.1 w.2⟩
theorem pkb_cmp0 {k : Nat} {A : PE} {A' X : XE} (hA : PkE cd A A') (hX : ∀ en st, X en st = (A' en st).bind fun x => some ([j_b (j_cmp k (j_hd x.1) 0)], x.2)) : PkB cd (p_cmp0 k A) X := fun en h Qt Qf w r g' h' e => by
  rw [hX] at e
  obtain ⟨⟨x, g1, h1⟩, e1_w, e⟩ := j_bd e
  obtain ⟨rfl, w⟩ := hA en h _ w _ _ _ e1_w
  cases e
  exact ⟨rfl, pk_bv w.1 w.2⟩
theorem pkb_nz {B : PC} {B' : XE} (hB_w : PkC cd B B') : PkB cd B (n_nz B') := fun en h Qt Qf w r g' h' e => by
  obtain ⟨⟨x, g1, h1⟩, e1_w, e⟩ := j_bd e
  obtain ⟨rfl, w1_w, w2_w⟩ := hB_w en h _ _ w _ _ _ e1_w
  cases e
  exact ⟨rfl, pk_bv (fun z => w1_w (of_decide_eq_true z)) (fun z => w2_w (Decidable.of_not_not (of_decide_eq_false z)))⟩
theorem pkb_and {A B : PC} {A' B' : XE} (hA : PkC cd A A') (hB_w : PkC cd B B') : PkB cd (p_and A B) (n_ife A' (n_nz B') (fun _ st => some ([0], st))) := fun en h Qt Qf w r g' h' e => by
  obtain ⟨⟨x, g1, h1⟩, e1_w, e⟩ := j_bd e
  obtain ⟨rfl, w1_w, w2_w⟩ := hA en h _ _ w _ _ _ e1_w
  dsimp only at e
  by_cases z : j_hd x = 0
  · rw [if_pos z] at e
    cases e
    exact ⟨rfl, Or.inr ⟨rfl, w2_w z⟩⟩
  · rw [if_neg z] at e
    exact pkb_nz hB_w en h1 _ _ (w1_w z) _ _ _ e
theorem pkb_or {A B : PC} {A' B' : XE} (hA : PkC cd A A') (hB_w : PkC cd B B') : PkB cd (p_or A B) (n_ife A' (fun _ st => some ([1], st)) (n_nz B')) := fun en h Qt Qf w r g' h' e => by
  obtain ⟨⟨x, g1, h1⟩, e1_w, e⟩ := j_bd e
  obtain ⟨rfl, w1_w, w2_w⟩ := hA en h _ _ w _ _ _ e1_w
  dsimp only at e
  by_cases z : j_hd x = 0
  · rw [if_pos z] at e
    exact pkb_nz hB_w en h1 _ _ (w2_w z) _ _ _ e
  · rw [if_neg z] at e
    cases e
    exact ⟨rfl, Or.inl ⟨rfl, w1_w z⟩⟩
theorem pkb_not {A : PC} {A' X : XE} (hA : PkC cd A A') (hX : ∀ en st, X en st = (A' en st).bind fun x => some ([j_b (decide (j_hd x.1 = 0))], x.2)) : PkB cd (p_not A) X := fun en h Qt Qf w r g' h' e => by
  rw [hX] at e
  obtain ⟨⟨x, g1, h1⟩, e1_w, e⟩ := j_bd e
  obtain ⟨rfl, w1_w, w2_w⟩ := hA en h _ _ w _ _ _ e1_w
  cases e
  exact ⟨rfl, pk_bv (fun z => w2_w (of_decide_eq_true z)) (fun z => w1_w (of_decide_eq_false z))⟩
theorem pkc_nz {A : PE} {A' : XE} (hA : PkE cd A A') : PkC cd (p_nz A) A' := fun en h Qt Qf w r g' h' e => hA en h _ w r g' h' e
theorem pke_1 {A : PE} {A' X : XE} (hA : PkE cd A A') {f : List Int → XH → List Int} (hX : ∀ en h cd' x h', A' en ((a_g3, cd'), h) = some (x, ((a_g3, cd'), h')) → X en ((a_g3, cd'), h) = some (f x h', ((a_g3, cd'), h'))) (hN_w : ∀ en st, A' en st = none → X en st = none) : PkE cd (fun en h Q => A en h fun x h1 => Q (f x h1) h1) X := fun en h Q w r g' h' e => by
  cases ea : A' en ((a_g3, cd), h) with
  | none => rw [hN_w _ _ ea] at e; cases e
  | some y =>
    obtain ⟨x, g1, h1⟩ := y
    obtain ⟨rfl, w⟩ := hA en h _ w _ _ _ ea
    rw [hX _ _ _ _ _ ea] at e
    cases e
    exact ⟨rfl, w⟩
theorem pke_2 {A B : PE} {A' B' X : XE} (hA : PkE cd A A') (hB_w : PkE cd B B') {f : List Int → List Int → List Int} (hX : ∀ en st, X en st = (A' en st).bind fun x => (B' en x.2).bind fun y => some (f x.1 y.1, y.2)) : PkE cd (fun en h Q => A en h fun x h1 => B en h1 fun y h2 => Q (f x y) h2) X := fun en h Q w r g' h' e => by
  rw [hX] at e
  obtain ⟨⟨x, g1, h1⟩, e1_w, e⟩ := j_bd e
  obtain ⟨rfl, w⟩ := hA en h _ w _ _ _ e1_w
  obtain ⟨⟨y, g2, h2⟩, e2_w, e⟩ := j_bd e
  obtain ⟨rfl, w⟩ := hB_w en h1 _ w _ _ _ e2_w
  cases e
  exact ⟨rfl, w⟩
theorem pP_ok (hF : SndC C F) : ∀ (t : SX), PkE cd (pP C t).1 (evE xs L g_ck F g_cW t) ∧ PkC cd (pP C t).2 (evE xs L g_ck F g_cW t)
  | .op (.var t) (.op a (.op b c)) => by
    obtain ⟨eA_w, cA_w⟩ := pP_ok hF a
    obtain ⟨eB, cB_w⟩ := pP_ok hF b
    obtain ⟨eD, cD⟩ := pP_ok hF c
    have k20 : PkB cd (p_cmp (sx_n c) (pP C a).1 (pP C b).1) (n_cmp (j_cmp (sx_n c)) (evE xs L g_ck F g_cW a) (evE xs L g_ck F g_cW b)) := pkb_cmp eA_w eB
    have k21 : PkB cd (p_cmp0 (sx_n c) (pP C a).1) (nodeE xs L g_ck F g_cW 21 a b c (evE xs L g_ck F g_cW a) (evE xs L g_ck F g_cW b) (evE xs L g_ck F g_cW c)) := pkb_cmp0 eA_w (fun _ _ => rfl)
    have k25 := pkb_and cA_w cB_w
    have k26 := pkb_or cA_w cB_w
    have k27 : PkB cd (p_not (pP C a).2) (nodeE xs L g_ck F g_cW 27 a b c (evE xs L g_ck F g_cW a) (evE xs L g_ck F g_cW b) (evE xs L g_ck F g_cW c)) := pkb_not cA_w (fun _ _ => rfl)
    have hE : PkE cd (pNE C t a b c (pP C a) (pP C b) (pP C c)) (nodeE xs L g_ck F g_cW t a b c (evE xs L g_ck F g_cW a) (evE xs L g_ck F g_cW b) (evE xs L g_ck F g_cW c)) := by
      unfold pNE
      split
      · intro en h Q w r g' h' e; cases e; exact ⟨rfl, w⟩
      · intro en h Q w r g' h' e; cases e; exact ⟨rfl, w⟩
      · intro en h Q w r g' h' e
        obtain ⟨⟨x, g1, h1⟩, e1_w, e⟩ := j_bd e
        obtain ⟨rfl, w⟩ := eA_w en h _ w _ _ _ e1_w
        cases e
        exact ⟨rfl, w⟩
      · intro en h Q w r g' h' e
        obtain ⟨⟨x, g1, h1⟩, e1_w, e⟩ := j_bd e
        obtain ⟨rfl, w⟩ := eA_w en h _ w _ _ _ e1_w
        obtain ⟨v, e2_w, e⟩ := j_bd e
        cases e
        have z : rfO (j_hd x) (sx_n b) = v := by
          unfold rfO
          have e2' : j_rf a_g3 (j_hd x).toNat (sx_n b) = some v := e2_w
          rw [e2']
          rfl
        rw [z] at w
        exact ⟨rfl, w⟩
      · intro en h Q w r g' h' e
        obtain ⟨⟨x, g1, h1⟩, e1_w, e⟩ := j_bd e
        obtain ⟨rfl, w⟩ := eA_w en h _ w _ _ _ e1_w
        obtain ⟨⟨y, g2, h2⟩, e2_w, e⟩ := j_bd e
        obtain ⟨rfl, w⟩ := eB en h1 _ w _ _ _ e2_w
        unfold p_ld at w
        dsimp only at e
        split at w
        · rename_i hk
          rw [hk] at e
          obtain ⟨b1, e⟩ := j_if e
          cases e
          exact ⟨rfl, w b1⟩
        · exact w.elim
        · rename_i hk0 hk1
          split at e
          · rename_i hk; exact absurd hk hk0
          · rename_i hk; exact absurd hk hk1
          · obtain ⟨b1, e⟩ := j_if e
            cases e
            exact ⟨rfl, w b1⟩
      · intro en h Q w r g' h' e
        obtain ⟨⟨x, g1, h1⟩, e1_w, e⟩ := j_bd e
        obtain ⟨rfl, w⟩ := eA_w en h _ w _ _ _ e1_w
        unfold p_ln at w
        dsimp only at e
        split at w
        · rename_i hk
          rw [hk] at e
          cases e
          exact ⟨rfl, w⟩
        · exact w.elim
        · rename_i hk0 hk1
          split at e
          · rename_i hk; exact absurd hk hk0
          · rename_i hk; exact absurd hk hk1
          · cases e
            exact ⟨rfl, w⟩
      · intro en h Q w r g' h' e
        obtain ⟨⟨x, g1, h1⟩, e1_w, e⟩ := j_bd e
        obtain ⟨rfl, w⟩ := eA_w en h _ w _ _ _ e1_w
        cases e
        exact ⟨rfl, w⟩
      · exact pke_2 eA_w eB (f := fun x y => [j_iop (sx_n c) (j_hd x) (j_hd y)]) (fun _ _ => rfl)
      · exact pke_2 eA_w eB (f := fun x y => [j_lop (sx_n c) (j_hd x) (j_hd y)]) (fun _ _ => rfl)
      · exact pke_2 eA_w eB (f := fun x y => [j_lsh (sx_n c) (j_hd x) (j_hd y)]) (fun _ _ => rfl)
      · intro en h Q w r g' h' e
        obtain ⟨⟨x, g1, h1⟩, e1_w, e⟩ := j_bd e
        obtain ⟨rfl, w⟩ := eA_w en h _ w _ _ _ e1_w
        obtain ⟨⟨y, g2, h2⟩, e2_w, e⟩ := j_bd e
        obtain ⟨rfl, w⟩ := eB en h1 _ w _ _ _ e2_w
        dsimp only at e
        by_cases z : j_hd y = 0
        · rw [if_pos z] at e; cases e
        · rw [if_neg z] at e; cases e; exact ⟨rfl, w z⟩
      · intro en h Q w r g' h' e
        obtain ⟨⟨x, g1, h1⟩, e1_w, e⟩ := j_bd e
        obtain ⟨rfl, w⟩ := eA_w en h _ w _ _ _ e1_w
        cases e
        exact ⟨rfl, w⟩
      · exact k20.e
      · exact k21.e
      · exact k20.e
      · exact k20.e
      · exact eA_w
      · exact k25.e
      · exact k26.e
      · exact k27.e
      · intro en h Q w r g' h' e
        obtain ⟨⟨x, g1, h1⟩, e1_w, e⟩ := j_bd e
        obtain ⟨rfl, w1_w, w2_w⟩ := cA_w en h _ _ w _ _ _ e1_w
        dsimp only at e
        by_cases z : j_hd x = 0
        · rw [if_pos z] at e
          exact eD en h1 _ (w2_w z) _ _ _ e
        · rw [if_neg z] at e
          exact eB en h1 _ (w1_w z) _ _ _ e
      · exact pke_2 eA_w eB (f := fun x y => x ++ y) (fun _ _ => rfl)
      · intro en h Q w r g' h' e; cases e; exact ⟨rfl, w⟩
      · intro en h Q w r g' h' e
        obtain ⟨⟨x, g1, h1⟩, e1_w, e⟩ := j_bd e
        obtain ⟨rfl, w⟩ := eA_w en h _ w _ _ _ e1_w
        obtain ⟨⟨k, r2, g2, h2⟩, e2_w, e⟩ := j_bd e
        obtain ⟨w1_w, w2_w⟩ := hF cd _ _ _ _ w _ _ _ _ e2_w
        obtain ⟨b1, e⟩ := j_if e
        cases e
        have b2 : k = 1 := b1
        exact ⟨w1_w b2, w2_w b2⟩
      · exact fun _ _ _ w => w.elim
    refine ⟨hE, ?_⟩
    show PkC cd (pNC C t a b c (pP C a) (pP C b) (pP C c)) _
    unfold pNC
    split
    · exact k20.c
    · exact k21.c
    · exact k20.c
    · exact k20.c
    · exact cA_w
    · exact k25.c
    · exact k26.c
    · exact k27.c
    · exact pkc_nz hE
  | .var _ => ⟨fun _ _ _ w => w.elim, fun _ _ _ _ w => w.elim⟩
  | .op (.op _ _) _ => ⟨fun _ _ _ w => w.elim, fun _ _ _ _ w => w.elim⟩
  | .op (.var _) (.var _) => ⟨fun _ _ _ w => w.elim, fun _ _ _ _ w => w.elim⟩
  | .op (.var _) (.op _ (.var _)) => ⟨fun _ _ _ w => w.elim, fun _ _ _ _ w => w.elim⟩
def PkS (cd : Nat × Nat) (W : PS) (A : XR) : Prop := ∀ en h R, W en h R → ∀ (c : Nat) (vs en' : List Int) (g' : XS × Nat × Nat) (h' : XH), A en ((a_g3, cd), h) = some (c, vs, en', (g', h')) → (c ≠ 4 → g' = (a_g3, cd)) ∧ R c vs en' h'
theorem if_s {α : Type} {p : Prop} [Decidable p] {x : Option α} {v : α} (e : (if p then x else none) = some v) : p ∧ x = some v := by
  by_cases z : p
  · rw [if_pos z] at e
    exact ⟨z, e⟩
  · rw [if_neg z] at e
    cases e
theorem pks_seq {A B : PS} {A' B' : XR} (hA : PkS cd A A') (hB_w : PkS cd B B') : PkS cd (p_seq A B) (s_seq A' B') := fun en h R w c vs en' g' h' e => by
  obtain ⟨⟨c1_w, v1_w, en1, g1, h1⟩, e1_w, e⟩ := j_bd e
  obtain ⟨k1_w, w1_w, w2_w⟩ := hA en h _ w _ _ _ _ _ e1_w
  dsimp only at e
  by_cases z : c1_w = 0
  · rw [if_pos z] at e
    obtain rfl := k1_w (by omega)
    exact hB_w en1 h1 _ (w1_w z) _ _ _ _ _ e
  · rw [if_neg z] at e
    cases e
    exact ⟨k1_w, w2_w z⟩
theorem pks_if {X : PC} {X' : XE} {A B : PS} {A' B' : XR} (hX : PkC cd X X') (hA : PkS cd A A') (hB_w : PkS cd B B') : PkS cd (p_if X A B) (s_if X' A' B') := fun en h R w c vs en' g' h' e => by
  obtain ⟨⟨x, g1, h1⟩, e1_w, e⟩ := j_bd e
  obtain ⟨rfl, w1_w, w2_w⟩ := hX en h _ _ w _ _ _ e1_w
  dsimp only at e
  by_cases z : j_hd x = 0
  · rw [if_pos z] at e
    exact hB_w en h1 _ (w2_w z) _ _ _ _ _ e
  · rw [if_neg z] at e
    exact hA en h1 _ (w1_w z) _ _ _ _ _ e
theorem pks_loop {X : PC} {X' : XE} {B P : PS} {B' P'_w : XR} (hX : PkC cd X X') (hB_w : PkS cd B B') (hP : PkS cd P P'_w) {R : PRR} {I : List Int → XH → Prop} (hI : ∀ en h, I en h → X en h (fun h1 => B en h1 fun c vs en1 h2 =>
    (c = 0 ∨ c = 3 → P en1 h2 fun c' _ en2 h3 => c' = 0 → I en2 h3) ∧ (c = 2 → R 0 [] en1 h2) ∧ (c ≠ 0 → c ≠ 2 → c ≠ 3 → R c vs en1 h2)) (fun h1 => R 0 [] en h1)) : ∀ (k : Nat) (en : List Int) (h : XH), I en h → ∀ (c : Nat) (vs en' : List Int) (g' : XS × Nat × Nat) (h' : XH), s_loop X' B' P'_w k en ((a_g3, cd), h) = some (c, vs, en', (g', h')) → (c ≠ 4 → g' = (a_g3, cd)) ∧ R c vs en' h'
  | 0, _, _, _, _, _, _, _, _, e => by cases e
  | k + 1, en, h, i, c, vs, en', g', h', e => by
    unfold s_loop at e
    obtain ⟨⟨x, g1, h1⟩, e1_w, e⟩ := j_bd e
    obtain ⟨rfl, w1_w, w2_w⟩ := hX en h _ _ (hI en h i) _ _ _ e1_w
    dsimp only at e
    by_cases z : j_hd x = 0
    · rw [if_pos z] at e
      cases e
      exact ⟨fun _ => rfl, w2_w z⟩
    · rw [if_neg z] at e
      obtain ⟨⟨c2, v2, en2, g2, h2⟩, e2_w, e⟩ := j_bd e
      obtain ⟨k2, w3_w, w4_w, w5⟩ := hB_w en h1 _ (w1_w z) _ _ _ _ _ e2_w
      dsimp only at e
      by_cases z2 : c2 = 0 ∨ c2 = 3
      · rw [if_pos z2] at e
        obtain rfl := k2 (by omega)
        obtain ⟨⟨c3, v3, en3, g3_w, h3⟩, e3_w, e⟩ := j_bd e
        obtain ⟨k3, w6_w⟩ := hP en2 h2 _ (w3_w z2) _ _ _ _ _ e3_w
        dsimp only at e
        obtain ⟨z3, e⟩ := if_s e
        obtain rfl := k3 (by omega)
        exact pks_loop hX hB_w hP hI k en3 h3 (w6_w z3) _ _ _ _ _ e
      · rw [if_neg z2] at e
        by_cases z3 : c2 = 2
        · rw [if_pos z3] at e
          obtain rfl := k2 (by omega)
          cases e
          exact ⟨fun _ => rfl, w4_w z3⟩
        · rw [if_neg z3] at e
          cases e
          exact ⟨k2, w5 (by omega) z3 (by omega)⟩
theorem pks_do {X : PC} {X' : XE} {B : PS} {B' : XR} (hX : PkC cd X X') (hB_w : PkS cd B B') {R : PRR} {I : List Int → XH → Prop} (hI : ∀ en h, I en h → B en h fun c vs en1 h2 =>
    (c = 0 ∨ c = 3 → X en1 h2 (fun h3 => I en1 h3) (fun h3 => R 0 [] en1 h3)) ∧ (c = 2 → R 0 [] en1 h2) ∧ (c ≠ 0 → c ≠ 2 → c ≠ 3 → R c vs en1 h2)) : ∀ (k : Nat) (en : List Int) (h : XH), I en h → ∀ (c : Nat) (vs en' : List Int) (g' : XS × Nat × Nat) (h' : XH), s_do B' X' k en ((a_g3, cd), h) = some (c, vs, en', (g', h')) → (c ≠ 4 → g' = (a_g3, cd)) ∧ R c vs en' h'
  | 0, _, _, _, _, _, _, _, _, e => by cases e
  | k + 1, en, h, i, c, vs, en', g', h', e => by
    unfold s_do at e
    obtain ⟨⟨c2, v2, en2, g2, h2⟩, e2_w, e⟩ := j_bd e
    obtain ⟨k2, w3_w, w4_w, w5⟩ := hB_w en h _ (hI en h i) _ _ _ _ _ e2_w
    dsimp only at e
    by_cases z2 : c2 = 0 ∨ c2 = 3
    · rw [if_pos z2] at e
      obtain rfl := k2 (by omega)
      obtain ⟨⟨x, g1, h1⟩, e1_w, e⟩ := j_bd e
      obtain ⟨rfl, w1_w, w2_w⟩ := hX en2 h2 _ _ (w3_w z2) _ _ _ e1_w
      dsimp only at e
      by_cases z : j_hd x = 0
      · rw [if_pos z] at e
        cases e
        exact ⟨fun _ => rfl, w2_w z⟩
      · rw [if_neg z] at e
        exact pks_do hX hB_w hI k en2 h1 (w1_w z) _ _ _ _ _ e
    · rw [if_neg z2] at e
      by_cases z3 : c2 = 2
      · rw [if_pos z3] at e
        obtain rfl := k2 (by omega)
        cases e
        exact ⟨fun _ => rfl, w4_w z3⟩
      · rw [if_neg z3] at e
        cases e
        exact ⟨k2, w5 (by omega) z3 (by omega)⟩
theorem pS_ok (hF : SndC C F) : ∀ (t : SX), PkS cd (pS C t) (evS xs L g_ck F K g_cW t)
  | .op (.var t) (.op a (.op b c)) => by
    have sA := pS_ok hF a
    have sB := pS_ok hF b
    have sD := pS_ok hF c
    have ee := fun t => (pP_ok (xs := xs) (L := L) (cd := cd) hF t).1
    have cc := fun t => (pP_ok (xs := xs) (L := L) (cd := cd) hF t).2
    show PkS cd (pNS C t a b c (pS C a) (pS C b) (pS C c)) (nodeS xs L g_ck F K g_cW t a b c (evS xs L g_ck F K g_cW a) (evS xs L g_ck F K g_cW b) (evS xs L g_ck F K g_cW c))
    unfold pNS
    split
    · intro en h R w c vs en' g' h' e; cases e; exact ⟨fun _ => rfl, w⟩
    · exact pks_seq sA sB
    · intro en h R w c vs en' g' h' e
      obtain ⟨⟨x, g1, h1⟩, e1_w, e⟩ := j_bd e
      obtain ⟨rfl, w⟩ := ee b en h _ w _ _ _ e1_w
      cases e
      exact ⟨fun _ => rfl, w⟩
    · intro en h R w c vs en' g' h' e; cases e; exact ⟨fun _ => rfl, w⟩
    · intro en h R w c vs en' g' h' e
      obtain ⟨⟨x, g1, h1⟩, e1_w, e⟩ := j_bd e
      obtain ⟨rfl, w⟩ := ee a en h _ w _ _ _ e1_w
      obtain ⟨⟨y, g2, h2⟩, e2_w, e⟩ := j_bd e
      obtain ⟨rfl, w⟩ := ee b en h1 _ w _ _ _ e2_w
      cases e
      exact ⟨fun _ => rfl, w⟩
    · intro en h R w c vs en' g' h' e
      obtain ⟨⟨x, g1, h1⟩, e1_w, e⟩ := j_bd e
      obtain ⟨rfl, w⟩ := ee a en h _ w _ _ _ e1_w
      obtain ⟨⟨y, g2, h2⟩, e2_w, e⟩ := j_bd e
      obtain ⟨rfl, w⟩ := ee b en h1 _ w _ _ _ e2_w
      cases e
      exact ⟨fun _ => rfl, w⟩
    · split
      · intro en h R w c vs en' g' h' e
        obtain ⟨⟨x, g1, h1⟩, e1_w, e⟩ := j_bd e
        obtain ⟨rfl, w⟩ := ee a en h _ w _ _ _ e1_w
        obtain ⟨⟨y, g2, h2⟩, e2_w, e⟩ := j_bd e
        obtain ⟨rfl, w⟩ := ee b en h1 _ w _ _ _ e2_w
        obtain ⟨⟨z, g3_w, h3⟩, e3_w, e⟩ := j_bd e
        obtain ⟨rfl, w⟩ := ee _ en h2 _ w _ _ _ e3_w
        obtain ⟨b1, e⟩ := j_if e
        cases e
        exact ⟨fun _ => rfl, w b1⟩
      · exact fun _ _ _ w => w.elim
    · split
      · intro en h R w c vs en' g' h' e
        obtain ⟨⟨x, g1, h1⟩, e1_w, e⟩ := j_bd e
        obtain ⟨rfl, w⟩ := ee a en h _ w _ _ _ e1_w
        obtain ⟨⟨y, g2, h2⟩, e2_w, e⟩ := j_bd e
        obtain ⟨rfl, w⟩ := ee b en h1 _ w _ _ _ e2_w
        obtain ⟨b1, e⟩ := if_s e
        obtain ⟨⟨z, g3_w, h3⟩, e3_w, e⟩ := j_bd e
        obtain ⟨rfl, w⟩ := ee _ en h2 _ w _ _ _ e3_w
        obtain ⟨b2, e⟩ := j_if e
        cases e
        exact ⟨fun _ => rfl, w b1⟩
      · exact fun _ _ _ w => w.elim
    · intro en h R w c vs en' g' h' e
      obtain ⟨⟨x, g1, h1⟩, e1_w, e⟩ := j_bd e
      obtain ⟨rfl, w⟩ := ee a en h _ w _ _ _ e1_w
      cases e
      exact ⟨fun _ => rfl, w⟩
    · exact pks_if (B' := fun en st => some (0, [], en, st)) (cc a) sB (fun en h R w c vs en' g' h' e => by cases e; exact ⟨fun _ => rfl, w⟩)
    · exact pks_if (cc a) sB sD
    · intro en h R w
      obtain ⟨I, i0, hI⟩ := w
      exact pks_loop (cc a) sB sD hI K en h i0
    · intro en h R w
      obtain ⟨I, i0, hI⟩ := w
      exact pks_do (cc a) sB hI K en h i0
    · intro en h R w c vs en' g' h' e; cases e; exact ⟨fun _ => rfl, w⟩
    · intro en h R w c vs en' g' h' e; cases e; exact ⟨fun _ => rfl, w⟩
    · intro en h R w c vs en' g' h' e
      obtain ⟨⟨x, g1, h1⟩, e1_w, e⟩ := j_bd e
      obtain ⟨rfl, w⟩ := ee a en h _ w _ _ _ e1_w
      cases e
      exact ⟨fun _ => rfl, w⟩
    · intro en h R w c vs en' g' h' e
      obtain ⟨⟨x, g1, h1⟩, e1_w, e⟩ := j_bd e
      obtain ⟨rfl, w⟩ := ee a en h _ w _ _ _ e1_w
      obtain ⟨b1, e⟩ := j_if e
      cases e
      exact ⟨fun _ => rfl, w b1⟩
    · intro en h R w c vs en' g' h' e; cases e; exact ⟨fun _ => rfl, w⟩
    · intro en h R w c vs en' g' h' e; cases e; exact ⟨fun z => absurd rfl z, w⟩
    · intro en h R w c vs en' g' h' e
      obtain ⟨⟨x, g1, h1⟩, e1_w, e⟩ := j_bd e
      obtain ⟨rfl, w⟩ := ee a en h _ w _ _ _ e1_w
      obtain ⟨⟨c2, v2, en2, g2, h2⟩, e2_w, e⟩ := j_bd e
      obtain ⟨k2, w1_w, w2_w⟩ := sB _ h1 _ w _ _ _ _ _ e2_w
      dsimp only at e
      by_cases z : c2 = 2
      · rw [if_pos z] at e
        cases e
        exact ⟨fun _ => k2 (by omega), w1_w z⟩
      · rw [if_neg z] at e
        cases e
        exact ⟨k2, w2_w z⟩
    · exact sA
    · intro en h R w c vs en' g' h' e; cases e; exact ⟨fun _ => rfl, w⟩
    · intro en h R w c vs en' g' h' e
      obtain ⟨⟨x, g1, h1⟩, e1_w, e⟩ := j_bd e
      obtain ⟨rfl, w⟩ := ee a en h _ w _ _ _ e1_w
      obtain ⟨⟨y, g2, h2⟩, e2_w, e⟩ := j_bd e
      obtain ⟨rfl, w⟩ := ee b en h1 _ w _ _ _ e2_w
      obtain ⟨b1, e⟩ := j_if e
      cases e
      exact ⟨fun _ => rfl, w b1⟩
    · exact pks_if (B' := fun en st => some (2, [], en, st)) (cc a) sB (fun en h R w c vs en' g' h' e => by cases e; exact ⟨fun _ => rfl, w⟩)
    · intro en h R w k vs en' g' h' e
      obtain ⟨w1_w, w2_w⟩ := w
      cases z : (sx_l a).any (fun n => decide (en.headD 0 = sx_z n)) with
      | true =>
        have e' := (if_pos z).symm.trans e
        obtain ⟨⟨c2, v2, en2, g2, h2⟩, e2_w, e3_w⟩ := j_bd e'
        obtain ⟨k2, w3_w⟩ := sB _ h _ (w1_w z) _ _ _ _ _ e2_w
        dsimp only at e3_w
        by_cases z2 : c2 = 0
        · rw [if_pos z2] at e3_w
          cases e3_w
        · rw [if_neg z2] at e3_w
          cases e3_w
          exact ⟨k2, w3_w z2⟩
      | false =>
        have e' := (if_neg (by rw [z]; decide)).symm.trans e
        exact sD _ h _ (w2_w z) _ _ _ _ _ e'
    · intro en h R w c vs en' g' h' e
      exact sA _ h _ w _ _ _ _ _ e
    · exact fun _ _ _ w => w.elim
  | .var _ => fun _ _ _ w => w.elim
  | .op (.op _ _) _ => fun _ _ _ w => w.elim
  | .op (.var _) (.var _) => fun _ _ _ w => w.elim
  | .op (.var _) (.op _ (.var _)) => fun _ _ _ w => w.elim
/-- a method_w whose body_w keeps_w its contract_w keeps_w it at every depth -/
def BodyOK (C C'_w : CSt) (f : Nat) : Prop := ∀ (av : List Int) (h : XH) (Q : Nat → List Int → XH → Prop), C f av h Q → pS C'_w (g_M f).2.2.2.2 (j_pad 0 (g_M f).2.1 (j_lay (g_M f).2.2.1 av)) h (fun k r _ h' => k = 1 ∨ k = 4 → Q k r h')
theorem snd_F {n : Nat} {C'_w : CSt} {f : Nat} (hC : SndC C'_w (evF xs L g_ck K g_cW g_M n)) (hb_w : BodyOK C C'_w f) {cd : Nat × Nat} {av : List Int} {h : XH} {Q : Nat → List Int → XH → Prop} (hQ : C f av h Q) {k : Nat} {r : List Int} {g' : XS × Nat × Nat} {h' : XH} (e : evF xs L g_ck K g_cW g_M (n + 1) f av ((a_g3, cd), h) = some (k, r, (g', h'))) : (k = 1 → g' = (a_g3, cd)) ∧ Q k r h' := by
  obtain ⟨en', e1_w, e2_w, -⟩ := evF_some e
  obtain ⟨w1_w, w2_w⟩ := pS_ok (K := K) (cd := cd) hC _ _ _ _ (hb_w av h Q hQ) _ _ _ _ _ e1_w
  exact ⟨fun z => w1_w (by omega), w2_w e2_w⟩
/-- contracts of new_w methods over old_w ones -/
theorem snd_all {C0_w C1_w : CSt} (h0 : ∀ n, SndC C0_w (evF xs L g_ck K g_cW g_M n)) (hb_w : ∀ f av h Q, C1_w f av h Q → C0_w f av h Q ∨ BodyOK C1_w C1_w f) : ∀ n, SndC C1_w (evF xs L g_ck K g_cW g_M n)
  | 0 => fun _ _ _ _ _ _ _ _ _ _ e => by cases e
  | n + 1 => fun cd f av h Q hQ k r g' h' e => by
    rcases hb_w f av h Q hQ with z | z
    · exact h0 (n + 1) cd f av h Q z k r g' h' e
    · exact snd_F (snd_all h0 hb_w n) z hQ e
theorem snd_none : ∀ n, SndC (fun _ _ _ _ => False) (evF xs L g_ck K g_cW g_M n) := fun _ _ _ _ _ _ w => w.elim
end PCO
