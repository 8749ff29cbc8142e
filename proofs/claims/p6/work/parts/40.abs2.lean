/-! ===== the second reading: statements, methods ===== -/
section ASV
variable (cx : AC) (G : AP)
def as_skip (n : Nat) : AR := fun en st => .ok (n, [], en, st)
def as_seq (A B : AR) : AR := fun en st => (A en st).bind fun r => if r.1 = 0 then B r.2.2.1 r.2.2.2 else .ok r
def as_loop (C : AE) (B P : AR) : Nat → AR
  | 0 => fun _ _ => .error none
  | k + 1 => fun en st => (C en st).bind fun x => (a_cmp cx 0 (a_hd x.1) (.inl 0)).bind fun b => if b then .ok (0, [], en, x.2) else
      (B en x.2).bind fun r =>
        if r.1 = 0 ∨ r.1 = 3 then (P r.2.2.1 r.2.2.2).bind fun q => if q.1 = 0 then as_loop C B P k q.2.2.1 q.2.2.2 else .error none
        else if r.1 = 2 then .ok (0, [], r.2.2.1, r.2.2.2) else .ok r
def as_do (B : AR) (C : AE) : Nat → AR
  | 0 => fun _ _ => .error none
  | k + 1 => fun en st => (B en st).bind fun r =>
      if r.1 = 0 ∨ r.1 = 3 then (C r.2.2.1 r.2.2.2).bind fun x => (a_cmp cx 0 (a_hd x.1) (.inl 0)).bind fun b => if b then .ok (0, [], r.2.2.1, x.2) else as_do B C k r.2.2.1 x.2
      else if r.1 = 2 then .ok (0, [], r.2.2.1, r.2.2.2) else .ok r
def as_store (i : Nat) (A : AE) : AR := fun en st => (A en st).bind fun x => .ok (0, [], en.set i (a_hd x.1), x.2)
def as_inc (i : Nat) (n : Int) : AR := fun en st => (a_num (en.getD i (.inl 0))).bind fun v => .ok (0, [], en.set i (.inl (f_j32 (v + n))), st)
def as_putf (k : Nat) (A B : AE) : AR := fun en st => (A en st).bind fun x => (B en x.2).bind fun y => (a_num (a_hd x.1)).bind fun o => .ok (0, [], en, (y.2.1, updH y.2.2 o.toNat k (a_hd y.1)))
def as_putfZ (k : Nat) (A B : AE) : AR := fun en st => (A en st).bind fun x => (B en x.2).bind fun y => (a_num (a_hd x.1)).bind fun o => (a_num (a_hd y.1)).bind fun v => if v = 0 ∨ v = 1 then .ok (0, [], en, (y.2.1, updH y.2.2 o.toNat k (.inl v))) else .error none
def as_putfC (k op : Nat) (A B : AE) : AR := fun en st => (A en st).bind fun x => (B en x.2).bind fun y => (a_num (a_hd x.1)).bind fun o => (a_num (lookH x.2.2 o.toNat k)).bind fun p => (a_num (a_hd y.1)).bind fun q => .ok (0, [], en, (y.2.1, updH y.2.2 o.toNat k (.inl (f_iop op p q))))
def as_putr (k : Nat) (A B : AE) : AR := fun en st => (A en st).bind fun x => (B en x.2).bind fun y => (a_num (a_hd x.1)).bind fun o => (a_num (a_hd y.1)).bind fun v => .ok (0, [], en, ((j_setR y.2.1.1 o.toNat k v.toNat, y.2.1.2), y.2.2))
def a_cell (ty : Nat) (v : AV) : AX AV := match ty with
  | 8 => (a_num v).bind fun n => .ok (.inl ((Int32.ofInt n).toInt8.toInt32).toInt)
  | 9 => (a_num v).bind fun n => .ok (.inl (Int32.ofInt n &&& 1).toInt)
  | _ => .ok v
def as_ast (ty : Nat) (A B C : AE) : AR := fun en st => (A en st).bind fun x => (B en x.2).bind fun y => (C en y.2).bind fun z => (a_num (a_hd x.1)).bind fun o => (a_num (a_hd y.1)).bind fun j => (a_cell ty (a_hd z.1)).bind fun v =>
  if 0 ≤ j ∧ j < j_len z.2.1.1 o.toNat then .ok (0, [], en, (z.2.1, updH z.2.2 o.toNat j.toNat v)) else .error none
def as_astC (op : Nat) (A B C : AE) : AR := fun en st => (A en st).bind fun x => (B en x.2).bind fun y => (a_num (a_hd x.1)).bind fun o => (a_num (a_hd y.1)).bind fun j =>
  if 0 ≤ j ∧ j < j_len y.2.1.1 o.toNat then (C en y.2).bind fun z =>
    if j < j_len z.2.1.1 o.toNat then (a_num (lookH y.2.2 o.toNat j.toNat)).bind fun p => (a_num (a_hd z.1)).bind fun q => .ok (0, [], en, (z.2.1, updH z.2.2 o.toNat j.toNat (.inl (f_iop op p q)))) else .error none else .error none
def as_if (A : AE) (B C : AR) : AR := fun en st => (A en st).bind fun x => (a_cmp cx 0 (a_hd x.1) (.inl 0)).bind fun b => if b then C en x.2 else B en x.2
def as_sw (A : AE) (B : AR) : AR := fun en st => (A en st).bind fun x => (B (a_hd x.1 :: en) x.2).bind fun r => if r.1 = 2 then .ok (0, r.2) else .ok r
def as_case (l : List Nat) (B C : AR) : AR := fun en st => (a_any cx (en.headD (.inl 0)) l).bind fun b => if b then (B en.tail st).bind fun r => if r.1 = 0 then .error none else .ok r else C en st
def as_try (f : Nat) (A B : AE) : AR := fun en st => (A en st).bind fun x => (B en x.2).bind fun y => (G f y.1 y.2).bind fun r => (a_num (a_hd x.1)).bind fun o =>
  if r.1 = 1 then (if 0 < j_len r.2.2.1.1 o.toNat then .ok (0, [], en, (r.2.2.1, updH r.2.2.2 o.toNat 0 (a_hd r.2.1))) else .error none)
  else if r.1 = 4 then .ok (1, [.inl 1], en, r.2.2) else .error none
def as_ret (A : AE) : AR := fun en st => (A en st).bind fun x => .ok (1, x.1, en, x.2)
def as_retZ (A : AE) : AR := fun en st => (A en st).bind fun x => (a_num (a_hd x.1)).bind fun v => if v = 0 ∨ v = 1 then .ok (1, x.1, en, x.2) else .error none
def as_throw : AR := fun en st => .ok (4, [], en, ((st.1.1, st.1.2.1 + 1, st.1.2.2 + 6), st.2))
def as_exp (A : AE) : AR := fun en st => (A en st).bind fun x => .ok (0, [], en, x.2)
variable (L : Nat) (ck : Nat → List Nat) (K : Nat)
def anodeS (cW : Nat → Nat → Int) (t : Nat) (a b c : SX) (A B C : AR) : AR := match t with
  | 1 => as_skip 0
  | 2 => as_seq A B
  | 3 => as_store (sx_n a) (abE L ck G cx cW b)
  | 4 => as_inc (sx_n a) (if sx_n c = 0 then (sx_n b : Int) else -(sx_n b : Int))
  | 5 => as_putf (sx_n c) (abE L ck G cx cW a) (abE L ck G cx cW b)
  | 6 => as_putfC (sx_n c / 16) (sx_n c % 16) (abE L ck G cx cW a) (abE L ck G cx cW b)
  | 7 => match c with
    | .op (.var ty) v => as_ast ty (abE L ck G cx cW a) (abE L ck G cx cW b) (abE L ck G cx cW v)
    | _ => fun _ _ => .error none
  | 8 => match c with
    | .op (.var op) v => as_astC op (abE L ck G cx cW a) (abE L ck G cx cW b) (abE L ck G cx cW v)
    | _ => fun _ _ => .error none
  | 9 => as_exp (abE L ck G cx cW a)
  | 10 => as_if cx (abE L ck G cx cW a) B (as_skip 0)
  | 11 => as_if cx (abE L ck G cx cW a) B C
  | 12 => as_loop cx (abE L ck G cx cW a) B C K
  | 13 => as_do cx B (abE L ck G cx cW a) K
  | 14 => as_skip 2
  | 15 => as_skip 3
  | 16 => as_ret (abE L ck G cx cW a)
  | 27 => as_retZ (abE L ck G cx cW a)
  | 17 => as_skip 1
  | 18 => as_throw
  | 19 => as_sw (abE L ck G cx cW a) B
  | 20 => A
  | 21 => as_putr (sx_n c) (abE L ck G cx cW a) (abE L ck G cx cW b)
  | 22 => as_skip 0
  | 23 => as_putfZ (sx_n c) (abE L ck G cx cW a) (abE L ck G cx cW b)
  | 24 => as_try G (sx_n c) (abE L ck G cx cW a) (abE L ck G cx cW b)
  | 28 => as_if cx (abE L ck G cx cW a) B (as_skip 2)
  | 25 => as_case cx (sx_l a) B C
  | 26 => fun en st => A en.tail st
  | _ => fun _ _ => .error none
def abS (cW : Nat → Nat → Int) : SX → AR
  | .op (.var t) (.op a (.op b c)) => anodeS cx G L ck K cW t a b c (abS cW a) (abS cW b) (abS cW c)
  | _ => fun _ _ => .error none
end ASV
def a_lay : List Nat → List AV → List AV
  | k :: ks, v :: vs => if k = 2 then v :: .inl 0 :: a_lay ks vs else v :: a_lay ks vs
  | [], _ => []
  | _ :: _, [] => []
def abF (cx : AC) (L : Nat) (ck : Nat → List Nat) (K : Nat) (cW : Nat → Nat → Int) (M : Nat → XM) : Nat → AP
  | 0 => fun _ _ _ => .error none
  | n + 1 => fun f args st =>
    (abS cx (abF cx L ck K cW M n) L ck K cW (M f).2.2.2.2 (j_pad (.inl 0) (M f).2.1 (a_lay (M f).2.2.1 args)) st).bind fun r =>
      if (r.1 = 1 ∨ r.1 = 4) ∧ st.1.2.1 ≤ r.2.2.2.1.2.1 ∧ st.1.2.2 ≤ r.2.2.2.1.2.2 ∧ (st.1.1.map (·.1)).isPrefixOf (r.2.2.2.1.1.map (·.1)) = true then .ok (r.1, r.2.1, r.2.2.2) else .error none
def SndS (xs : Nat → Int) (A : AR) (B : XR) : Prop := ∀ (en : List AV) (st : AS) (r : Nat × List AV × List AV × AS), A en st = .ok r → B (en.map (a_v xs)) (a_c xs st) = some (r.1, r.2.1.map (a_v xs), r.2.2.1.map (a_v xs), a_c xs r.2.2.2)
section ASS
variable {xs : Nat → Int} {L K : Nat} {ck : Nat → List Nat} {G : AP} {F : XP} {cx : AC} {A B C : AE} {A' B' C' : XE} {P Q S : AR} {P' Q' S' : XR} {cW : Nat → Nat → Int}
theorem ss_skip {n : Nat} : SndS xs (as_skip n) (fun en st => some (n, [], en, st)) := fun en st r h => by cases h; rfl
theorem ss_seq (hP : SndS xs P P') (hQ : SndS xs Q Q') : SndS xs (as_seq P Q) (s_seq P' Q') := by
  intro en st r h
  obtain ⟨x, h1, h⟩ := ex_bd h
  unfold s_seq
  rw [hP _ _ _ h1, Option.bind_some]
  dsimp only
  by_cases h0 : x.1 = 0
  · rw [if_pos h0] at h ⊢
    exact hQ _ _ _ h
  · rw [if_neg h0] at h ⊢
    cases h
    rfl
theorem ss_loop (hs : SatA xs cx) (hC : SndE xs C C') (hP : SndS xs P P') (hQ : SndS xs Q Q') : ∀ k, SndS xs (as_loop cx C P Q k) (s_loop C' P' Q' k)
  | 0 => fun _ _ _ h => by cases h
  | k + 1 => by
    intro en st r h
    obtain ⟨x, h1, h⟩ := ex_bd h
    obtain ⟨b, h2, h⟩ := ex_bd h
    unfold s_loop
    rw [hC _ _ _ h1, Option.bind_some]
    dsimp only
    rw [a_hd_v]
    rcases a_zero hs h2 with ⟨rfl, e⟩ | ⟨rfl, e⟩
    · rw [if_pos e]
      cases h
      rfl
    · rw [if_neg e]
      obtain ⟨q, h3, h⟩ := ex_bd h
      rw [hP _ _ _ h3, Option.bind_some]
      dsimp only
      by_cases h4 : q.1 = 0 ∨ q.1 = 3
      · rw [if_pos h4] at h ⊢
        obtain ⟨z, h5, h⟩ := ex_bd h
        rw [hQ _ _ _ h5, Option.bind_some]
        dsimp only
        obtain ⟨h6, h⟩ := ex_if h
        rw [if_pos h6]
        exact ss_loop hs hC hP hQ k _ _ _ h
      · rw [if_neg h4] at h ⊢
        by_cases h5 : q.1 = 2
        · rw [if_pos h5] at h ⊢
          cases h
          rfl
        · rw [if_neg h5] at h ⊢
          cases h
          rfl
theorem ss_do (hs : SatA xs cx) (hC : SndE xs C C') (hP : SndS xs P P') : ∀ k, SndS xs (as_do cx P C k) (s_do P' C' k)
  | 0 => fun _ _ _ h => by cases h
  | k + 1 => by
    intro en st r h
    obtain ⟨q, h3, h⟩ := ex_bd h
    unfold s_do
    rw [hP _ _ _ h3, Option.bind_some]
    dsimp only
    by_cases h4 : q.1 = 0 ∨ q.1 = 3
    · rw [if_pos h4] at h ⊢
      obtain ⟨x, h1, h⟩ := ex_bd h
      obtain ⟨b, h2, h⟩ := ex_bd h
      rw [hC _ _ _ h1, Option.bind_some]
      dsimp only
      rw [a_hd_v]
      rcases a_zero hs h2 with ⟨rfl, e⟩ | ⟨rfl, e⟩
      · rw [if_pos e]
        cases h
        rfl
      · rw [if_neg e]
        exact ss_do hs hC hP k _ _ _ h
    · rw [if_neg h4] at h ⊢
      by_cases h5 : q.1 = 2
      · rw [if_pos h5] at h ⊢
        cases h
        rfl
      · rw [if_neg h5] at h ⊢
        cases h
        rfl
theorem set_v {en : List AV} {i : Nat} {v : AV} : (en.set i v).map (a_v xs) = (en.map (a_v xs)).set i (a_v xs v) := List.map_set
theorem ss_store {i : Nat} (hA : SndE xs A A') : SndS xs (as_store i A) (fun en st => (A' en st).bind fun x => some (0, [], en.set i (j_hd x.1), x.2)) := by
  intro en st r h
  obtain ⟨x, h1, h⟩ := ex_bd h
  cases h
  dsimp only
  rw [hA _ _ _ h1, Option.bind_some]
  dsimp only
  rw [a_hd_v, set_v]
  rfl
theorem ss_inc {i : Nat} {n : Int} : SndS xs (as_inc i n) (fun en st => some (0, [], en.set i (j32 (en.getD i 0 + n)), st)) := by
  intro en st r h
  obtain ⟨v, h1, h⟩ := ex_bd h
  cases h
  dsimp only
  rw [getD_v, a_num_ok (xs := xs) h1, set_v, ← f_j32_ok]
  rfl
theorem ss_putf {k : Nat} (hA : SndE xs A A') (hB : SndE xs B B') : SndS xs (as_putf k A B) (s_putf k A' B') := by
  intro en st r h
  obtain ⟨x, h1, h⟩ := ex_bd h
  obtain ⟨y, h2, h⟩ := ex_bd h
  obtain ⟨o, h3, h⟩ := ex_bd h
  cases h
  unfold s_putf
  rw [hA _ _ _ h1, Option.bind_some, hB _ _ _ h2, Option.bind_some]
  dsimp only
  rw [a_hd_v, a_hd_v, a_num_ok (xs := xs) h3, c_upd]
  rfl
theorem ss_putfZ {k : Nat} (hA : SndE xs A A') (hB : SndE xs B B') : SndS xs (as_putfZ k A B) (fun en st => (A' en st).bind fun x => (B' en x.2).bind fun y => if j_hd y.1 = 0 ∨ j_hd y.1 = 1 then some (0, [], en, (y.2.1, j_up y.2.2 (j_hd x.1).toNat k (j_hd y.1))) else none) := by
  intro en st r h
  obtain ⟨x, h1, h⟩ := ex_bd h
  obtain ⟨y, h2, h⟩ := ex_bd h
  obtain ⟨o, h3, h⟩ := ex_bd h
  obtain ⟨v, h4, h⟩ := ex_bd h
  obtain ⟨h5, h⟩ := ex_if h
  cases h
  dsimp only
  rw [hA _ _ _ h1, Option.bind_some, hB _ _ _ h2, Option.bind_some]
  dsimp only
  rw [a_hd_v, a_hd_v, a_num_ok (xs := xs) h3, a_num_ok (xs := xs) h4, c_upd]
  exact if_pos h5
theorem ss_putfC {k op : Nat} (hA : SndE xs A A') (hB : SndE xs B B') : SndS xs (as_putfC k op A B) (s_putfC k op A' B') := by
  intro en st r h
  obtain ⟨x, h1, h⟩ := ex_bd h
  obtain ⟨y, h2, h⟩ := ex_bd h
  obtain ⟨o, h3, h⟩ := ex_bd h
  obtain ⟨p, h4, h⟩ := ex_bd h
  obtain ⟨q, h5, h⟩ := ex_bd h
  cases h
  unfold s_putfC
  rw [hA _ _ _ h1, Option.bind_some, hB _ _ _ h2, Option.bind_some]
  dsimp only
  rw [a_hd_v, a_hd_v, a_num_ok (xs := xs) h3, a_num_ok (xs := xs) h5, c_upd]
  have e : (a_c xs x.2).2 o.toNat k = p := a_num_ok (xs := xs) h4
  rw [e, ← f_iop_ok]
  rfl
theorem ss_putr {k : Nat} (hA : SndE xs A A') (hB : SndE xs B B') : SndS xs (as_putr k A B) (fun en st => (A' en st).bind fun x => (B' en x.2).bind fun y => some (0, [], en, ((j_setR y.2.1.1 (j_hd x.1).toNat k (j_hd y.1).toNat, y.2.1.2), y.2.2))) := by
  intro en st r h
  obtain ⟨x, h1, h⟩ := ex_bd h
  obtain ⟨y, h2, h⟩ := ex_bd h
  obtain ⟨o, h3, h⟩ := ex_bd h
  obtain ⟨v, h4, h⟩ := ex_bd h
  cases h
  dsimp only
  rw [hA _ _ _ h1, Option.bind_some, hB _ _ _ h2, Option.bind_some]
  dsimp only
  rw [a_hd_v, a_hd_v, a_num_ok (xs := xs) h3, a_num_ok (xs := xs) h4]
  rfl
theorem a_cell8 {v w : AV} (h : a_cell 8 v = .ok w) : ((Int32.ofInt (a_v xs v)).toInt8.toInt32).toInt = a_v xs w := by
  obtain ⟨n, h1, h⟩ := ex_bd h
  cases h
  rw [a_num_ok (xs := xs) h1]
  rfl
theorem a_cell9 {v w : AV} (h : a_cell 9 v = .ok w) : (Int32.ofInt (a_v xs v) &&& 1).toInt = a_v xs w := by
  obtain ⟨n, h1, h⟩ := ex_bd h
  cases h
  rw [a_num_ok (xs := xs) h1]
  rfl
theorem a_cellO {ty : Nat} {v w : AV} (h8 : ty ≠ 8) (h9 : ty ≠ 9) (h : a_cell ty v = .ok w) : v = w := by
  unfold a_cell at h
  split at h
  · exact absurd rfl h8
  · exact absurd rfl h9
  · cases h
    rfl
theorem ss_ast {ty : Nat} (hA : SndE xs A A') (hB : SndE xs B B') (hC : SndE xs C C') : SndS xs (as_ast ty A B C) (s_ast ty A' B' C') := by
  intro en st r h
  obtain ⟨x, h1, h⟩ := ex_bd h
  obtain ⟨y, h2, h⟩ := ex_bd h
  obtain ⟨z, h3, h⟩ := ex_bd h
  obtain ⟨o, h4, h⟩ := ex_bd h
  obtain ⟨j, h5, h⟩ := ex_bd h
  obtain ⟨v, h6, h⟩ := ex_bd h
  obtain ⟨h7, h⟩ := ex_if h
  cases h
  unfold s_ast
  rw [hA _ _ _ h1, Option.bind_some, hB _ _ _ h2, Option.bind_some, hC _ _ _ h3, Option.bind_some]
  dsimp only
  rw [a_hd_v, a_hd_v, a_hd_v, a_num_ok (xs := xs) h4, a_num_ok (xs := xs) h5, c_upd]
  refine (if_pos h7).trans ?_
  by_cases h8 : ty = 8
  · subst h8
    rw [a_cell8 h6]
    rfl
  · by_cases h9 : ty = 9
    · subst h9
      rw [a_cell9 h6]
      rfl
    · have e := a_cellO h8 h9 h6
      split
      · exact absurd rfl h8
      · exact absurd rfl h9
      · rw [e]
        rfl
theorem ss_astC {op : Nat} (hA : SndE xs A A') (hB : SndE xs B B') (hC : SndE xs C C') : SndS xs (as_astC op A B C) (s_astC op A' B' C') := by
  intro en st r h
  obtain ⟨x, h1, h⟩ := ex_bd h
  obtain ⟨y, h2, h⟩ := ex_bd h
  obtain ⟨o, h4, h⟩ := ex_bd h
  obtain ⟨j, h5, h⟩ := ex_bd h
  obtain ⟨h7, h⟩ := ex_if h
  obtain ⟨z, h3, h⟩ := ex_bd h
  obtain ⟨h8, h⟩ := ex_if h
  obtain ⟨p, h9, h⟩ := ex_bd h
  obtain ⟨q, h10, h⟩ := ex_bd h
  cases h
  unfold s_astC
  rw [hA _ _ _ h1, Option.bind_some, hB _ _ _ h2, Option.bind_some]
  dsimp only
  rw [a_hd_v, a_hd_v, a_num_ok (xs := xs) h4, a_num_ok (xs := xs) h5, if_pos (show 0 ≤ j ∧ j < j_len (a_c xs y.2).1.1 o.toNat from h7), hC _ _ _ h3, Option.bind_some]
  dsimp only
  rw [if_pos (show j < j_len (a_c xs z.2).1.1 o.toNat from h8), a_hd_v, a_num_ok (xs := xs) h10, c_upd]
  have e : (a_c xs y.2).2 o.toNat j.toNat = p := a_num_ok (xs := xs) h9
  rw [e, ← f_iop_ok]
  rfl
theorem ss_if (hs : SatA xs cx) (hA : SndE xs A A') (hP : SndS xs P P') (hQ : SndS xs Q Q') : SndS xs (as_if cx A P Q) (s_if A' P' Q') := by
  intro en st r h
  obtain ⟨x, h1, h⟩ := ex_bd h
  obtain ⟨v, h3, h⟩ := ex_bd h
  unfold s_if
  rw [hA _ _ _ h1, Option.bind_some]
  dsimp only
  rw [a_hd_v]
  rcases a_zero hs h3 with ⟨rfl, e⟩ | ⟨rfl, e⟩
  · rw [if_pos e]
    exact hQ _ _ _ h
  · rw [if_neg e]
    exact hP _ _ _ h
theorem ss_sw (hA : SndE xs A A') (hP : SndS xs P P') : SndS xs (as_sw A P) (s_sw A' P') := by
  intro en st r h
  obtain ⟨x, h1, h⟩ := ex_bd h
  obtain ⟨q, h3, h⟩ := ex_bd h
  unfold s_sw
  rw [hA _ _ _ h1, Option.bind_some]
  dsimp only
  rw [a_hd_v]
  have e := hP _ _ _ h3
  rw [List.map_cons] at e
  rw [e, Option.bind_some]
  dsimp only
  by_cases h4 : q.1 = 2
  · rw [if_pos h4] at h ⊢
    cases h
    rfl
  · rw [if_neg h4] at h ⊢
    cases h
    rfl
theorem headD_v {en : List AV} : (en.map (a_v xs)).headD 0 = a_v xs (en.headD (.inl 0)) := by cases en <;> rfl
theorem ss_case (hs : SatA xs cx) {l : List Nat} (hP : SndS xs P P') (hQ : SndS xs Q Q') : SndS xs (as_case cx l P Q) (fun en st => if l.any (fun n => decide (en.headD 0 = sx_z n)) then (P' en.tail st).bind fun r => if r.1 = 0 then none else some r else Q' en st) := by
  intro en st r h
  obtain ⟨b, h1, h⟩ := ex_bd h
  dsimp only
  rw [headD_v, a_any_ok hs h1]
  cases b with
  | true =>
    rw [if_pos rfl] at h ⊢
    obtain ⟨q, h3, h⟩ := ex_bd h
    have e := hP _ _ _ h3
    rw [List.map_tail] at e
    rw [e, Option.bind_some]
    dsimp only
    by_cases h4 : q.1 = 0
    · rw [if_pos h4] at h; cases h
    · rw [if_neg h4] at h ⊢
      cases h
      rfl
  | false =>
    rw [if_neg (by decide)] at h ⊢
    exact hQ _ _ _ h
theorem ss_try (hG : SndP xs G F) {f : Nat} (hA : SndE xs A A') (hB : SndE xs B B') : SndS xs (as_try G f A B) (s_try F f A' B') := by
  intro en st r h
  obtain ⟨x, h1, h⟩ := ex_bd h
  obtain ⟨y, h2, h⟩ := ex_bd h
  obtain ⟨q, h3, h⟩ := ex_bd h
  obtain ⟨o, h4, h⟩ := ex_bd h
  unfold s_try
  rw [hA _ _ _ h1, Option.bind_some, hB _ _ _ h2, Option.bind_some]
  dsimp only
  rw [hG _ _ _ _ h3, Option.bind_some]
  dsimp only
  rw [a_hd_v, a_num_ok (xs := xs) h4]
  by_cases h5 : q.1 = 1
  · rw [if_pos h5] at h ⊢
    obtain ⟨h6, h⟩ := ex_if h
    cases h
    rw [if_pos (show 0 < j_len (a_c xs q.2.2).1.1 o.toNat from h6), a_hd_v, c_upd]
    rfl
  · rw [if_neg h5] at h ⊢
    obtain ⟨h6, h⟩ := ex_if h
    cases h
    rw [if_pos h6]
    rfl
theorem ss_ret (hA : SndE xs A A') : SndS xs (as_ret A) (fun en st => (A' en st).bind fun x => some (1, x.1, en, x.2)) := by
  intro en st r h
  obtain ⟨x, h1, h⟩ := ex_bd h
  cases h
  dsimp only
  rw [hA _ _ _ h1, Option.bind_some]
theorem ss_retZ (hA : SndE xs A A') : SndS xs (as_retZ A) (fun en st => (A' en st).bind fun x => if j_hd x.1 = 0 ∨ j_hd x.1 = 1 then some (1, x.1, en, x.2) else none) := by
  intro en st r h
  obtain ⟨x, h1, h⟩ := ex_bd h
  obtain ⟨v, h4, h⟩ := ex_bd h
  obtain ⟨h5, h⟩ := ex_if h
  cases h
  dsimp only
  rw [hA _ _ _ h1, Option.bind_some]
  dsimp only
  rw [a_hd_v, a_num_ok (xs := xs) h4]
  exact if_pos h5
theorem ss_exp (hA : SndE xs A A') : SndS xs (as_exp A) (fun en st => (A' en st).bind fun x => some (0, [], en, x.2)) := by
  intro en st r h
  obtain ⟨x, h1, h⟩ := ex_bd h
  cases h
  dsimp only
  rw [hA _ _ _ h1, Option.bind_some]
  rfl
theorem ss_node (hs : SatA xs cx) (hG : SndP xs G F) {t : Nat} {a b c : SX} (hP : SndS xs P P') (hQ : SndS xs Q Q') (hS : SndS xs S S') : SndS xs (anodeS cx G L ck K cW t a b c P Q S) (nodeS xs L ck F K cW t a b c P' Q' S') := by
  have e := fun t => se_all (L := L) (ck := ck) (cW := cW) hs hG t
  unfold anodeS
  split
  · exact ss_skip
  · exact ss_seq hP hQ
  · exact ss_store (e b)
  · exact ss_inc
  · exact ss_putf (e a) (e b)
  · exact ss_putfC (e a) (e b)
  · split
    · exact ss_ast (e a) (e b) (e _)
    · intro en st r h
      cases h
  · split
    · exact ss_astC (e a) (e b) (e _)
    · intro en st r h
      cases h
  · exact ss_exp (e a)
  · exact ss_if hs (e a) hQ ss_skip
  · exact ss_if hs (e a) hQ hS
  · exact ss_loop hs (e a) hQ hS K
  · exact ss_do hs (e a) hQ K
  · exact ss_skip
  · exact ss_skip
  · exact ss_ret (e a)
  · exact ss_retZ (e a)
  · exact ss_skip
  · intro en st r h
    cases h
    rfl
  · exact ss_sw (e a) hQ
  · exact hP
  · exact ss_putr (e a) (e b)
  · exact ss_skip
  · exact ss_putfZ (e a) (e b)
  · exact ss_try hG (e a) (e b)
  · exact ss_if hs (e a) hQ ss_skip
  · exact ss_case hs hQ hS
  · intro en st r h
    have e2 := hP _ _ _ h
    rw [List.map_tail] at e2
    exact e2
  · intro en st r h
    cases h
theorem ss_all (hs : SatA xs cx) (hG : SndP xs G F) : ∀ t : SX, SndS xs (abS cx G L ck K cW t) (evS xs L ck F K cW t)
  | .op (.var t) (.op a (.op b c)) => ss_node hs hG (ss_all hs hG a) (ss_all hs hG b) (ss_all hs hG c)
  | .var _ => fun _ _ _ h => by cases h
  | .op (.op _ _) _ => fun _ _ _ h => by cases h
  | .op (.var _) (.var _) => fun _ _ _ h => by cases h
  | .op (.var _) (.op _ (.var _)) => fun _ _ _ h => by cases h
theorem lay_v : ∀ (pk : List Nat) (av : List AV), (a_lay pk av).map (a_v xs) = j_lay pk (av.map (a_v xs))
  | [], av => by cases av <;> rfl
  | k :: pk, [] => rfl
  | k :: pk, v :: av => by
    by_cases hk : k = 2
    · show (if k = 2 then v :: .inl 0 :: a_lay pk av else v :: a_lay pk av).map (a_v xs) = if k = 2 then a_v xs v :: 0 :: j_lay pk (av.map (a_v xs)) else a_v xs v :: j_lay pk (av.map (a_v xs))
      rw [if_pos hk, if_pos hk, List.map_cons, List.map_cons, lay_v pk av]
      rfl
    · show (if k = 2 then v :: .inl 0 :: a_lay pk av else v :: a_lay pk av).map (a_v xs) = if k = 2 then a_v xs v :: 0 :: j_lay pk (av.map (a_v xs)) else a_v xs v :: j_lay pk (av.map (a_v xs))
      rw [if_neg hk, if_neg hk, List.map_cons, lay_v pk av]
theorem pad_v {n : Nat} {l : List AV} : (j_pad (.inl 0) n l).map (a_v xs) = j_pad 0 n (l.map (a_v xs)) := by
  unfold j_pad
  rw [List.map_append, List.map_replicate, List.length_map]
  rfl
theorem sf_all (hs : SatA xs cx) {M : Nat → XM} : ∀ n, SndP xs (abF cx L ck K cW M n) (evF xs L ck K cW M n)
  | 0 => fun _ _ _ _ h => by cases h
  | n + 1 => by
    intro f av st r h
    obtain ⟨q, h1, h⟩ := ex_bd h
    obtain ⟨h2, h⟩ := ex_if h
    cases h
    have e := ss_all (L := L) (ck := ck) (K := K) (cW := cW) hs (sf_all hs n) (M f).2.2.2.2 _ _ _ h1
    rw [pad_v, lay_v] at e
    unfold evF
    rw [e, Option.bind_some]
    exact if_pos h2
end ASS
