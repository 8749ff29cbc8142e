/-! ===== the third reading of values ===== -/
def isI (t : Nat) : Bool := t == 1 || t == 100
def sx_c (a b c : SX) : Int := if sx_n c = 0 then (sx_n a : Int) else -(sx_n a : Int)
def t_one (x : Option (List Nat)) : Nat := match x with
  | some [t] => t
  | _ => 0
def okI (v : Int) : Bool := decide (-2147483648 ≤ v ∧ v < 2147483648)
def okL (v : Int) : Bool := decide (-9223372036854775808 ≤ v ∧ v < 9223372036854775808)
/-- the tables of the third reading: kinds of fields, of what methods take and give; which methods may be called; which fields may be written -/
abbrev TT : Type := (Nat → List Nat) × (Nat → List Nat) × (Nat → List Nat) × (Nat → Bool) × (Nat → Nat → Bool)
def tyN (T : TT) (τ : List Nat) (t : Nat) (a b c : SX) (A B C : Option (List Nat)) : Option (List Nat) := match t with
  | 1 => match sx_n b with
    | 1 => if sx_c a b c = 0 ∨ sx_c a b c = 1 then some [100] else if okI (sx_c a b c) then some [1] else none
    | 2 => if okL (sx_c a b c) then some [2] else none
    | 3 => if 0 ≤ sx_c a b c ∧ sx_c a b c < 24 then some [3] else none
    | _ => none
  | 3 => let u := τ.getD (sx_n a) 0
    if u = 0 then none else if 300 ≤ u then some [1] else some [u]
  | 4 => let ci := t_one A - 10
    let kd := (T.1 ci).getD (sx_n b) 0
    if 10 ≤ t_one A ∧ t_one A < 100 ∧ (kd = 1 ∨ kd = 2 ∨ kd = 100) then some [kd] else none
  | 5 => let ci := t_one A - 10
    let kd := (T.1 ci).getD (sx_n b) 0
    if 10 ≤ t_one A ∧ t_one A < 100 ∧ 6 ≤ kd ∧ kd < 100 then some [kd] else none
  | 10 => match sx_n c with
    | 0 => if 6 ≤ t_one A ∧ t_one A < 10 then some [1] else none
    | _ => none
  | 13 => if t_one A = 3 then (match sx_n c with
    | 0 => some [2]
    | 1 => some [1]
    | _ => none) else none
  | 14 => if isI (t_one A) ∧ isI (t_one B) then some [1] else none
  | 15 => if t_one A = 2 ∧ t_one B = 2 then some [2] else none
  | 16 => if t_one A = 2 ∧ isI (t_one B) then some [2] else none
  | 17 => match b with
    | .op (.var 1) (.op a' (.op b' c')) => if sx_c a' b' c' ≠ 0 then (if sx_n c < 2 then (if isI (t_one A) ∧ isI (t_one B) then some [1] else none) else if t_one A = 2 ∧ t_one B = 2 then some [2] else none) else none
    | _ => none
  | 18 => match sx_n c with
    | 0 => if isI (t_one A) then some [1] else none
    | 1 => if t_one A = 2 then some [2] else none
    | 2 => if isI (t_one A) then some [2] else none
    | 3 => if t_one A = 2 then some [1] else none
    | _ => if isI (t_one A) then some [1] else none
  | 20 => if isI (t_one A) ∧ isI (t_one B) then some [100] else none
  | 21 => if isI (t_one A) then some [100] else none
  | 22 => if t_one A = 2 ∧ t_one B = 2 then some [100] else none
  | 23 => if t_one A = 3 ∧ t_one B = 3 then some [100] else none
  | 24 => A
  | 25 => if isI (t_one A) ∧ isI (t_one B) then some [100] else none
  | 26 => if isI (t_one A) ∧ isI (t_one B) then some [100] else none
  | 27 => if isI (t_one A) then some [100] else none
  | 28 => let u := t_lub (t_one B) (t_one C)
    if isI (t_one A) ∧ t_one B ≠ 0 ∧ t_one C ≠ 0 ∧ u ≠ 0 then some [u] else none
  | 30 => match A, B with
    | some x, some y => some (x ++ y)
    | _, _ => none
  | 31 => some []
  | 32 => match A with
    | some x => if t_subs x (T.2.1 (sx_n b)) = true ∧ T.2.2.2.1 (sx_n b) = true then some (T.2.2.1 (sx_n b)) else none
    | none => none
  | _ => none
def tyE (T : TT) (τ : List Nat) : SX → Option (List Nat)
  | .op (.var t) (.op a (.op b c)) => tyN T τ t a b c (tyE T τ a) (tyE T τ b) (tyE T τ c)
  | _ => none
/-- what a method that may be called is known to do: it ends, within the kinds, and writes nothing that isn't to be written -/
def TotF (T : TT) (g : XS × Nat × Nat) (ro : Nat → Nat → Bool) (F : XP) (f : Nat) : Prop :=
  ∀ (av : List Int) (h : XH), HT T.1 g.1 h → VL (fun _ => 0) g.1 (T.2.1 f) av → ∃ r h', F f av (g, h) = some (1, r, (g, h')) ∧ HT T.1 g.1 h' ∧ FR ro h h' ∧ VL (fun _ => 0) g.1 (T.2.2.1 f) r
/-- what is said of the shape: no reference is null, each leads to its kind; lengths are ints -/
def GG (fk : Nat → List Nat) (g : XS) : Prop := (∀ (o : Nat) (c : XC), g[o]? = some c → c.1 < 100 ∧ c.2.1 < 2147483648) ∧
  ∀ (o : Nat) (c : XC) (ci k kd : Nat), g[o]? = some c → c.1 = 10 + ci → (fk ci)[k]? = some kd → 6 ≤ kd → kd < 100 → ∃ r, j_rf g o k = some r ∧ 0 ≤ r ∧ ∃ c' : XC, g[r.toNat]? = some c' ∧ c'.1 = kd
def TotE (T : TT) (g : XS × Nat × Nat) (ro : Nat → Nat → Bool) (z : Nat → Int) (τ ts : List Nat) (A : XE) : Prop :=
  ∀ (en : List Int) (h : XH), VL z g.1 τ en → HT T.1 g.1 h → ∃ r h', A en (g, h) = some (r, (g, h')) ∧ HT T.1 g.1 h' ∧ FR ro h h' ∧ VL z g.1 ts r
theorem isI_in {z : Nat → Int} {g : XS} {t : Nat} {v : Int} (h : isI t = true) (hv : TV z g t v) : InI v := by
  simp only [isI, Bool.or_eq_true, beq_iff_eq] at h
  rcases h with rfl | rfl
  · exact hv.1 rfl
  · exact in_bool (hv.2.2.1 rfl)
theorem t_one_some {x : Option (List Nat)} {t : Nat} (h : t_one x = t) (h0 : t ≠ 0) : x = some [t] := by
  unfold t_one at h
  split at h
  · rw [h]
  · exact absurd h.symm h0
theorem isI_sub {t : Nat} (h : isI t = true) : t_sub t 1 = true := by
  simp only [isI, Bool.or_eq_true, beq_iff_eq] at h
  rcases h with rfl | rfl <;> rfl
theorem isI_0 {t : Nat} (h : isI t = true) : t ≠ 0 := by
  rintro rfl
  cases h
theorem j_b01 (b : Bool) : j_b b = 0 ∨ j_b b = 1 := by
  cases b
  · exact Or.inl rfl
  · exact Or.inr rfl
theorem iop_in (k : Nat) (x y : Int) : InI (j_iop k x y) := by
  unfold j_iop
  split <;> first | exact in_i32 _
theorem lop_in (k : Nat) (x y : Int) : InL (j_lop k x y) := by
  unfold j_lop
  split <;> first | exact in_i64 _
theorem lsh_in (k : Nat) (x y : Int) : InL (j_lsh k x y) := by
  unfold j_lsh
  split <;> first | exact in_i64 _
theorem tmod_i {x y : Int} (h : InI x) : InI (x.tmod y) := by
  unfold InI at h ⊢
  rcases (show x < 0 ∨ 0 ≤ x by omega) with hx | hx
  · have h1 : x.tmod y = -((-x).tmod y) := by rw [Int.neg_tmod]; omega
    have h2 := Int.natAbs_tmod x y
    have h4 := Nat.mod_le x.natAbs y.natAbs
    have h3 : 0 ≤ (-x).tmod y := Int.tmod_nonneg _ (by omega)
    omega
  · have h2 := Int.natAbs_tmod x y
    have h4 := Nat.mod_le x.natAbs y.natAbs
    have h3 : 0 ≤ x.tmod y := Int.tmod_nonneg _ hx
    omega
theorem tmod_l {x y : Int} (h : InL x) : InL (x.tmod y) := by
  unfold InL at h ⊢
  rcases (show x < 0 ∨ 0 ≤ x by omega) with hx | hx
  · have h1 : x.tmod y = -((-x).tmod y) := by rw [Int.neg_tmod]; omega
    have h2 := Int.natAbs_tmod x y
    have h4 := Nat.mod_le x.natAbs y.natAbs
    have h3 : 0 ≤ (-x).tmod y := Int.tmod_nonneg _ (by omega)
    omega
  · have h2 := Int.natAbs_tmod x y
    have h4 := Nat.mod_le x.natAbs y.natAbs
    have h3 : 0 ≤ x.tmod y := Int.tmod_nonneg _ hx
    omega
theorem okI_in {v : Int} (h : okI v = true) : InI v := by
  simp only [okI, decide_eq_true_eq] at h
  exact h
theorem okL_in {v : Int} (h : okL v = true) : InL v := by
  simp only [okL, decide_eq_true_eq] at h
  exact h
section TYE
variable {xs : Nat → Int} {L : Nat} {ck : Nat → List Nat} {F : XP} {cW : Nat → Nat → Int} {T : TT} {g : XS × Nat × Nat} {ro : Nat → Nat → Bool} {z : Nat → Int} {τ ts : List Nat}
theorem te_one {A : XE} {t : Nat} (hA : TotE T g ro z τ [t] A) {en : List Int} {h : XH} (h1 : VL z g.1 τ en) (h2 : HT T.1 g.1 h) : ∃ v h', A en (g, h) = some ([v], (g, h')) ∧ HT T.1 g.1 h' ∧ FR ro h h' ∧ TV z g.1 t v := by
  obtain ⟨r, h', e1, e2, e3, e4⟩ := hA en h h1 h2
  obtain ⟨v, rfl, e5⟩ := VL.one e4
  exact ⟨v, h', e1, e2, e3, e5⟩
theorem te_un {A B : XE} {t u : Nat} {f : Int → Int} (hB : ∀ en st, B en st = (A en st).bind fun x => some ([f (j_hd x.1)], x.2)) (hA : TotE T g ro z τ [t] A) (hf : ∀ v, TV z g.1 t v → TV z g.1 u (f v)) : TotE T g ro z τ [u] B := by
  intro en h h1 h2
  obtain ⟨v, h', e1, e2, e3, e4⟩ := te_one hA h1 h2
  refine ⟨[f v], h', ?_, e2, e3, hf v e4, trivial⟩
  rw [hB, e1]
  rfl
theorem te_bin {A B : XE} {op : Int → Int → Int} {t u w : Nat} (hA : TotE T g ro z τ [t] A) (hB : TotE T g ro z τ [u] B) (hf : ∀ v v', TV z g.1 t v → TV z g.1 u v' → TV z g.1 w (op v v')) : TotE T g ro z τ [w] (n_bin op A B) := by
  intro en h h1 h2
  obtain ⟨v, h', e1, e2, e3, e4⟩ := te_one hA h1 h2
  obtain ⟨v', h3, f1, f2, f3, f4⟩ := te_one hB h1 e2
  refine ⟨[op v v'], h3, ?_, f2, e3.tr f3, hf v v' e4 f4, trivial⟩
  unfold n_bin
  rw [e1, Option.bind_some, f1]
  rfl
theorem te_cmp {A B : XE} {op : Int → Int → Bool} {t u : Nat} (hA : TotE T g ro z τ [t] A) (hB : TotE T g ro z τ [u] B) : TotE T g ro z τ [100] (n_cmp op A B) := by
  intro en h h1 h2
  obtain ⟨v, h', e1, e2, e3, e4⟩ := te_one hA h1 h2
  obtain ⟨v', h3, f1, f2, f3, f4⟩ := te_one hB h1 e2
  refine ⟨[j_b (op v v')], h3, ?_, f2, e3.tr f3, TV.bool (j_b01 _), trivial⟩
  unfold n_cmp
  rw [e1, Option.bind_some, f1]
  rfl
theorem te_ife {A B C : XE} {t : Nat} {us : List Nat} (hA : TotE T g ro z τ [t] A) (hB : TotE T g ro z τ us B) (hC : TotE T g ro z τ us C) : TotE T g ro z τ us (n_ife A B C) := by
  intro en h h1 h2
  obtain ⟨v, h', e1, e2, e3, e4⟩ := te_one hA h1 h2
  unfold n_ife
  rw [e1, Option.bind_some]
  dsimp only
  by_cases hv : j_hd [v] = 0
  · rw [if_pos hv]
    obtain ⟨r, h3, f1, f2, f3, f4⟩ := hC en h' h1 e2
    exact ⟨r, h3, f1, f2, e3.tr f3, f4⟩
  · rw [if_neg hv]
    obtain ⟨r, h3, f1, f2, f3, f4⟩ := hB en h' h1 e2
    exact ⟨r, h3, f1, f2, e3.tr f3, f4⟩
theorem te_nz {A : XE} {t : Nat} (hA : TotE T g ro z τ [t] A) : TotE T g ro z τ [100] (n_nz A) := te_un (f := fun v => j_b (decide (v ≠ 0))) (fun _ _ => rfl) hA (fun _ _ => TV.bool (j_b01 _))
theorem te_c {v : Int} {t : Nat} (hv : TV z g.1 t v) : TotE T g ro z τ [t] (fun _ st => some ([v], st)) := fun en h _ h2 => ⟨[v], h, rfl, h2, FR.rf, hv, trivial⟩
theorem te_sub {A : XE} {us : List Nat} (hs : t_subs ts us = true) (hA : TotE T g ro z τ ts A) : TotE T g ro z τ us A := fun en h h1 h2 => by
  obtain ⟨r, h', e1, e2, e3, e4⟩ := hA en h h1 h2
  exact ⟨r, h', e1, e2, e3, VL.sub hs e4⟩
theorem VL.z0 {z' : Nat → Int} : ∀ {ts : List Nat} {vs : List Int}, ts.all (fun t => Nat.blt t 300) = true → VL z g.1 ts vs → VL z' g.1 ts vs
  | [], [], _, _ => trivial
  | t :: ts, v :: vs, h, hv => by
    rw [List.all_cons, Bool.and_eq_true] at h
    have h3 : t < 300 := by
      have h4 := h.1
      simp [Nat.blt] at h4
      omega
    exact ⟨⟨hv.1.1, hv.1.2.1, hv.1.2.2.1, hv.1.2.2.2.1, hv.1.2.2.2.2.1, fun e => absurd e (by omega)⟩, VL.z0 h.2 hv.2⟩
  | [], _ :: _, _, h => h.elim
  | _ :: _, [], _, h => h.elim
theorem getD_s {l : List Nat} {k v : Nat} (h : l.getD k 0 = v) (h0 : v ≠ 0) : l[k]? = some v := by
  rw [List.getD_eq_getElem?_getD] at h
  cases hk : l[k]? with
  | none => rw [hk] at h; exact absurd h.symm h0
  | some x => rw [hk] at h; exact congrArg some h
/-- what the tables are to hold by themselves -/
def TG (T : TT) : Prop := ∀ f, T.2.2.2.1 f = true → (T.2.1 f).all (fun t => Nat.blt t 300) = true ∧ (T.2.2.1 f).all (fun t => Nat.blt t 300) = true
theorem ty_node (hg : GG T.1 g.1) (hTG : TG T) (hcW : ∀ k, k < 24 → InL (cW 0 k) ∧ InI (cW 1 k)) (hF : ∀ f, T.2.2.2.1 f = true → TotF T g ro F f) {t : Nat} {a b c : SX} {A B C : Option (List Nat)} {A' B' C' : XE}
    (hA : ∀ us, A = some us → TotE T g ro z τ us A') (hB : ∀ us, B = some us → TotE T g ro z τ us B') (hC : ∀ us, C = some us → TotE T g ro z τ us C') (hb : ∀ a' b' c', b = .op (.var 1) (.op a' (.op b' c')) → B' = fun _ st => some ([sx_c a' b' c'], st)) (h : tyN T τ t a b c A B C = some ts) : TotE T g ro z τ ts (nodeE xs L ck F cW t a b c A' B' C') := by
  have one : ∀ {X : Option (List Nat)} {X' : XE} {t : Nat}, (∀ us, X = some us → TotE T g ro z τ us X') → t_one X = t → t ≠ 0 → TotE T g ro z τ [t] X' := fun hX e h0 => hX _ (t_one_some e h0)
  unfold tyN at h
  split at h
  · -- constants
    show TotE T g ro z τ ts (fun _ st => some ([sx_c a b c], st))
    split at h
    · by_cases h1 : sx_c a b c = 0 ∨ sx_c a b c = 1
      · rw [if_pos h1] at h; cases h; exact te_c (TV.bool h1)
      · rw [if_neg h1] at h
        obtain ⟨h2, h⟩ := j_if h
        cases h
        exact te_c (TV.int (okI_in h2))
    · obtain ⟨h2, h⟩ := j_if h
      cases h
      exact te_c (TV.long (okL_in h2))
    · obtain ⟨h2, h⟩ := j_if h
      cases h
      exact te_c (TV.word h2)
    · cases h
  · -- locals
    dsimp only at h
    have key : ∀ (en : List Int), VL z g.1 τ en → TV z g.1 (τ.getD (sx_n a) 0) (en.getD (sx_n a) 0) := fun en hv => VL.at (sx_n a) hv
    split at h
    · cases h
    · split at h
      · rename_i h3
        cases h
        exact fun en hh hv hH => ⟨_, hh, rfl, hH, FR.rf, TV.int ((key en hv).2.2.2.2.2 h3).2, trivial⟩
      · cases h
        exact fun en hh hv hH => ⟨_, hh, rfl, hH, FR.rf, key en hv, trivial⟩
  · -- a number of an object
    dsimp only at h
    obtain ⟨⟨h1, h2, h3⟩, h⟩ := j_if h
    cases h
    intro en hh hv hH
    obtain ⟨v, h', e1, e2, e3, e4⟩ := te_one (one hA rfl (by omega)) hv hH
    obtain ⟨v0, cc, hc, hk⟩ := e4.2.2.2.2.1 (by omega) h2
    have ht := o_ty (fk := T.1) (k := sx_n b) (ci := t_one A - 10) hc (by omega)
    refine ⟨[h' v.toNat (sx_n b)], h', ?_, e2, e3, ?_, trivial⟩
    · show (A' en (g, hh)).bind _ = _
      rw [e1]
      rfl
    · have hx := e2 v.toNat (sx_n b)
      rw [ht] at hx
      rcases h3 with h3 | h3 | h3
      · rw [h3] at hx ⊢
        exact TV.int (hx.1 rfl)
      · rw [h3] at hx ⊢
        exact TV.long (hx.2.1 rfl)
      · rw [h3] at hx ⊢
        exact TV.bool (hx.2.2 rfl)
  · -- a reference of an object
    dsimp only at h
    obtain ⟨⟨h1, h2, h3, h4⟩, h⟩ := j_if h
    cases h
    intro en hh hv hH
    obtain ⟨v, h', e1, e2, e3, e4⟩ := te_one (one hA rfl (by omega)) hv hH
    obtain ⟨v0, cc, hc, hk⟩ := e4.2.2.2.2.1 (by omega) h2
    obtain ⟨r, hr, r0, c', hc', hk'⟩ := hg.2 _ cc (t_one A - 10) (sx_n b) _ hc (by omega) (getD_s rfl (by omega)) h3 h4
    refine ⟨[r], h', ?_, e2, e3, TV.ref h3 h4 ⟨r0, c', hc', hk'⟩, trivial⟩
    show (A' en (g, hh)).bind _ = _
    rw [e1, Option.bind_some]
    show (j_rf g.1 v.toNat (sx_n b)).bind _ = _
    rw [hr]
    rfl
  · -- lengths
    split at h
    · rename_i hc0
      obtain ⟨⟨h1, h2⟩, h⟩ := j_if h
      cases h
      intro en hh hv hH
      obtain ⟨v, h', e1, e2, e3, e4⟩ := te_one (one hA rfl (by omega)) hv hH
      obtain ⟨v0, cc, hc, hk⟩ := e4.2.2.2.2.1 (by omega) (by omega)
      have hl : j_len g.1 v.toNat = (cc.2.1 : Int) := by
        unfold j_len
        rw [hc]
      have hl2 := (hg.1 _ cc hc).2
      refine ⟨[j_len g.1 v.toNat], h', ?_, e2, e3, TV.int ?_, trivial⟩
      · show n_alen L (sx_n c) A' en (g, hh) = _
        unfold n_alen
        rw [e1, Option.bind_some, hc0]
        rfl
      · rw [hl]
        unfold InI
        omega
    · cases h
  · -- a Word's own
    obtain ⟨h1, h⟩ := j_ifx h
    have hA3 := one hA h1 (by decide)
    intro en hh hv hH
    obtain ⟨v, h', e1, e2, e3, e4⟩ := te_one hA3 hv hH
    have hw := e4.2.2.2.1 rfl
    have hw2 := hcW v.toNat (by omega)
    have hE : nodeE xs L ck F cW 13 a b c A' B' C' en (g, hh) = some ([cW (sx_n c) v.toNat], (g, h')) := by
      show n_wf cW (sx_n c) A' en (g, hh) = _
      unfold n_wf
      rw [e1]
      rfl
    split at h
    · rename_i hc0
      cases h
      rw [hc0] at hE
      exact ⟨_, h', hE, e2, e3, TV.long hw2.1, trivial⟩
    · rename_i hc0
      cases h
      rw [hc0] at hE
      exact ⟨_, h', hE, e2, e3, TV.int hw2.2, trivial⟩
    · cases h
  · obtain ⟨⟨h1, h2⟩, h⟩ := j_if h
    cases h
    exact te_bin (one hA rfl (isI_0 h1)) (one hB rfl (isI_0 h2)) (fun _ _ _ _ => TV.int (iop_in _ _ _))
  · obtain ⟨⟨h1, h2⟩, h⟩ := j_if h
    cases h
    exact te_bin (one hA h1 (by decide)) (one hB h2 (by decide)) (fun _ _ _ _ => TV.long (lop_in _ _ _))
  · obtain ⟨⟨h1, h2⟩, h⟩ := j_if h
    cases h
    exact te_bin (one hA h1 (by decide)) (one hB rfl (isI_0 h2)) (fun _ _ _ _ => TV.long (lsh_in _ _ _))
  · -- division
    split at h
    · rename_i a' b' c'
      obtain ⟨h0, h⟩ := j_ifx h
      have hB' := hb a' b' c' rfl
      subst hB'
      have key : ∀ {u : Nat}, TotE T g ro z τ [u] A' → (∀ v, TV z g.1 u v → TV z g.1 u (j_div (sx_n c) v (sx_c a' b' c'))) → TotE T g ro z τ [u] (nodeE xs L ck F cW 17 a (.op (.var 1) (.op a' (.op b' c'))) c A' (fun _ st => some ([sx_c a' b' c'], st)) C') := fun {u} hu hf en hh hv hH => by
        obtain ⟨v, h', e1, e2, e3, e4⟩ := te_one hu hv hH
        refine ⟨[j_div (sx_n c) v (sx_c a' b' c')], h', ?_, e2, e3, hf v e4, trivial⟩
        show (A' en (g, hh)).bind _ = _
        rw [e1, Option.bind_some]
        exact if_neg h0
      split at h
      · rename_i hk
        obtain ⟨⟨h1, h2⟩, h⟩ := j_if h
        cases h
        refine key (te_sub (ts := [t_one A]) ((Bool.and_eq_true _ _).mpr ⟨isI_sub h1, rfl⟩) (one hA rfl (isI_0 h1))) (fun v hv => TV.int ?_)
        match sx_n c, hk with
        | 0, _ => exact in_j32 _
        | 1, _ => exact tmod_i (hv.1 rfl)
        | _ + 2, hk => exact absurd hk (by omega)
      · rename_i hk
        obtain ⟨⟨h1, h2⟩, h⟩ := j_if h
        cases h
        refine key (one hA h1 (by decide)) (fun v hv => TV.long ?_)
        match sx_n c, hk with
        | 0, hk => exact absurd (by decide) hk
        | 1, hk => exact absurd (by decide) hk
        | 2, _ => exact in_j64 _
        | _ + 3, _ => exact tmod_l (hv.2.1 rfl)
    · cases h
  · -- one number
    split at h
    · rename_i hk
      obtain ⟨h1, h⟩ := j_if h
      cases h
      exact te_un (f := j_un (sx_n c)) (fun _ _ => rfl) (one hA rfl (isI_0 h1)) (fun v _ => by rw [hk]; exact TV.int (in_j32 _))
    · rename_i hk
      obtain ⟨h1, h⟩ := j_if h
      cases h
      exact te_un (f := j_un (sx_n c)) (fun _ _ => rfl) (one hA h1 (by decide)) (fun v _ => by rw [hk]; exact TV.long (in_j64 _))
    · rename_i hk
      obtain ⟨h1, h⟩ := j_if h
      cases h
      exact te_un (f := j_un (sx_n c)) (fun _ _ => rfl) (one hA rfl (isI_0 h1)) (fun v hv => by
        rw [hk]
        have := isI_in h1 hv
        unfold InI at this
        refine TV.long ?_
        show InL v
        unfold InL
        omega)
    · rename_i hk
      obtain ⟨h1, h⟩ := j_if h
      cases h
      exact te_un (f := j_un (sx_n c)) (fun _ _ => rfl) (one hA h1 (by decide)) (fun v _ => by rw [hk]; exact TV.int (in_j32 _))
    · rename_i k0 k1 k2 k3
      obtain ⟨h1, h⟩ := j_if h
      cases h
      refine te_un (f := j_un (sx_n c)) (fun _ _ => rfl) (one hA rfl (isI_0 h1)) (fun v _ => TV.int ?_)
      unfold j_un
      split
      · exact absurd (by assumption) k0
      · exact absurd (by assumption) k1
      · exact absurd (by assumption) k2
      · exact absurd (by assumption) k3
      · exact in_i32 _
  · obtain ⟨⟨h1, h2⟩, h⟩ := j_if h
    cases h
    exact te_cmp (one hA rfl (isI_0 h1)) (one hB rfl (isI_0 h2))
  · obtain ⟨h1, h⟩ := j_if h
    cases h
    exact te_un (f := fun v => j_b (j_cmp (sx_n c) v 0)) (fun _ _ => rfl) (one hA rfl (isI_0 h1)) (fun _ _ => TV.bool (j_b01 _))
  · obtain ⟨⟨h1, h2⟩, h⟩ := j_if h
    cases h
    exact te_cmp (one hA h1 (by decide)) (one hB h2 (by decide))
  · obtain ⟨⟨h1, h2⟩, h⟩ := j_if h
    cases h
    exact te_cmp (one hA h1 (by decide)) (one hB h2 (by decide))
  · exact hA _ h
  · obtain ⟨⟨h1, h2⟩, h⟩ := j_if h
    cases h
    exact te_ife (one hA rfl (isI_0 h1)) (te_nz (one hB rfl (isI_0 h2))) (te_c (TV.bool (Or.inl rfl)))
  · obtain ⟨⟨h1, h2⟩, h⟩ := j_if h
    cases h
    exact te_ife (one hA rfl (isI_0 h1)) (te_c (TV.bool (Or.inr rfl))) (te_nz (one hB rfl (isI_0 h2)))
  · obtain ⟨h1, h⟩ := j_if h
    cases h
    exact te_un (f := fun v => j_b (decide (v = 0))) (fun _ _ => rfl) (one hA rfl (isI_0 h1)) (fun _ _ => TV.bool (j_b01 _))
  · dsimp only at h
    obtain ⟨⟨h1, h2, h3, h4⟩, h⟩ := j_if h
    cases h
    exact te_ife (one hA rfl (isI_0 h1)) (te_sub (ts := [t_one B]) ((Bool.and_eq_true _ _).mpr ⟨lub_l, rfl⟩) (one hB rfl h2)) (te_sub (ts := [t_one C]) ((Bool.and_eq_true _ _).mpr ⟨lub_r, rfl⟩) (one hC rfl h3))
  · split at h
    · rename_i x y
      cases h
      intro en hh hv hH
      obtain ⟨r, h', e1, e2, e3, e4⟩ := hA x rfl en hh hv hH
      obtain ⟨q, h3, f1, f2, f3, f4⟩ := hB y rfl en h' hv e2
      refine ⟨r ++ q, h3, ?_, f2, e3.tr f3, VL.app e4 f4⟩
      show (A' en (g, hh)).bind _ = _
      rw [e1, Option.bind_some]
      dsimp only
      rw [f1]
      rfl
    · cases h
  · cases h
    exact fun en hh hv hH => ⟨[], hh, rfl, hH, FR.rf, trivial⟩
  · split at h
    · rename_i x
      obtain ⟨⟨h1, h2⟩, h⟩ := j_if h
      cases h
      intro en hh hv hH
      obtain ⟨r, h', e1, e2, e3, e4⟩ := te_sub h1 (hA x rfl) en hh hv hH
      obtain ⟨t1, t2⟩ := hTG _ h2
      obtain ⟨q, h3, f1, f2, f3, f4⟩ := hF _ h2 r h' e2 (VL.z0 t1 e4)
      refine ⟨q, h3, ?_, f2, e3.tr f3, VL.z0 t2 f4⟩
      show n_call F (sx_n b) A' en (g, hh) = _
      unfold n_call
      rw [e1, Option.bind_some]
      dsimp only
      rw [f1, Option.bind_some]
      exact if_pos rfl
    · cases h
  · cases h
end TYE
/-! ===== a division behind a test that its divisor isn't 0 or less ===== -/
def dv_x : SX → Option Nat
  | .op (.var 21) (.op (.op (.var 3) (.op (.var x) (.op _ _))) (.op _ (.var 5))) => some x
  | .op (.var 22) (.op (.op (.var 3) (.op (.var x) (.op _ _))) (.op (.op (.var 1) (.op a' (.op b' c'))) (.var 5))) => if sx_c a' b' c' = 0 then some x else none
  | _ => none
def dv_d (x : Nat) : SX → Bool
  | .op (.var 3) (.op (.var y) (.op _ _)) => y == x
  | .op (.var 18) (.op (.op (.var 3) (.op (.var y) (.op _ _))) (.op _ (.var 2))) => y == x
  | _ => false
def dv_k (T : TT) (τ : List Nat) (k : Nat) (P D : SX) : Nat := if k < 2 then (if isI (t_one (tyE T τ P)) = true ∧ isI (t_one (tyE T τ D)) = true then 1 else 0) else if t_one (tyE T τ P) = 2 ∧ t_one (tyE T τ D) = 2 then 2 else 0
def dv_c (T : TT) (τ : List Nat) (x : Nat) : SX → Nat
  | .op (.var 17) (.op P (.op D (.var k))) => if dv_d x D = true then dv_k T τ k P D else 0
  | .op (.var 18) (.op (.op (.var 17) (.op P (.op D (.var k)))) (.op _ (.var 3))) => if dv_d x D = true ∧ dv_k T τ k P D = 2 then 1 else 0
  | _ => 0
def dv_t (T : TT) (τ : List Nat) (a c : SX) (B : Option (List Nat)) : Option (List Nat) := match dv_x a with
  | some x => let u := t_lub (t_one B) (dv_c T τ x c)
    if isI (t_one (tyE T τ a)) = true ∧ dv_c T τ x c ≠ 0 ∧ t_one B ≠ 0 ∧ u ≠ 0 then some [u] else none
  | none => none
def tyF (T : TT) (τ : List Nat) : SX → Option (List Nat)
  | .op (.var t) (.op a (.op b c)) => if t = 28 then (match tyN T τ 28 a b c (tyF T τ a) (tyF T τ b) (tyF T τ c) with
    | some r => some r
    | none => dv_t T τ a c (tyF T τ b)) else tyN T τ t a b c (tyF T τ a) (tyF T τ b) (tyF T τ c)
  | _ => none
section TYG
variable {xs : Nat → Int} {L : Nat} {ck : Nat → List Nat} {F : XP} {cW : Nat → Nat → Int} {T : TT} {g : XS × Nat × Nat} {ro : Nat → Nat → Bool} {z : Nat → Int} {τ ts : List Nat}
theorem ty_all0 (hg : GG T.1 g.1) (hTG : TG T) (hcW : ∀ k, k < 24 → InL (cW 0 k) ∧ InI (cW 1 k)) (hF : ∀ f, T.2.2.2.1 f = true → TotF T g ro F f) : ∀ (t : SX) (z : Nat → Int) (τ us : List Nat), tyE T τ t = some us → TotE T g ro z τ us (evE xs L ck F cW t)
  | .op (.var t) (.op a (.op b c)), z, τ, us, h => ty_node hg hTG hcW hF (fun us h => ty_all0 hg hTG hcW hF a z τ us h) (fun us h => ty_all0 hg hTG hcW hF b z τ us h) (fun us h => ty_all0 hg hTG hcW hF c z τ us h) (fun a' b' c' e => by subst e; rfl) h
  | .var _, _, _, _, h => by cases h
  | .op (.op _ _) _, _, _, _, h => by cases h
  | .op (.var _) (.var _), _, _, _, h => by cases h
  | .op (.var _) (.op _ (.var _)), _, _, _, h => by cases h
theorem jb_pos {v : Int} (h : j_b (decide (v ≤ 0)) = 0) : 0 < v := by
  by_cases hv : v ≤ 0
  · rw [decide_eq_true hv] at h; cases h
  · omega
/-- the test leaves the counter above 0 -/
theorem dv_x_ok {a : SX} {x : Nat} (h : dv_x a = some x) {en : List Int} {st st' : XT} {v : Int} (e : evE xs L ck F cW a en st = some ([v], st')) (h0 : v = 0) : 0 < en.getD x 0 := by
  unfold dv_x at h
  split at h
  · cases h
    have e2 : some ([j_b (j_cmp 5 (en.getD x 0) 0)], st) = some ([v], st') := e
    have e3 := (Prod.mk.inj (Option.some.inj e2)).1
    have e4 : j_b (j_cmp 5 (en.getD x 0) 0) = v := List.cons.inj e3 |>.1
    rw [h0] at e4
    exact jb_pos e4
  · obtain ⟨h1, h⟩ := j_if h
    cases h
    rename_i a' b' c'
    have e2 : some ([j_b (j_cmp 5 (en.getD x 0) (sx_c a' b' c'))], st) = some ([v], st') := e
    rw [h1] at e2
    have e3 := (Prod.mk.inj (Option.some.inj e2)).1
    have e4 : j_b (j_cmp 5 (en.getD x 0) 0) = v := List.cons.inj e3 |>.1
    rw [h0] at e4
    exact jb_pos e4
  · cases h
theorem dv_d_ok {D : SX} {x : Nat} (h : dv_d x D = true) (en : List Int) (st : XT) : evE xs L ck F cW D en st = some ([en.getD x 0], st) := by
  unfold dv_d at h
  split at h
  · have := beq_iff_eq.mp h
    subst this
    rfl
  · have := beq_iff_eq.mp h
    subst this
    rfl
  · cases h
theorem dv_k_ok (hg : GG T.1 g.1) (hTG : TG T) (hcW : ∀ k, k < 24 → InL (cW 0 k) ∧ InI (cW 1 k)) (hF : ∀ f, T.2.2.2.1 f = true → TotF T g ro F f) {x k : Nat} {P D : SX} (hd : dv_d x D = true) (hk : dv_k T τ k P D ≠ 0) {en : List Int} {h : XH} (hv : VL z g.1 τ en) (hH : HT T.1 g.1 h) (hx : 0 < en.getD x 0) :
    ∃ v h', ((evE xs L ck F cW P en (g, h)).bind fun x => (evE xs L ck F cW D en x.2).bind fun y => if j_hd y.1 = 0 then none else some ([j_div k (j_hd x.1) (j_hd y.1)], y.2)) = some ([v], (g, h')) ∧ HT T.1 g.1 h' ∧ FR ro h h' ∧ TV z g.1 (dv_k T τ k P D) v := by
  have go : ∀ {u : Nat}, TotE T g ro z τ [u] (evE xs L ck F cW P) → ∃ w h', evE xs L ck F cW P en (g, h) = some ([w], (g, h')) ∧ HT T.1 g.1 h' ∧ FR ro h h' ∧ TV z g.1 u w ∧ ((evE xs L ck F cW P en (g, h)).bind fun x => (evE xs L ck F cW D en x.2).bind fun y => if j_hd y.1 = 0 then none else some ([j_div k (j_hd x.1) (j_hd y.1)], y.2)) = some ([j_div k w (en.getD x 0)], (g, h')) := fun hP => by
    obtain ⟨w, h', e1, e2, e3, e4⟩ := te_one hP hv hH
    refine ⟨w, h', e1, e2, e3, e4, ?_⟩
    rw [e1, Option.bind_some]
    dsimp only
    rw [dv_d_ok hd, Option.bind_some]
    refine (if_neg ?_).trans rfl
    show ¬ en.getD x 0 = 0
    omega
  unfold dv_k at hk ⊢
  by_cases h2 : k < 2
  · rw [if_pos h2] at hk ⊢
    by_cases h3 : isI (t_one (tyE T τ P)) = true ∧ isI (t_one (tyE T τ D)) = true
    · rw [if_pos h3] at hk ⊢
      obtain ⟨w, h', e1, e2, e3, e4, e5⟩ := go (te_sub (ts := [t_one (tyE T τ P)]) ((Bool.and_eq_true _ _).mpr ⟨isI_sub h3.1, rfl⟩) (ty_all0 (xs := xs) (L := L) (ck := ck) hg hTG hcW hF P z τ _ (t_one_some rfl (isI_0 h3.1))))
      refine ⟨_, h', e5, e2, e3, TV.int ?_⟩
      match k, h2 with
      | 0, _ => exact in_j32 _
      | 1, _ => exact tmod_i (e4.1 rfl)
      | _ + 2, h => exact absurd h (by omega)
    · rw [if_neg h3] at hk; exact absurd rfl hk
  · rw [if_neg h2] at hk ⊢
    by_cases h3 : t_one (tyE T τ P) = 2 ∧ t_one (tyE T τ D) = 2
    · rw [if_pos h3] at hk ⊢
      obtain ⟨w, h', e1, e2, e3, e4, e5⟩ := go (ty_all0 (xs := xs) (L := L) (ck := ck) hg hTG hcW hF P z τ _ (t_one_some h3.1 (by decide)))
      refine ⟨_, h', e5, e2, e3, TV.long ?_⟩
      match k, h2 with
      | 0, h => exact absurd (by decide) h
      | 1, h => exact absurd (by decide) h
      | 2, _ => exact in_j64 _
      | _ + 3, _ => exact tmod_l (e4.2.1 rfl)
    · rw [if_neg h3] at hk; exact absurd rfl hk
theorem dv_c_ok (hg : GG T.1 g.1) (hTG : TG T) (hcW : ∀ k, k < 24 → InL (cW 0 k) ∧ InI (cW 1 k)) (hF : ∀ f, T.2.2.2.1 f = true → TotF T g ro F f) {x : Nat} {c : SX} (hk : dv_c T τ x c ≠ 0) {en : List Int} {h : XH} (hv : VL z g.1 τ en) (hH : HT T.1 g.1 h) (hx : 0 < en.getD x 0) :
    ∃ v h', evE xs L ck F cW c en (g, h) = some ([v], (g, h')) ∧ HT T.1 g.1 h' ∧ FR ro h h' ∧ TV z g.1 (dv_c T τ x c) v := by
  unfold dv_c at hk ⊢
  split at hk
  · rename_i P D k
    by_cases hd : dv_d x D = true
    · rw [if_pos hd] at hk
      rw [if_pos hd]
      exact dv_k_ok (xs := xs) (L := L) (ck := ck) hg hTG hcW hF hd hk hv hH hx
    · rw [if_neg hd] at hk; exact absurd rfl hk
  · rename_i P D k w
    by_cases hd : dv_d x D = true ∧ dv_k T τ k P D = 2
    · rw [if_pos hd]
      obtain ⟨v, h', e1, e2, e3, e4⟩ := dv_k_ok (xs := xs) (L := L) (ck := ck) hg hTG hcW hF hd.1 (by rw [hd.2]; decide) hv hH hx
      refine ⟨j32 v, h', ?_, e2, e3, TV.int (in_j32 _)⟩
      show ((evE xs L ck F cW P en (g, h)).bind fun x => (evE xs L ck F cW D en x.2).bind fun y => if j_hd y.1 = 0 then none else some ([j_div k (j_hd x.1) (j_hd y.1)], y.2)).bind _ = _
      rw [e1]
      rfl
    · rw [if_neg hd] at hk; exact absurd rfl hk
  · exact absurd rfl hk
theorem ty_all (hg : GG T.1 g.1) (hTG : TG T) (hcW : ∀ k, k < 24 → InL (cW 0 k) ∧ InI (cW 1 k)) (hF : ∀ f, T.2.2.2.1 f = true → TotF T g ro F f) : ∀ (t : SX) (z : Nat → Int) (τ us : List Nat), tyF T τ t = some us → TotE T g ro z τ us (evE xs L ck F cW t)
  | .op (.var t) (.op a (.op b c)), z, τ, us, h => by
    have hA := fun us h => ty_all hg hTG hcW hF a z τ us h
    have hB := fun us h => ty_all hg hTG hcW hF b z τ us h
    have hC := fun us h => ty_all hg hTG hcW hF c z τ us h
    unfold tyF at h
    by_cases h28 : t = 28
    · rw [if_pos h28] at h
      subst h28
      split at h
      · rename_i r hr
        cases h
        exact ty_node hg hTG hcW hF hA hB hC (fun a' b' c' e => by subst e; rfl) hr
      · unfold dv_t at h
        split at h
        · rename_i x hx
          dsimp only at h
          obtain ⟨⟨h1, h2, h3, h4⟩, h⟩ := j_if h
          cases h
          intro en hh hv hH
          obtain ⟨v, h', e1, e2, e3, e4⟩ := te_one (ty_all0 (xs := xs) (L := L) (ck := ck) hg hTG hcW hF a z τ _ (t_one_some rfl (isI_0 h1))) hv hH
          show ∃ r h', n_ife (evE xs L ck F cW a) (evE xs L ck F cW b) (evE xs L ck F cW c) en (g, hh) = some (r, (g, h')) ∧ _
          unfold n_ife
          rw [e1, Option.bind_some]
          dsimp only
          by_cases hv0 : j_hd [v] = 0
          · rw [if_pos hv0]
            obtain ⟨w, h3', f1, f2, f3, f4⟩ := dv_c_ok (xs := xs) (L := L) (ck := ck) hg hTG hcW hF h2 hv e2 (dv_x_ok hx e1 hv0)
            exact ⟨[w], h3', f1, f2, e3.tr f3, TV.sub lub_r f4, trivial⟩
          · rw [if_neg hv0]
            obtain ⟨w, h3', f1, f2, f3, f4⟩ := te_one (hB _ (t_one_some rfl h3)) hv e2
            exact ⟨[w], h3', f1, f2, e3.tr f3, TV.sub lub_l f4, trivial⟩
        · cases h
    · rw [if_neg h28] at h
      exact ty_node hg hTG hcW hF hA hB hC (fun a' b' c' e => by subst e; rfl) h
  | .var _, _, _, _, h => by cases h
  | .op (.op _ _) _, _, _, _, h => by cases h
  | .op (.var _) (.var _), _, _, _, h => by cases h
  | .op (.var _) (.op _ (.var _)), _, _, _, h => by cases h
end TYG
