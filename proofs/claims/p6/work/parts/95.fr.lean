/-! ===== what a method_w of the reference_w may_w write_w ===== -/
/-- all_w cells_w but some fields_w of the reference_w and some arrays_w -/
def Fr (w : List Nat × List Nat) (h h' : XH) : Prop := ∀ o k, (o = 182 → w.1.contains k = false) → w.2.contains o = false → h' o k = h o k
def fr_sub (v w : List Nat × List Nat) : Bool := v.1.all (fun k => w.1.contains k) && v.2.all (fun k => w.2.contains k)
theorem Fr.rf {w : List Nat × List Nat} {h : XH} : Fr w h h := fun _ _ _ _ => rfl
theorem Fr.tr {w : List Nat × List Nat} {h h1 h2 : XH} (a : Fr w h h1) (b : Fr w h1 h2) : Fr w h h2 := fun o k e1_w e2_w => (b o k e1_w e2_w).trans (a o k e1_w e2_w)
theorem Fr.sub {v w : List Nat × List Nat} {h h1 : XH} (hs : fr_sub v w = true) (a : Fr v h h1) : Fr w h h1 := fun o k e1_w e2_w => by
  rw [fr_sub, Bool.and_eq_true] at hs
  refine a o k (fun e => ?_) ?_
  · cases hc_w : v.1.contains k with
    | false => rfl
    | true =>
      have h3 := List.all_eq_true.mp hs.1 k (by simpa using hc_w)
      have h4 := e1_w e
      rw [h4] at h3
      cases h3
  · cases hc_w : v.2.contains o with
    | false => rfl
    | true =>
      have h3 := List.all_eq_true.mp hs.2 o (by simpa using hc_w)
      rw [e2_w] at h3
      cases h3
theorem Fr.fld {w : List Nat × List Nat} {h : XH} {k : Nat} {v : Int} (hk : w.1.contains k = true) : Fr w h (j_up h 182 k v) := fun o i e1_w _ => up_ne (fun z => by
  have := e1_w z.1
  rw [z.2, hk] at this
  cases this)
theorem Fr.arr {w : List Nat × List Nat} {h : XH} {q i : Nat} {v : Int} (hq : w.2.contains q = true) : Fr w h (j_up h q i v) := fun o j _ e2_w => up_ne (fun z => by
  rw [z.1, hq] at e2_w
  cases e2_w)
theorem Fr.pure {h h1 : XH} (a : Fr ([], []) h h1) : h1 = h := funext fun o => funext fun k => a o k (fun _ => rfl) rfl
/-- where an array of the reference_w lies -/
def fr_obj : SX → Option Nat
  | .op (.var 5) (.op a (.op b _)) => bif q_loc a == some 0 then some (r_O (sx_n b)) else none
  | _ => none
def fr_call (W : Nat → List Nat × List Nat) (C S : Nat → Bool) (s : Bool) (w : List Nat × List Nat) (f : Nat) (a : SX) : Bool := C f && fr_sub (W f) w && (S f || (!s && (match q_var a with
  | some q => q.1 == 0
  | none => false)))
def fr_E (W : Nat → List Nat × List Nat) (C S : Nat → Bool) (s : Bool) (w : List Nat × List Nat) : SX → Bool
  | .op (.var t) (.op a (.op b c)) => match t with
    | 1 => true
    | 3 => true
    | 4 => fr_E W C S s w a
    | 5 => fr_E W C S s w a
    | 7 => fr_E W C S s w a && fr_E W C S s w b && sx_n c == 0
    | 10 => fr_E W C S s w a && sx_n c == 0
    | 14 => fr_E W C S s w a && fr_E W C S s w b
    | 15 => fr_E W C S s w a && fr_E W C S s w b
    | 16 => fr_E W C S s w a && fr_E W C S s w b
    | 17 => fr_E W C S s w a && fr_E W C S s w b
    | 18 => fr_E W C S s w a
    | 20 => fr_E W C S s w a && fr_E W C S s w b
    | 21 => fr_E W C S s w a
    | 22 => fr_E W C S s w a && fr_E W C S s w b
    | 24 => fr_E W C S s w a
    | 25 => fr_E W C S s w a && fr_E W C S s w b
    | 26 => fr_E W C S s w a && fr_E W C S s w b
    | 27 => fr_E W C S s w a
    | 28 => fr_E W C S s w a && fr_E W C S s w b && fr_E W C S s w c
    | 30 => fr_E W C S s w a && fr_E W C S s w b
    | 31 => true
    | 32 => fr_E W C S s w a && fr_call W C S s w (sx_n b) a
    | _ => false
  | _ => false
/-- as_w a statement, as_w cases -/
def fr_S (W : Nat → List Nat × List Nat) (C S : Nat → Bool) (s : Bool) (w : List Nat × List Nat) : SX → Bool × Bool
  | .op (.var t) (.op a (.op b c)) => (match t with
    | 1 => true
    | 22 => true
    | 2 => (fr_S W C S s w a).1 && (fr_S W C S s w b).1
    | 3 => !(sx_n a == 0) && fr_E W C S s w b
    | 4 => !(sx_n a == 0)
    | 5 => !s && q_loc a == some 0 && fr_E W C S s w b && w.1.contains (sx_n c)
    | 6 => !s && q_loc a == some 0 && fr_E W C S s w b && w.1.contains (sx_n c / 16)
    | 7 => (match c with
      | .op (.var _) v => !s && (match fr_obj a with
        | some q => w.2.contains q && !(q == 0)
        | none => false) && fr_E W C S s w b && fr_E W C S s w v
      | _ => false)
    | 8 => (match c with
      | .op (.var _) v => !s && (match fr_obj a with
        | some q => w.2.contains q && !(q == 0)
        | none => false) && fr_E W C S s w b && fr_E W C S s w v
      | _ => false)
    | 9 => fr_E W C S s w a
    | 10 => fr_E W C S s w a && (fr_S W C S s w b).1
    | 11 => fr_E W C S s w a && (fr_S W C S s w b).1 && (fr_S W C S s w c).1
    | 12 => fr_E W C S s w a && (fr_S W C S s w b).1 && (fr_S W C S s w c).1
    | 13 => fr_E W C S s w a && (fr_S W C S s w b).1
    | 14 => true
    | 15 => true
    | 16 => fr_E W C S s w a
    | 27 => fr_E W C S s w a
    | 17 => true
    | 19 => fr_E W C S s w a && (fr_S W C S s w b).2
    | 20 => (fr_S W C S s w a).1
    | 28 => fr_E W C S s w a && (fr_S W C S s w b).1
    | _ => false, match t with
    | 25 => (fr_S W C S s w b).1 && (fr_S W C S s w c).2
    | 26 => (fr_S W C S s w a).1
    | _ => false)
  | _ => (false, false)
/-- what calls are known_w to write_w -/
def FrF (W : Nat → List Nat × List Nat) (C S : Nat → Bool) (F : XP) : Prop := ∀ (f : Nat) (av : List Int) (g : XS × Nat × Nat) (h : XH) (c : Nat) (r : List Int) (g' : XS × Nat × Nat) (h' : XH), C f = true → g.1 = a_g3 → (S f = true ∨ av.getD 0 0 = 182) → F f av (g, h) = some (c, r, (g', h')) → g'.1 = a_g3 ∧ Fr (W f) h h'
section FRM
variable {xs : Nat → Int} {L K : Nat} {ck : Nat → List Nat} {F : XP} {cW : Nat → Nat → Int} {W : Nat → List Nat × List Nat} {C S : Nat → Bool} {s : Bool} {w : List Nat × List Nat}
def FrE (w : List Nat × List Nat) (s : Bool) (A : XE) : Prop := ∀ (en : List Int) (g : XS × Nat × Nat) (h : XH) (r : List Int) (g' : XS × Nat × Nat) (h' : XH), g.1 = a_g3 → (s = true ∨ en.getD 0 0 = 182) → A en (g, h) = some (r, (g', h')) → g'.1 = a_g3 ∧ Fr w h h'
def FrS (w : List Nat × List Nat) (s : Bool) (A : XR) : Prop := ∀ (en : List Int) (g : XS × Nat × Nat) (h : XH) (c : Nat) (vs en' : List Int) (g' : XS × Nat × Nat) (h' : XH), g.1 = a_g3 → (s = true ∨ en.getD 0 0 = 182) → A en (g, h) = some (c, vs, en', (g', h')) → g'.1 = a_g3 ∧ Fr w h h' ∧ (s = true ∨ en'.getD 0 0 = 182)
def FrK (w : List Nat × List Nat) (s : Bool) (A : XR) : Prop := ∀ (v : Int) (en : List Int) (g : XS × Nat × Nat) (h : XH) (c : Nat) (vs en' : List Int) (g' : XS × Nat × Nat) (h' : XH), g.1 = a_g3 → (s = true ∨ en.getD 0 0 = 182) → A (v :: en) (g, h) = some (c, vs, en', (g', h')) → g'.1 = a_g3 ∧ Fr w h h' ∧ (s = true ∨ en'.getD 0 0 = 182)
theorem fe_1 {A X : XE} {f : List Int → XT → Option (List Int)} (hA : FrE w s A) (hX : ∀ en st, X en st = (A en st).bind fun x => (f x.1 x.2).bind fun v => some (v, x.2)) : FrE w s X := fun en g h r g' h' hg ht he => by
  rw [hX] at he
  obtain ⟨⟨x, gx, hx⟩, e1_w, e2_w⟩ := j_bd he
  obtain ⟨v, -, e3_w⟩ := j_bd e2_w
  cases e3_w
  exact hA en g h x _ _ hg ht e1_w
theorem fe_2 {A B X : XE} {f : List Int → List Int → XT → XT → Option (List Int)} (hA : FrE w s A) (hB_w : FrE w s B) (hX : ∀ en st, X en st = (A en st).bind fun x => (B en x.2).bind fun y => (f x.1 y.1 x.2 y.2).bind fun v => some (v, y.2)) : FrE w s X := fun en g h r g' h' hg ht he => by
  rw [hX] at he
  obtain ⟨⟨x, gx, hx⟩, e1_w, e2_w⟩ := j_bd he
  obtain ⟨⟨y, gy, hy⟩, e3_w, e4_w⟩ := j_bd e2_w
  obtain ⟨v, -, e5_w⟩ := j_bd e4_w
  cases e5_w
  obtain ⟨k1_w, k2⟩ := hA en g h x _ _ hg ht e1_w
  obtain ⟨k3, k4⟩ := hB_w en gx hx y _ _ k1_w ht e3_w
  exact ⟨k3, k2.tr k4⟩
theorem fe_ife {A B D : XE} (hA : FrE w s A) (hB_w : FrE w s B) (hC : FrE w s D) : FrE w s (n_ife A B D) := fun en g h r g' h' hg ht he => by
  unfold n_ife at he
  obtain ⟨⟨x, gx, hx⟩, e1_w, e2_w⟩ := j_bd he
  obtain ⟨k1_w, k2⟩ := hA en g h x _ _ hg ht e1_w
  dsimp only at e2_w
  split at e2_w
  · obtain ⟨k3, k4⟩ := hC en gx hx r _ _ k1_w ht e2_w
    exact ⟨k3, k2.tr k4⟩
  · obtain ⟨k3, k4⟩ := hB_w en gx hx r _ _ k1_w ht e2_w
    exact ⟨k3, k2.tr k4⟩
theorem fe_c {v : List Int} : FrE w s (fun _ st => some (v, st)) := fun en g h r g' h' hg _ he => by cases he; exact ⟨hg, Fr.rf⟩
theorem fe_nz {A : XE} (hA : FrE w s A) : FrE w s (n_nz A) := fe_1 (f := fun x _ => some [j_b (decide (j_hd x ≠ 0))]) hA (fun _ _ => rfl)
theorem fr_E_ok (hF : FrF W C S F) : ∀ (t : SX), fr_E W C S s w t = true → FrE w s (evE xs L ck F cW t)
  | .op (.var t) (.op a (.op b c)), ht => by
    have iA := fun k => fr_E_ok hF a k
    have iB_w := fun k => fr_E_ok hF b k
    have iC := fun k => fr_E_ok hF c k
    unfold fr_E at ht
    show FrE w s (nodeE xs L ck F cW t a b c (evE xs L ck F cW a) (evE xs L ck F cW b) (evE xs L ck F cW c))
    split at ht
    · exact fe_c
    · exact fun en g h r g' h' hg _ he => by cases he; exact ⟨hg, Fr.rf⟩
    · exact fe_1 (f := fun x st => some [st.2 (j_hd x).toNat (sx_n b)]) (iA ht) (fun _ _ => rfl)
    · exact fe_1 (f := fun x st => (j_rf st.1.1 (j_hd x).toNat (sx_n b)).map fun r => [r]) (iA ht) (fun en st => by
        show (evE xs L ck F cW a en st).bind (fun x => (j_rf x.2.1.1 (j_hd x.1).toNat (sx_n b)).bind fun r => some ([r], x.2)) = _
        congr 1
        funext x
        cases j_rf x.2.1.1 (j_hd x.1).toNat (sx_n b) <;> rfl)
    · simp only [Bool.and_eq_true, beq_iff_eq] at ht
      refine fe_2 (f := fun x y st st2_w => if 0 ≤ j_hd y ∧ j_hd y < j_len st2_w.1.1 (j_hd x).toNat then some [st2_w.2 (j_hd x).toNat (j_hd y).toNat] else none) (iA ht.1.1) (iB_w ht.1.2) (fun en st => ?_)
      show n_aload xs L (sx_n c) _ _ en st = _
      unfold n_aload
      rw [ht.2]
      congr 1
      funext x
      congr 1
      funext y
      by_cases hh : 0 ≤ j_hd y.1 ∧ j_hd y.1 < j_len y.2.1.1 (j_hd x.1).toNat
      · simp [hh]
      · simp [hh]
    · simp only [Bool.and_eq_true, beq_iff_eq] at ht
      refine fe_1 (f := fun x st => some [j_len st.1.1 (j_hd x).toNat]) (iA ht.1) (fun en st => ?_)
      show n_alen L (sx_n c) _ en st = _
      unfold n_alen
      rw [ht.2]
      rfl
    · rw [Bool.and_eq_true] at ht
      exact fe_2 (f := fun x y _ _ => some [j_iop (sx_n c) (j_hd x) (j_hd y)]) (iA ht.1) (iB_w ht.2) (fun _ _ => rfl)
    · rw [Bool.and_eq_true] at ht
      exact fe_2 (f := fun x y _ _ => some [j_lop (sx_n c) (j_hd x) (j_hd y)]) (iA ht.1) (iB_w ht.2) (fun _ _ => rfl)
    · rw [Bool.and_eq_true] at ht
      exact fe_2 (f := fun x y _ _ => some [j_lsh (sx_n c) (j_hd x) (j_hd y)]) (iA ht.1) (iB_w ht.2) (fun _ _ => rfl)
    · rw [Bool.and_eq_true] at ht
      refine fe_2 (f := fun x y _ _ => if j_hd y = 0 then none else some [j_div (sx_n c) (j_hd x) (j_hd y)]) (iA ht.1) (iB_w ht.2) (fun en st => ?_)
      show (evE xs L ck F cW a en st).bind (fun x => (evE xs L ck F cW b en x.2).bind fun y => if j_hd y.1 = 0 then none else some ([j_div (sx_n c) (j_hd x.1) (j_hd y.1)], y.2)) = _
      congr 1
      funext x
      congr 1
      funext y
      split <;> rfl
    · exact fe_1 (f := fun x _ => some [j_un (sx_n c) (j_hd x)]) (iA ht) (fun _ _ => rfl)
    · rw [Bool.and_eq_true] at ht
      exact fe_2 (f := fun x y _ _ => some [j_b (j_cmp (sx_n c) (j_hd x) (j_hd y))]) (iA ht.1) (iB_w ht.2) (fun _ _ => rfl)
    · exact fe_1 (f := fun x _ => some [j_b (j_cmp (sx_n c) (j_hd x) 0)]) (iA ht) (fun _ _ => rfl)
    · rw [Bool.and_eq_true] at ht
      exact fe_2 (f := fun x y _ _ => some [j_b (j_cmp (sx_n c) (j_hd x) (j_hd y))]) (iA ht.1) (iB_w ht.2) (fun _ _ => rfl)
    · exact iA ht
    · rw [Bool.and_eq_true] at ht
      exact fe_ife (iA ht.1) (fe_nz (iB_w ht.2)) fe_c
    · rw [Bool.and_eq_true] at ht
      exact fe_ife (iA ht.1) fe_c (fe_nz (iB_w ht.2))
    · exact fe_1 (f := fun x _ => some [j_b (decide (j_hd x = 0))]) (iA ht) (fun _ _ => rfl)
    · rw [Bool.and_eq_true, Bool.and_eq_true] at ht
      exact fe_ife (iA ht.1.1) (iB_w ht.1.2) (iC ht.2)
    · rw [Bool.and_eq_true] at ht
      exact fe_2 (f := fun x y _ _ => some (x ++ y)) (iA ht.1) (iB_w ht.2) (fun _ _ => rfl)
    · exact fe_c
    · rw [Bool.and_eq_true] at ht
      obtain ⟨h1, h2⟩ := ht
      simp only [fr_call, Bool.and_eq_true, Bool.or_eq_true] at h2
      obtain ⟨⟨h2, h3⟩, h4⟩ := h2
      intro en g h r g' h' hg hth he
      have he2 : n_call F (sx_n b) (evE xs L ck F cW a) en (g, h) = some (r, (g', h')) := he
      unfold n_call at he2
      obtain ⟨⟨av, ga, ha_w⟩, e1_w, e2_w⟩ := j_bd he2
      obtain ⟨⟨c1_w, r1_w, g1, h1'⟩, e3_w, e4_w⟩ := j_bd e2_w
      obtain ⟨-, e5_w⟩ := j_if e4_w
      cases e5_w
      obtain ⟨k1_w, k2⟩ := (iA h1) en g h av _ _ hg hth e1_w
      have hthis : S (sx_n b) = true ∨ av.getD 0 0 = 182 := by
        rcases h4 with h4 | ⟨h4, h5⟩
        · exact Or.inl h4
        · right
          have hs : en.getD 0 0 = 182 := hth.resolve_left (by
            intro k
            rw [k] at h4
            cases h4)
          cases hq : q_var a with
          | none => rw [hq] at h5; cases h5
          | some q =>
            rw [hq] at h5
            have h6 : q.1 = 0 := by simpa using h5
            rw [q_var_ok hq] at e1_w
            obtain ⟨z, -, e6_w⟩ := j_bd e1_w
            have e7_w := congrArg Prod.fst (Option.some.inj e6_w)
            dsimp only at e7_w
            rw [← e7_w, h6]
            exact hs
      obtain ⟨k3, k4⟩ := hF _ av ga ha_w _ _ _ _ h2 k1_w hthis e3_w
      exact ⟨k3, k2.tr (k4.sub h3)⟩
    · cases ht
  | .var _, ht => by cases ht
  | .op (.op _ _) _, ht => by cases ht
  | .op (.var _) (.var _), ht => by cases ht
  | .op (.var _) (.op _ (.var _)), ht => by cases ht
theorem fs_c {k : Nat} : FrS w s (fun en st => some (k, [], en, st)) := fun en g h c vs en' g' h' hg ht he => by cases he; exact ⟨hg, Fr.rf, ht⟩
theorem fs_seq {A B : XR} (hA : FrS w s A) (hB_w : FrS w s B) : FrS w s (s_seq A B) := fun en g h c vs en' g' h' hg ht he => by
  unfold s_seq at he
  obtain ⟨⟨c1_w, v1_w, en1, g1, h1⟩, e1_w, e2_w⟩ := j_bd he
  obtain ⟨k1_w, k2, k3⟩ := hA _ _ _ _ _ _ _ _ hg ht e1_w
  dsimp only at e2_w
  split at e2_w
  · obtain ⟨m1_w, m2_w, m3_w⟩ := hB_w _ _ _ _ _ _ _ _ k1_w k3 e2_w
    exact ⟨m1_w, k2.tr m2_w, m3_w⟩
  · cases e2_w
    exact ⟨k1_w, k2, k3⟩
theorem fs_if {X : XE} {A B : XR} (hX : FrE w s X) (hA : FrS w s A) (hB_w : FrS w s B) : FrS w s (s_if X A B) := fun en g h c vs en' g' h' hg ht he => by
  unfold s_if at he
  obtain ⟨⟨x, g1, h1⟩, e1_w, e2_w⟩ := j_bd he
  obtain ⟨k1_w, k2⟩ := hX _ _ _ _ _ _ hg ht e1_w
  dsimp only at e2_w
  split at e2_w
  · obtain ⟨m1_w, m2_w, m3_w⟩ := hB_w _ _ _ _ _ _ _ _ k1_w ht e2_w
    exact ⟨m1_w, k2.tr m2_w, m3_w⟩
  · obtain ⟨m1_w, m2_w, m3_w⟩ := hA _ _ _ _ _ _ _ _ k1_w ht e2_w
    exact ⟨m1_w, k2.tr m2_w, m3_w⟩
theorem fs_loop {X : XE} {A B : XR} (hX : FrE w s X) (hA : FrS w s A) (hB_w : FrS w s B) : ∀ k, FrS w s (s_loop X A B k)
  | 0 => fun en g h c vs en' g' h' hg ht he => by cases he
  | k + 1 => fun en g h c vs en' g' h' hg ht he => by
    unfold s_loop at he
    obtain ⟨⟨x, g1, h1⟩, e1_w, e2_w⟩ := j_bd he
    obtain ⟨k1_w, k2⟩ := hX _ _ _ _ _ _ hg ht e1_w
    dsimp only at e2_w
    split at e2_w
    · cases e2_w
      exact ⟨k1_w, k2, ht⟩
    · obtain ⟨⟨c1_w, v1_w, en1, g2, h2⟩, e3_w, e4_w⟩ := j_bd e2_w
      obtain ⟨m1_w, m2_w, m3_w⟩ := hA _ _ _ _ _ _ _ _ k1_w ht e3_w
      dsimp only at e4_w
      split at e4_w
      · obtain ⟨⟨c2, v2, en2, g3_w, h3⟩, e5_w, e6_w⟩ := j_bd e4_w
        obtain ⟨n1_w, n2_w, n3_w⟩ := hB_w _ _ _ _ _ _ _ _ m1_w m3_w e5_w
        dsimp only at e6_w
        split at e6_w
        · obtain ⟨o1, o2, o3_w⟩ := fs_loop hX hA hB_w k _ _ _ _ _ _ _ _ n1_w n3_w e6_w
          exact ⟨o1, ((k2.tr m2_w).tr n2_w).tr o2, o3_w⟩
        · cases e6_w
      · split at e4_w
        · cases e4_w
          exact ⟨m1_w, k2.tr m2_w, m3_w⟩
        · cases e4_w
          exact ⟨m1_w, k2.tr m2_w, m3_w⟩
theorem fs_do {X : XE} {A : XR} (hX : FrE w s X) (hA : FrS w s A) : ∀ k, FrS w s (s_do A X k)
  | 0 => fun en g h c vs en' g' h' hg ht he => by cases he
  | k + 1 => fun en g h c vs en' g' h' hg ht he => by
    unfold s_do at he
    obtain ⟨⟨c1_w, v1_w, en1, g2, h2⟩, e3_w, e4_w⟩ := j_bd he
    obtain ⟨m1_w, m2_w, m3_w⟩ := hA _ _ _ _ _ _ _ _ hg ht e3_w
    dsimp only at e4_w
    split at e4_w
    · obtain ⟨⟨x, g3_w, h3⟩, e5_w, e6_w⟩ := j_bd e4_w
      obtain ⟨n1_w, n2_w⟩ := hX _ _ _ _ _ _ m1_w m3_w e5_w
      dsimp only at e6_w
      split at e6_w
      · cases e6_w
        exact ⟨n1_w, m2_w.tr n2_w, m3_w⟩
      · obtain ⟨o1, o2, o3_w⟩ := fs_do hX hA k _ _ _ _ _ _ _ _ n1_w m3_w e6_w
        exact ⟨o1, (m2_w.tr n2_w).tr o2, o3_w⟩
    · split at e4_w
      · cases e4_w
        exact ⟨m1_w, m2_w, m3_w⟩
      · cases e4_w
        exact ⟨m1_w, m2_w, m3_w⟩
theorem fs_e {X : XE} {A : XR} {k : Nat} {f : List Int → List Int} (hX : FrE w s X) (hA : ∀ en st r, A en st = some r → ∃ x, X en st = some x ∧ ∃ vs, r = (k, vs, en, x.2)) : FrS w s A := fun en g h c vs en' g' h' hg ht he => by
  obtain ⟨⟨x, g1, h1⟩, e1_w, vs', e2_w⟩ := hA _ _ _ he
  cases e2_w
  obtain ⟨k1_w, k2⟩ := hX _ _ _ _ _ _ hg ht e1_w
  exact ⟨k1_w, k2, ht⟩
/-- the object of a store_w -/
theorem fo_this {a : SX} (h : q_loc a = some 0) {en : List Int} (ht : en.getD 0 0 = 182) (st : XT) : evE xs L ck F cW a en st = some ([182], st) := by
  rw [q_loc_ok h, ht]
theorem fo_arr {a : SX} {q : Nat} (h : fr_obj a = some q) (hq : q ≠ 0) {en : List Int} (ht : en.getD 0 0 = 182) {st : XT} (hg : st.1.1 = a_g3) : evE xs L ck F cW a en st = some ([(q : Int)], st) := by
  unfold fr_obj at h
  split at h
  · obtain ⟨h1, h2⟩ := b_if h
    rename_i a' b' c'
    rw [beq_iff_eq] at h1
    show (evE xs L ck F cW _ en st).bind _ = _
    rw [fo_this h1 ht, Option.bind_some]
    show (j_rf st.1.1 182 (sx_n _)).bind _ = _
    rw [hg, (r_tab 0).2.1 _ (by
      show r_O (sx_n _) ≠ 0
      rw [h2]
      exact hq)]
    show some ([(r_O (sx_n _) : Int)], st) = _
    rw [h2]
  · cases h
theorem fr_S_ok (hF : FrF W C S F) : ∀ (t : SX), ((fr_S W C S s w t).1 = true → FrS w s (evS xs L ck F K cW t)) ∧ ((fr_S W C S s w t).2 = true → FrK w s (evS xs L ck F K cW t))
  | .op (.var t) (.op a (.op b c)) => by
    have iA := fr_S_ok hF a
    have iB_w := fr_S_ok hF b
    have iC := fr_S_ok hF c
    have e := fun t k => fr_E_ok (xs := xs) (L := L) (ck := ck) (cW := cW) (s := s) (w := w) hF t k
    constructor
    · intro ht
      show FrS w s (nodeS xs L ck F K cW t a b c (evS xs L ck F K cW a) (evS xs L ck F K cW b) (evS xs L ck F K cW c))
      unfold fr_S at ht
      dsimp only at ht
      split at ht
      · exact fs_c
      · exact fs_c
      · rw [Bool.and_eq_true] at ht
        exact fs_seq (iA.1 ht.1) (iB_w.1 ht.2)
      · rw [Bool.and_eq_true] at ht
        intro en g h k vs en' g' h' hg hth he
        obtain ⟨⟨x, g1, h1⟩, e1_w, e2_w⟩ := j_bd (show ((evE xs L ck F cW b en (g, h)).bind fun x => some (0, [], en.set (sx_n a) (j_hd x.1), x.2)) = _ from he)
        cases e2_w
        obtain ⟨k1_w, k2⟩ := e b ht.2 _ _ _ _ _ _ hg hth e1_w
        refine ⟨k1_w, k2, hth.imp id (fun z => ?_)⟩
        rw [set_ne (by simpa using ht.1)]
        exact z
      · intro en g h k vs en' g' h' hg hth he
        cases he
        refine ⟨hg, Fr.rf, hth.imp id (fun z => ?_)⟩
        rw [set_ne (by simpa using ht)]
        exact z
      · simp only [Bool.and_eq_true, Bool.not_eq_true', beq_iff_eq] at ht
        obtain ⟨⟨⟨h1, h2⟩, h3⟩, h4⟩ := ht
        intro en g h k vs en' g' h' hg hth he
        have hs : en.getD 0 0 = 182 := hth.resolve_left (by rw [h1]; decide)
        have he2 : s_putf (sx_n c) (evE xs L ck F cW a) (evE xs L ck F cW b) en (g, h) = some (k, vs, en', (g', h')) := he
        unfold s_putf at he2
        rw [fo_this h2 hs, Option.bind_some] at he2
        obtain ⟨⟨y, g1, h1'⟩, e1_w, e2_w⟩ := j_bd he2
        cases e2_w
        obtain ⟨k1_w, k2⟩ := e b h3 _ _ _ _ _ _ hg hth e1_w
        exact ⟨k1_w, k2.tr (Fr.fld h4), hth⟩
      · simp only [Bool.and_eq_true, Bool.not_eq_true', beq_iff_eq] at ht
        obtain ⟨⟨⟨h1, h2⟩, h3⟩, h4⟩ := ht
        intro en g h k vs en' g' h' hg hth he
        have hs : en.getD 0 0 = 182 := hth.resolve_left (by rw [h1]; decide)
        have he2 : s_putfC (sx_n c / 16) (sx_n c % 16) (evE xs L ck F cW a) (evE xs L ck F cW b) en (g, h) = some (k, vs, en', (g', h')) := he
        unfold s_putfC at he2
        rw [fo_this h2 hs, Option.bind_some] at he2
        obtain ⟨⟨y, g1, h1'⟩, e1_w, e2_w⟩ := j_bd he2
        cases e2_w
        obtain ⟨k1_w, k2⟩ := e b h3 _ _ _ _ _ _ hg hth e1_w
        exact ⟨k1_w, k2.tr (Fr.fld h4), hth⟩
      · match c, ht with
        | .op (.var ty_w) v, ht =>
          simp only [Bool.and_eq_true, Bool.not_eq_true'] at ht
          obtain ⟨⟨⟨h1, h2⟩, h3⟩, h4⟩ := ht
          intro en g h k vs en' g' h' hg hth he
          have hs : en.getD 0 0 = 182 := hth.resolve_left (by rw [h1]; decide)
          cases ho : fr_obj a with
          | none => rw [ho] at h2; cases h2
          | some q =>
            rw [ho] at h2
            simp only [Bool.and_eq_true, Bool.not_eq_true', beq_eq_false_iff_ne] at h2
            have he2 : s_ast ty_w (evE xs L ck F cW a) (evE xs L ck F cW b) (evE xs L ck F cW v) en (g, h) = some (k, vs, en', (g', h')) := he
            unfold s_ast at he2
            rw [fo_arr ho h2.2 hs hg, Option.bind_some] at he2
            obtain ⟨⟨y, g1, h1'⟩, e1_w, e2_w⟩ := j_bd he2
            obtain ⟨⟨z, g2, h2'⟩, e3_w, e4_w⟩ := j_bd e2_w
            obtain ⟨-, e5_w⟩ := j_if e4_w
            cases e5_w
            obtain ⟨k1_w, k2⟩ := e b h3 _ _ _ _ _ _ hg hth e1_w
            obtain ⟨k3, k4⟩ := e v h4 _ _ _ _ _ _ k1_w hth e3_w
            exact ⟨k3, (k2.tr k4).tr (Fr.arr h2.1), hth⟩
        | .var _, ht => cases ht
        | .op (.op _ _) _, ht => cases ht
      · match c, ht with
        | .op (.var op_w) v, ht =>
          simp only [Bool.and_eq_true, Bool.not_eq_true'] at ht
          obtain ⟨⟨⟨h1, h2⟩, h3⟩, h4⟩ := ht
          intro en g h k vs en' g' h' hg hth he
          have hs : en.getD 0 0 = 182 := hth.resolve_left (by rw [h1]; decide)
          cases ho : fr_obj a with
          | none => rw [ho] at h2; cases h2
          | some q =>
            rw [ho] at h2
            simp only [Bool.and_eq_true, Bool.not_eq_true', beq_eq_false_iff_ne] at h2
            have he2 : s_astC op_w (evE xs L ck F cW a) (evE xs L ck F cW b) (evE xs L ck F cW v) en (g, h) = some (k, vs, en', (g', h')) := he
            unfold s_astC at he2
            rw [fo_arr ho h2.2 hs hg, Option.bind_some] at he2
            obtain ⟨⟨y, g1, h1'⟩, e1_w, e2_w⟩ := j_bd he2
            obtain ⟨-, e2_w⟩ := j_ifx e2_w
            obtain ⟨⟨z, g2, h2'⟩, e3_w, e4_w⟩ := j_bd e2_w
            obtain ⟨-, e5_w⟩ := j_if e4_w
            cases e5_w
            obtain ⟨k1_w, k2⟩ := e b h3 _ _ _ _ _ _ hg hth e1_w
            obtain ⟨k3, k4⟩ := e v h4 _ _ _ _ _ _ k1_w hth e3_w
            exact ⟨k3, (k2.tr k4).tr (Fr.arr h2.1), hth⟩
        | .var _, ht => cases ht
        | .op (.op _ _) _, ht => cases ht
      · exact fs_e (f := id) (e a ht) (fun en st r he => by
          obtain ⟨x, e1_w, e2_w⟩ := j_bd he
          cases e2_w
          exact ⟨x, e1_w, _, rfl⟩)
      · rw [Bool.and_eq_true] at ht
        exact fs_if (e a ht.1) (iB_w.1 ht.2) fs_c
      · rw [Bool.and_eq_true, Bool.and_eq_true] at ht
        exact fs_if (e a ht.1.1) (iB_w.1 ht.1.2) (iC.1 ht.2)
      · rw [Bool.and_eq_true, Bool.and_eq_true] at ht
        exact fs_loop (e a ht.1.1) (iB_w.1 ht.1.2) (iC.1 ht.2) K
      · rw [Bool.and_eq_true] at ht
        exact fs_do (e a ht.1) (iB_w.1 ht.2) K
      · exact fs_c
      · exact fs_c
      · exact fs_e (f := id) (e a ht) (fun en st r he => by
          obtain ⟨x, e1_w, e2_w⟩ := j_bd he
          cases e2_w
          exact ⟨x, e1_w, _, rfl⟩)
      · exact fs_e (f := id) (e a ht) (fun en st r he => by
          obtain ⟨x, e1_w, e2_w⟩ := j_bd he
          obtain ⟨-, e3_w⟩ := j_if e2_w
          cases e3_w
          exact ⟨x, e1_w, _, rfl⟩)
      · exact fs_c
      · rw [Bool.and_eq_true] at ht
        intro en g h k vs en' g' h' hg hth he
        have he2 : s_sw (evE xs L ck F cW a) (evS xs L ck F K cW b) en (g, h) = some (k, vs, en', (g', h')) := he
        unfold s_sw at he2
        obtain ⟨⟨x, g1, h1⟩, e1_w, e2_w⟩ := j_bd he2
        obtain ⟨k1_w, k2⟩ := e a ht.1 _ _ _ _ _ _ hg hth e1_w
        obtain ⟨⟨c1_w, v1_w, en1, g2, h2⟩, e3_w, e4_w⟩ := j_bd e2_w
        obtain ⟨m1_w, m2_w, m3_w⟩ := iB_w.2 ht.2 _ _ _ _ _ _ _ _ _ k1_w hth e3_w
        dsimp only at e4_w
        split at e4_w
        · cases e4_w
          exact ⟨m1_w, k2.tr m2_w, m3_w⟩
        · cases e4_w
          exact ⟨m1_w, k2.tr m2_w, m3_w⟩
      · exact iA.1 ht
      · rw [Bool.and_eq_true] at ht
        exact fs_if (e a ht.1) (iB_w.1 ht.2) fs_c
      · cases ht
    · intro ht
      show FrK w s (nodeS xs L ck F K cW t a b c (evS xs L ck F K cW a) (evS xs L ck F K cW b) (evS xs L ck F K cW c))
      unfold fr_S at ht
      dsimp only at ht
      split at ht
      · rw [Bool.and_eq_true] at ht
        intro v en g h k vs en' g' h' hg hth he
        have he2 : (if (sx_l a).any (fun n => decide ((v :: en).headD 0 = sx_z n)) then (evS xs L ck F K cW b (v :: en).tail (g, h)).bind fun r => if r.1 = 0 then none else some r else evS xs L ck F K cW c (v :: en) (g, h)) = some (k, vs, en', (g', h')) := he
        split at he2
        · obtain ⟨⟨c1_w, v1_w, en1, g1, h1⟩, e3_w, e4_w⟩ := j_bd he2
          have h3 := iB_w.1 ht.1 _ _ _ _ _ _ _ _ hg hth e3_w
          dsimp only at e4_w
          split at e4_w
          · cases e4_w
          · cases e4_w
            exact h3
        · exact iC.2 ht.2 _ _ _ _ _ _ _ _ _ hg hth he2
      · exact fun v en g h k vs en' g' h' hg hth he => iA.1 ht _ _ _ _ _ _ _ _ hg hth he
      · cases ht
  | .var _ => ⟨fun h => (by cases h), fun h => (by cases h)⟩
  | .op (.op _ _) _ => ⟨fun h => (by cases h), fun h => (by cases h)⟩
  | .op (.var _) (.var _) => ⟨fun h => (by cases h), fun h => (by cases h)⟩
  | .op (.var _) (.op _ (.var _)) => ⟨fun h => (by cases h), fun h => (by cases h)⟩
end FRM
