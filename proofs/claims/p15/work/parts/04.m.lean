section
/-! ===== the third reading of statements is right ===== -/
def OutS (g g' : XS × Nat × Nat) (z : Nat → Int) (rt : List Nat) (thr : Bool) (o : TO) (c : Nat) (vals en' : List Int) : Prop :=
  (c = 0 ∧ g' = g ∧ ∃ τ', o.1 = some τ' ∧ VL z g.1 τ' en') ∨ (c = 1 ∧ g' = g ∧ VL z g.1 rt vals) ∨ (c = 2 ∧ g' = g ∧ ∃ τ', o.2.1 = some τ' ∧ VL z g.1 τ' en') ∨ (c = 3 ∧ g' = g ∧ ∃ τ', o.2.2 = some τ' ∧ VL z g.1 τ' en') ∨ (c = 4 ∧ thr = true ∧ g' = (g.1, g.2.1 + 1, g.2.2 + 6))
def TotS (T : TT) (g : XS × Nat × Nat) (ro : Nat → Nat → Bool) (z : Nat → Int) (rt : List Nat) (thr : Bool) (τ : List Nat) (o : TO) (A : XR) : Prop :=
  ∀ (en : List Int) (h : XH), VL z g.1 τ en → HT T.1 g.1 h → ∃ c vals en' g' h', A en (g, h) = some (c, vals, en', (g', h')) ∧ HT T.1 g.1 h' ∧ FR ro h h' ∧ OutS g g' z rt thr o c vals en'
theorem sub_rf : ∀ {x : List Nat}, t_subs x x = true
  | [] => rfl
  | a :: x => (Bool.and_eq_true _ _).mpr ⟨by simp [t_sub], sub_rf⟩
theorem join_l {x y r : Option (List Nat)} (h : t_join x y = some r) {τ : List Nat} (e : x = some τ) : ∃ τ', r = some τ' ∧ t_subs τ τ' = true := by
  subst e
  cases y with
  | none => cases h; exact ⟨τ, rfl, sub_rf⟩
  | some b =>
    obtain ⟨h1, h⟩ := j_if h
    cases h
    exact ⟨_, rfl, lubs_l h1⟩
theorem join_r {x y r : Option (List Nat)} (h : t_join x y = some r) {τ : List Nat} (e : y = some τ) : ∃ τ', r = some τ' ∧ t_subs τ τ' = true := by
  subst e
  cases x with
  | none => cases h; exact ⟨τ, rfl, sub_rf⟩
  | some b =>
    obtain ⟨h1, h⟩ := j_if h
    cases h
    exact ⟨_, rfl, lubs_r h1⟩
def leO (o o' : TO) : Prop := (∀ τ, o.1 = some τ → ∃ τ', o'.1 = some τ' ∧ t_subs τ τ' = true) ∧ (∀ τ, o.2.1 = some τ → ∃ τ', o'.2.1 = some τ' ∧ t_subs τ τ' = true) ∧ ∀ τ, o.2.2 = some τ → ∃ τ', o'.2.2 = some τ' ∧ t_subs τ τ' = true
theorem joins_l {x y r : TO} (h : t_joins x y = some r) : leO x r := by
  obtain ⟨a, h1, h⟩ := j_bd h
  obtain ⟨b, h2, h⟩ := j_bd h
  obtain ⟨c, h3, h⟩ := j_bd h
  cases h
  exact ⟨fun τ e => join_l h1 e, fun τ e => join_l h2 e, fun τ e => join_l h3 e⟩
theorem joins_r {x y r : TO} (h : t_joins x y = some r) : leO y r := by
  obtain ⟨a, h1, h⟩ := j_bd h
  obtain ⟨b, h2, h⟩ := j_bd h
  obtain ⟨c, h3, h⟩ := j_bd h
  cases h
  exact ⟨fun τ e => join_r h1 e, fun τ e => join_r h2 e, fun τ e => join_r h3 e⟩
theorem OutS.mono {g g' : XS × Nat × Nat} {z : Nat → Int} {rt : List Nat} {thr : Bool} {o o' : TO} {c : Nat} {vals en' : List Int} (hle : leO o o') (h : OutS g g' z rt thr o c vals en') : OutS g g' z rt thr o' c vals en' := by
  rcases h with ⟨h1, h2, τ, h3, h4⟩ | h | ⟨h1, h2, τ, h3, h4⟩ | ⟨h1, h2, τ, h3, h4⟩ | h
  · obtain ⟨τ', e1, e2⟩ := hle.1 τ h3
    exact Or.inl ⟨h1, h2, τ', e1, VL.sub e2 h4⟩
  · exact Or.inr (Or.inl h)
  · obtain ⟨τ', e1, e2⟩ := hle.2.1 τ h3
    exact Or.inr (Or.inr (Or.inl ⟨h1, h2, τ', e1, VL.sub e2 h4⟩))
  · obtain ⟨τ', e1, e2⟩ := hle.2.2 τ h3
    exact Or.inr (Or.inr (Or.inr (Or.inl ⟨h1, h2, τ', e1, VL.sub e2 h4⟩)))
  · exact Or.inr (Or.inr (Or.inr (Or.inr h)))
theorem sub_len : ∀ {x y : List Nat}, t_subs x y = true → x.length = y.length
  | [], [], _ => rfl
  | _ :: _, _ :: _, h => by rw [List.length_cons, List.length_cons, sub_len ((Bool.and_eq_true _ _).mp h).2]
  | [], _ :: _, h => by cases h
  | _ :: _, [], h => by cases h
theorem VL.put {z : Nat → Int} {g : XS} {t : Nat} : ∀ {ts : List Nat} {vs : List Int} (i : Nat), i < ts.length → VL z g ts vs → TV z g t (vs.getD i 0) → VL z g (ts.set i t) vs
  | _ :: _, _ :: _, 0, _, h, ht => ⟨ht, h.2⟩
  | _ :: _, _ :: _, i + 1, hl, h, ht => ⟨h.1, VL.put i (by simpa using hl) h.2 ht⟩
  | [], [], _, hl, _, _ => absurd hl (by simp)
  | [], _ :: _, _, _, h, _ => h.elim
  | _ :: _, [], _, _, h, _ => h.elim
/-- the numbers that kinds name may be named anew, but for those that are used -/
theorem VL.zch {z z' : Nat → Int} {g : XS} {i : Nat} (hz : ∀ k, k ≠ i → z' k = z k) : ∀ {ts : List Nat} {vs : List Int}, t_no i ts = true → VL z g ts vs → VL z' g ts vs
  | [], [], _, _ => trivial
  | t :: ts, v :: vs, h, hv => by
    rw [t_no, List.all_cons, Bool.and_eq_true] at h
    have h1 : t ≠ 300 + i := by simpa using h.1
    refine ⟨⟨hv.1.1, hv.1.2.1, hv.1.2.2.1, hv.1.2.2.2.1, hv.1.2.2.2.2.1, fun e => ?_⟩, VL.zch hz h.2 hv.2⟩
    have h2 := hv.1.2.2.2.2.2 e
    rw [hz (t - 300) (by omega)]
    exact h2
  | [], _ :: _, _, h => h.elim
  | _ :: _, [], _, h => h.elim
theorem t_setD {l : List Int} {i : Nat} {v : Int} (h : i < l.length) : (l.set i v).getD i 0 = v := by
  rw [List.getD_eq_getElem?_getD, List.getElem?_set]
  simp [h]
section TYS
variable {T : TT} {g : XS × Nat × Nat} {ro : Nat → Nat → Bool} {z : Nat → Int} {rt : List Nat} {thr : Bool} {τ : List Nat} {o : TO}
/-- how far the counter has to go -/
def mea (u : Bool) (v : Int) : Nat := if u then (2147483648 - v).toNat else (v + 1).toNat
def dir (u : Bool) : Int := if u then 1 else -1
theorem mea_lt {u : Bool} {v : Int} (hv : InI v) (h : if u = true then v < 2147483647 else 0 ≤ v) : mea u (j32 (v + dir u)) < mea u v := by
  unfold InI at hv
  unfold mea dir
  cases u with
  | true =>
    simp only [if_true] at h ⊢
    rw [j32_in ⟨by omega, by omega⟩]
    omega
  | false =>
    simp only [Bool.false_eq_true, if_false] at h ⊢
    rw [j32_in ⟨by omega, by omega⟩]
    omega
theorem mea_b {u : Bool} {v : Int} (hv : InI v) : mea u v < 4294967300 := by
  unfold InI at hv
  unfold mea
  cases u <;> simp <;> omega
/-- a loop whose head keeps its kinds and whose counter goes its way -/
theorem lp_run {i : Nat} {u : Bool} {τ1 x : List Nat} {C' : XE} {B' P' : XR} (hi : i < τ1.length) (h1 : τ1.getD i 0 = 1) (hx : t_subs τ1 x = true)
    (hC : ∀ en h, VL z g.1 τ1 en → HT T.1 g.1 h → ∃ v h', C' en (g, h) = some ([v], (g, h')) ∧ HT T.1 g.1 h' ∧ FR ro h h' ∧ (v ≠ 0 → if u = true then en.getD i 0 < 2147483647 else 0 ≤ en.getD i 0))
    (hB : ∀ en h, VL z g.1 τ1 en → HT T.1 g.1 h → ∃ c vals en' g' h', B' en (g, h) = some (c, vals, en', (g', h')) ∧ HT T.1 g.1 h' ∧ FR ro h h' ∧
      (((c = 0 ∨ c = 3) ∧ g' = g ∧ ∃ en2, P' en' (g, h') = some (0, [], en2, (g, h')) ∧ VL z g.1 τ1 en2 ∧ en2.getD i 0 = j32 (en.getD i 0 + dir u)) ∨ (c = 2 ∧ g' = g ∧ VL z g.1 x en') ∨ (c = 1 ∧ g' = g ∧ VL z g.1 rt vals) ∨ (c = 4 ∧ thr = true ∧ g' = (g.1, g.2.1 + 1, g.2.2 + 6)))) :
    ∀ (k m : Nat) (en : List Int) (h : XH), VL z g.1 τ1 en → HT T.1 g.1 h → mea u (en.getD i 0) ≤ m → m < k → ∃ c vals en' g' h', s_loop C' B' P' k en (g, h) = some (c, vals, en', (g', h')) ∧ HT T.1 g.1 h' ∧ FR ro h h' ∧ OutS g g' z rt thr (some x, none, none) c vals en' := by
  intro k
  induction k with
  | zero => exact fun m en h _ _ _ hk => absurd hk (by omega)
  | succ k ih =>
    intro m en h hv hH hm hk
    obtain ⟨v, h2, e1, e2, e3, e4⟩ := hC en h hv hH
    by_cases hv0 : v = 0
    · refine ⟨0, [], en, g, h2, ?_, e2, e3, Or.inl ⟨rfl, rfl, x, rfl, VL.sub hx hv⟩⟩
      unfold s_loop
      rw [e1, Option.bind_some]
      exact if_pos hv0
    · obtain ⟨c, vals, en', g', h3, f1, f2, f3, f4⟩ := hB en h2 hv e2
      have hs : s_loop C' B' P' (k + 1) en (g, h) = (if c = 0 ∨ c = 3 then (P' en' (g', h3)).bind fun q => if q.1 = 0 then s_loop C' B' P' k q.2.2.1 q.2.2.2 else none else if c = 2 then some (0, [], en', (g', h3)) else some (c, vals, en', (g', h3))) := by
        conv => lhs; unfold s_loop
        rw [e1, Option.bind_some]
        refine (if_neg hv0).trans ?_
        dsimp only
        rw [f1, Option.bind_some]
      rcases f4 with ⟨hc, rfl, en2, p1, p2, p3⟩ | ⟨rfl, rfl, p1⟩ | ⟨rfl, rfl, p1⟩ | ⟨rfl, p1, p2⟩
      · have hin : InI (en.getD i 0) := by
          have := VL.at i hv
          rw [h1] at this
          exact this.1 rfl
        have hml := mea_lt hin (e4 hv0)
        cases m with
        | zero => exact absurd hml (by omega)
        | succ m =>
          obtain ⟨c9, v9, n9, g9, h9, q1, q2, q3, q4⟩ := ih m en2 h3 p2 f2 (by rw [p3]; omega) (by omega)
          refine ⟨c9, v9, n9, g9, h9, ?_, q2, (e3.tr f3).tr q3, q4⟩
          rw [hs, if_pos hc, p1, Option.bind_some]
          exact q1
      · refine ⟨0, [], en', g', h3, ?_, f2, e3.tr f3, Or.inl ⟨rfl, rfl, x, rfl, p1⟩⟩
        rw [hs]
        rfl
      · refine ⟨1, vals, en', g', h3, ?_, f2, e3.tr f3, Or.inr (Or.inl ⟨rfl, rfl, p1⟩)⟩
        rw [hs]
        rfl
      · refine ⟨4, vals, en', g', h3, ?_, f2, e3.tr f3, Or.inr (Or.inr (Or.inr (Or.inr ⟨rfl, p1, p2⟩)))⟩
        rw [hs]
        rfl
theorem lp_ok {i : Nat} {u c3 : Bool} {K : Nat} {TA : List Nat → Option (List Nat)} {TB : List Nat → Option TO} {C' : XE} {B' P' : XR} (hK : 4294967300 ≤ K) (hrt : rt.all (fun t => Nat.blt t 300) = true)
    (hA : ∀ z τ us, TA τ = some us → TotE T g ro z τ us C')
    (hN : ∀ en h v h', C' en (g, h) = some ([v], (g, h')) → v ≠ 0 → HT T.1 g.1 h → InI (en.getD i 0) → ∀ z τ us, TA τ = some us → VL z g.1 τ en → if u = true then en.getD i 0 < 2147483647 else 0 ≤ en.getD i 0)
    (hB : c3 = true → ∀ z τ o, TB τ = some o → TotS T g ro z rt thr τ o B')
    (hP : c3 = true → ∀ en st, P' en st = some (0, [], en.set i (j32 (en.getD i 0 + dir u)), st))
    (hB2 : c3 = false → ∀ en st, B' en st = some (0, [], en.set i (j32 (en.getD i 0 + dir u)), st))
    (hP2 : c3 = false → ∀ en st, P' en st = some (0, [], en, st)) : ∀ (n : Nat) (τ : List Nat) (o : TO), ty_lp T i c3 TA TB n τ = some o → ∀ z, TotS T g ro z rt thr τ o (s_loop C' B' P' K)
  | 0, _, _, h, _ => by cases h
  | n + 1, τ, o, h, z => by
    unfold ty_lp at h
    dsimp only at h
    obtain ⟨⟨c1, c2, c4, c5⟩, h⟩ := j_ifx h
    obtain ⟨ob, b1, h⟩ := j_bd h
    obtain ⟨e, b2, h⟩ := j_bd h
    obtain ⟨ex, b3, h⟩ := j_bd h
    have hlen : i < (τ.set i 1).length := by rw [List.length_set]; exact c1
    have hone : (τ.set i 1).getD i 0 = 1 := by
      rw [List.getD_eq_getElem?_getD, List.getElem?_set]
      simp [c1]
    have hto : ∀ en, VL z g.1 τ en → VL z g.1 (τ.set i 1) en := fun en hv => VL.put i c1 hv (TV.sub c5 (VL.at i hv))
    obtain ⟨x, hx1, hx2⟩ := join_l b3 rfl
    subst hx1
    dsimp only at h
    obtain ⟨c6, h⟩ := j_ifx h
    -- at the head, with the counter named
    have hz : ∀ (en : List Int) (k : Nat), k ≠ i → (fun k => if k = i then en.getD i 0 else z k) k = z k := fun en k hk => if_neg hk
    have hth : ∀ en, VL z g.1 (τ.set i 1) en → VL (fun k => if k = i then en.getD i 0 else z k) g.1 ((τ.set i 1).set i (300 + i)) en := fun en hv => by
      have hin : InI (en.getD i 0) := by
        have := VL.at i hv
        rw [hone] at this
        exact this.1 rfl
      refine VL.put i hlen (VL.zch (hz en) c2 hv) ⟨fun e => absurd e (by omega), fun e => absurd e (by omega), fun e => absurd e (by omega), fun e => absurd e (by omega), fun _ e => absurd e (by omega), fun _ => ⟨?_, hin⟩⟩
      rw [Nat.add_sub_cancel_left]
      exact (if_pos rfl).symm
    have hC : ∀ en h, VL z g.1 (τ.set i 1) en → HT T.1 g.1 h → ∃ v h', C' en (g, h) = some ([v], (g, h')) ∧ HT T.1 g.1 h' ∧ FR ro h h' ∧ (v ≠ 0 → if u = true then en.getD i 0 < 2147483647 else 0 ≤ en.getD i 0) := fun en h hv hH => by
      have hA1 := t_one_some (x := TA ((τ.set i 1).set i (300 + i))) rfl (isI_0 c4)
      obtain ⟨v, h', e1, e2, e3, e4⟩ := te_one (hA _ _ _ hA1) (hth en hv) hH
      have hin : InI (en.getD i 0) := by
        have := VL.at i hv
        rw [hone] at this
        exact this.1 rfl
      exact ⟨v, h', e1, e2, e3, fun hv0 => hN en h v h' e1 hv0 hH hin _ _ _ hA1 (hth en hv)⟩
    have hrun : ∀ (w : Option (List Nat)), (∀ w', w = some w' → w'.getD i 0 = 300 + i ∧ t_subs (w'.set i 1) (τ.set i 1) = true) → e = w → TotS T g ro z rt thr τ (some x, none, none) (s_loop C' B' P' K) := fun w hw he en h hv hH => by
      have hv1 := hto en hv
      have hin0 : InI (en.getD i 0) := by
        have := VL.at i hv1
        rw [hone] at this
        exact this.1 rfl
      refine lp_run hlen hone hx2 hC (fun en hp hv hH => ?_) K _ en h hv1 hH (Nat.le_refl _) (Nat.lt_of_lt_of_le (mea_b hin0) hK)
      have hin : InI (en.getD i 0) := by
        have := VL.at i hv
        rw [hone] at this
        exact this.1 rfl
      -- what stands behind the body
      have hback : ∀ (w' : List Nat) (en1 : List Int), w = some w' → VL (fun k => if k = i then en.getD i 0 else z k) g.1 w' en1 → VL z g.1 (τ.set i 1) (en1.set i (j32 (en1.getD i 0 + dir u))) ∧ (en1.set i (j32 (en1.getD i 0 + dir u))).getD i 0 = j32 (en.getD i 0 + dir u) := fun w' en1 hw1 hv1 => by
        obtain ⟨a1, a2⟩ := hw w' hw1
        have hat := VL.at i hv1
        rw [a1] at hat
        have heq : en1.getD i 0 = en.getD i 0 := by
          have h9 := (hat.2.2.2.2.2 (by omega)).1
          rw [Nat.add_sub_cancel_left] at h9
          exact h9.trans (if_pos rfl)
        have hl1 : i < en1.length := by
          rw [VL.len hv1]
          have hl2 : (w'.set i 1).length = (τ.set i 1).length := sub_len a2
          rw [List.length_set] at hl2
          omega
        refine ⟨VL.zch (fun k hk => (if_neg hk).symm) c2 (VL.sub a2 (VL.set i hv1 (TV.int (in_j32 _)))), ?_⟩
        rw [t_setD hl1, heq]
      cases c3 with
      | true =>
        have hb1 : TB ((τ.set i 1).set i (300 + i)) = some ob := b1
        obtain ⟨c, vals, en', g', h', f1, f2, f3, f4⟩ := hB rfl _ _ _ hb1 en hp (hth en hv) hH
        refine ⟨c, vals, en', g', h', f1, f2, f3, ?_⟩
        rcases f4 with ⟨k1, k2, τ', k3, k4⟩ | ⟨k1, k2, k3⟩ | ⟨k1, k2, τ', k3, k4⟩ | ⟨k1, k2, τ', k3, k4⟩ | k
        · obtain ⟨w', j1, j2⟩ := join_l b2 k3
          obtain ⟨m1, m2⟩ := hback w' en' (he ▸ j1) (VL.sub j2 k4)
          exact Or.inl ⟨Or.inl k1, k2, _, hP rfl _ _, m1, m2⟩
        · exact Or.inr (Or.inr (Or.inl ⟨k1, k2, VL.z0 hrt k3⟩))
        · obtain ⟨x', j1, j2⟩ := join_r b3 k3
          cases j1
          exact Or.inr (Or.inl ⟨k1, k2, VL.zch (fun k hk => (if_neg hk).symm) c6 (VL.sub j2 k4)⟩)
        · obtain ⟨w', j1, j2⟩ := join_r b2 k3
          obtain ⟨m1, m2⟩ := hback w' en' (he ▸ j1) (VL.sub j2 k4)
          exact Or.inl ⟨Or.inr k1, k2, _, hP rfl _ _, m1, m2⟩
        · exact Or.inr (Or.inr (Or.inr k))
      | false =>
        have hb1 : some (some ((τ.set i 1).set i (300 + i)), none, none) = some ob := b1
        cases hb1
        obtain ⟨w', j1, j2⟩ := join_l b2 rfl
        obtain ⟨m1, m2⟩ := hback w' en (he ▸ j1) (VL.sub j2 (hth en hv))
        exact ⟨0, [], _, g, hp, hB2 rfl _ _, hH, FR.rf, Or.inl ⟨Or.inl rfl, rfl, _, hP2 rfl _ _, m1, m2⟩⟩
    cases e with
    | none =>
      cases h
      exact hrun none (fun w' hw => by cases hw) rfl
    | some w =>
      dsimp only at h
      obtain ⟨d1, h⟩ := j_ifx h
      by_cases d2 : t_subs (w.set i 1) (τ.set i 1) = true
      · rw [if_pos d2] at h
        cases h
        exact hrun (some w) (fun w' hw => by cases hw; exact ⟨d1, d2⟩) rfl
      · rw [if_neg d2] at h
        obtain ⟨d3, h⟩ := j_ifx h
        have ih := lp_ok hK hrt hA hN hB hP hB2 hP2 n _ _ h z
        exact fun en hh hv hH => ih en hh (VL.sub (lubs_l d3) (hto en hv)) hH
end TYS
end
section
/-! ===== the third reading: counters, statements, methods ===== -/
section TYT
variable {xs : Nat → Int} {L K : Nat} {ck : Nat → List Nat} {F : XP} {cW : Nat → Nat → Int} {T : TT} {g : XS × Nat × Nat} {ro : Nat → Nat → Bool} {rt : List Nat} {thr : Bool}
theorem j_b_ne {b : Bool} (h : j_b b ≠ 0) : b = true := by
  cases b
  · exact absurd rfl h
  · rfl
theorem some_one {α β : Type} {a b : α} {x y : β} (h : some ([a], x) = some ([b], y)) : a = b ∧ x = y := by
  cases h
  exact ⟨rfl, rfl⟩
/-- a conjunction that holds: both of its parts -/
theorem and_parts {z : Nat → Int} {τ : List Nat} {A B : XE} {ta tb : Nat} (hA : TotE T g ro z τ [ta] A) (hB : TotE T g ro z τ [tb] B) {en : List Int} {h h' : XH} {v : Int} (hv : VL z g.1 τ en) (hH : HT T.1 g.1 h) (e : n_ife A (n_nz B) (fun _ st => some ([0], st)) en (g, h) = some ([v], (g, h'))) (h0 : v ≠ 0) :
    ∃ va h1, A en (g, h) = some ([va], (g, h1)) ∧ va ≠ 0 ∧ HT T.1 g.1 h1 ∧ ∃ vb h2, B en (g, h1) = some ([vb], (g, h2)) ∧ vb ≠ 0 := by
  obtain ⟨va, h1, a1, a2, a3, a4⟩ := te_one hA hv hH
  obtain ⟨vb, h2, b1, b2, b3, b4⟩ := te_one hB hv a2
  unfold n_ife at e
  rw [a1, Option.bind_some] at e
  dsimp only at e
  by_cases hz : j_hd [va] = 0
  · rw [if_pos hz] at e
    exact absurd (some_one e).1.symm h0
  · rw [if_neg hz] at e
    unfold n_nz at e
    rw [b1, Option.bind_some] at e
    have e1 := (some_one e).1
    refine ⟨va, h1, a1, hz, a2, vb, h2, b1, ?_⟩
    rw [← e1] at h0
    exact of_decide_eq_true (j_b_ne h0)
theorem tyE_25 {τ us : List Nat} {a b c : SX} (h : tyF T τ (.op (.var 25) (.op a (.op b c))) = some us) : isI (t_one (tyF T τ a)) = true ∧ isI (t_one (tyF T τ b)) = true := (j_if h).1
theorem tyE_20 {τ us : List Nat} {a b c : SX} (h : tyF T τ (.op (.var 20) (.op a (.op b c))) = some us) : isI (t_one (tyF T τ a)) = true ∧ isI (t_one (tyF T τ b)) = true := (j_if h).1
theorem up_ok (hg : GG T.1 g.1) (hTG : TG T) (hcW : ∀ k, k < 24 → InL (cW 0 k) ∧ InI (cW 1 k)) (hF : ∀ f, T.2.2.2.1 f = true → TotF T g ro F f) {i : Nat} {z : Nat → Int} {τ : List Nat} {en : List Int} (hv : VL z g.1 τ en) : ∀ (t : SX) (h h' : XH) (v : Int) (us : List Nat), lp_up i t = true → tyF T τ t = some us → HT T.1 g.1 h → evE xs L ck F cW t en (g, h) = some ([v], (g, h')) → v ≠ 0 → en.getD i 0 < 2147483647
  | .op (.var t) (.op a (.op b c)), h, h', v, us, hu, hT, hH, e, h0 => by
    by_cases h25 : t = 25
    · subst h25
      obtain ⟨t1, t2⟩ := tyE_25 hT
      have hA := ty_all (xs := xs) (L := L) (ck := ck) hg hTG hcW hF a z τ _ (t_one_some rfl (isI_0 t1))
      have hB := ty_all (xs := xs) (L := L) (ck := ck) hg hTG hcW hF b z τ _ (t_one_some rfl (isI_0 t2))
      obtain ⟨va, h1, a1, a2, a3, vb, h2, b1, b2⟩ := and_parts hA hB hv hH e h0
      have hu2 : (lp_up i a || lp_up i b) = true := hu
      rcases (Bool.or_eq_true _ _).mp hu2 with q | q
      · exact up_ok hg hTG hcW hF hv a h h1 va _ q (t_one_some rfl (isI_0 t1)) hH a1 a2
      · exact up_ok hg hTG hcW hF hv b h1 h2 vb _ q (t_one_some rfl (isI_0 t2)) a3 b1 b2
    · unfold lp_up at hu
      split at hu
      · rename_i e9
        cases e9
        exact absurd rfl h25
      · rename_i j w w2 b9 k e9
        cases e9
        obtain ⟨t1, t2⟩ := tyE_20 hT
        have hB := ty_all (xs := xs) (L := L) (ck := ck) hg hTG hcW hF b z τ _ (t_one_some rfl (isI_0 t2))
        obtain ⟨vb, h2, b1, b2, b3, b4⟩ := te_one hB hv hH
        have hin := isI_in t2 b4
        have e2 : n_cmp (j_cmp k) (fun en st => some ([en.getD j 0], st)) (evE xs L ck F cW b) en (g, h) = some ([v], (g, h')) := e
        unfold n_cmp at e2
        rw [Option.bind_some] at e2
        dsimp only at e2
        rw [b1, Option.bind_some] at e2
        have e3 : j_b (j_cmp k (en.getD j 0) vb) = v := (some_one e2).1
        rw [← e3] at h0
        have e4 := j_b_ne h0
        simp only [Bool.and_eq_true, Bool.or_eq_true, beq_iff_eq] at hu
        obtain ⟨rfl, hk⟩ := hu
        unfold InI at hin
        rcases hk with rfl | ⟨rfl, hk⟩
        · have e5 : en.getD j 0 < vb := of_decide_eq_true e4
          omega
        · have e5 : en.getD j 0 ≤ vb := of_decide_eq_true e4
          split at hk
          · rename_i a' b' c'
            simp only [Bool.and_eq_true, beq_iff_eq, decide_eq_true_eq] at hk
            have e6 : evE xs L ck F cW (.op (.var 1) (.op a' (.op b' c'))) en (g, h) = some ([sx_c a' b' c'], (g, h)) := rfl
            have e7 := (some_one (b1.symm.trans e6)).1
            omega
          · cases hk
      · cases hu
  | .var _, _, _, _, _, _, hT, _, _, _ => by cases hT
  | .op (.op _ _) _, _, _, _, _, _, hT, _, _, _ => by cases hT
  | .op (.var _) (.var _), _, _, _, _, _, hT, _, _, _ => by cases hT
  | .op (.var _) (.op _ (.var _)), _, _, _, _, _, hT, _, _, _ => by cases hT
theorem dn_ok (hg : GG T.1 g.1) (hTG : TG T) (hcW : ∀ k, k < 24 → InL (cW 0 k) ∧ InI (cW 1 k)) (hF : ∀ f, T.2.2.2.1 f = true → TotF T g ro F f) {i : Nat} {z : Nat → Int} {τ : List Nat} {en : List Int} (hv : VL z g.1 τ en) : ∀ (t : SX) (h h' : XH) (v : Int) (us : List Nat), lp_dn i t = true → tyF T τ t = some us → HT T.1 g.1 h → evE xs L ck F cW t en (g, h) = some ([v], (g, h')) → v ≠ 0 → 0 ≤ en.getD i 0
  | .op (.var t) (.op a (.op b c)), h, h', v, us, hu, hT, hH, e, h0 => by
    by_cases h25 : t = 25
    · subst h25
      obtain ⟨t1, t2⟩ := tyE_25 hT
      have hA := ty_all (xs := xs) (L := L) (ck := ck) hg hTG hcW hF a z τ _ (t_one_some rfl (isI_0 t1))
      have hB := ty_all (xs := xs) (L := L) (ck := ck) hg hTG hcW hF b z τ _ (t_one_some rfl (isI_0 t2))
      obtain ⟨va, h1, a1, a2, a3, vb, h2, b1, b2⟩ := and_parts hA hB hv hH e h0
      have hu2 : (lp_dn i a || lp_dn i b) = true := hu
      rcases (Bool.or_eq_true _ _).mp hu2 with q | q
      · exact dn_ok hg hTG hcW hF hv a h h1 va _ q (t_one_some rfl (isI_0 t1)) hH a1 a2
      · exact dn_ok hg hTG hcW hF hv b h1 h2 vb _ q (t_one_some rfl (isI_0 t2)) a3 b1 b2
    · unfold lp_dn at hu
      split at hu
      · rename_i e9
        cases e9
        exact absurd rfl h25
      · rename_i j w w2 b9 k e9
        cases e9
        simp only [Bool.and_eq_true, beq_iff_eq] at hu
        obtain ⟨rfl, rfl⟩ := hu
        have e2 : some ([j_b (j_cmp 3 (en.getD j 0) 0)], (g, h)) = some ([v], (g, h')) := e
        have e3 := (some_one e2).1
        rw [← e3] at h0
        have e5 : en.getD j 0 ≥ 0 := of_decide_eq_true (j_b_ne h0)
        exact e5
      · cases hu
  | .var _, _, _, _, _, _, hT, _, _, _ => by cases hT
  | .op (.op _ _) _, _, _, _, _, _, hT, _, _, _ => by cases hT
  | .op (.var _) (.var _), _, _, _, _, _, hT, _, _, _ => by cases hT
  | .op (.var _) (.op _ (.var _)), _, _, _, _, _, hT, _, _, _ => by cases hT
end TYT
end
section
/-! ===== the third reading: all statements ===== -/
def TotC (T : TT) (g : XS × Nat × Nat) (ro : Nat → Nat → Bool) (z : Nat → Int) (rt : List Nat) (thr : Bool) (τ : List Nat) (o : TO) (A : XR) : Prop :=
  ∀ (v : Int) (en : List Int) (h : XH), VL z g.1 τ en → HT T.1 g.1 h → ∃ c vals en' g' h', A (v :: en) (g, h) = some (c, vals, en', (g', h')) ∧ HT T.1 g.1 h' ∧ FR ro h h' ∧ OutS g g' z rt thr o c vals en'
section TYU
variable {xs : Nat → Int} {L K : Nat} {ck : Nat → List Nat} {F : XP} {cW : Nat → Nat → Int} {T : TT} {g : XS × Nat × Nat} {ro : Nat → Nat → Bool} {z : Nat → Int} {rt : List Nat} {thr : Bool} {τ : List Nat} {o q r : TO}
theorem st_skip : TotS T g ro z rt thr τ (some τ, none, none) (fun en st => some (0, [], en, st)) := fun en h hv hH => ⟨0, [], en, g, h, rfl, hH, FR.rf, Or.inl ⟨rfl, rfl, τ, rfl, hv⟩⟩
theorem st_seq {A B : XR} (hA : TotS T g ro z rt thr τ o A) (hB : ∀ τ1, o.1 = some τ1 → TotS T g ro z rt thr τ1 q B) (hl : leO (none, o.2) r) (hr : o.1 ≠ none → leO q r) : TotS T g ro z rt thr τ r (s_seq A B) := by
  intro en h hv hH
  obtain ⟨c, vals, en', g', h', e1, e2, e3, e4⟩ := hA en h hv hH
  unfold s_seq
  rw [e1, Option.bind_some]
  dsimp only
  rcases e4 with ⟨rfl, rfl, τ1, k1, k2⟩ | ⟨rfl, k⟩ | ⟨rfl, k⟩ | ⟨rfl, k⟩ | ⟨rfl, k⟩
  · rw [if_pos rfl]
    obtain ⟨c, vals, en2, g2, h2, f1, f2, f3, f4⟩ := hB τ1 k1 en' h' k2 e2
    exact ⟨c, vals, en2, g2, h2, f1, f2, e3.tr f3, f4.mono (hr (by rw [k1]; exact fun e => by cases e))⟩
  · exact ⟨1, vals, en', g', h', rfl, e2, e3, OutS.mono hl (Or.inr (Or.inl ⟨rfl, k⟩))⟩
  · exact ⟨2, vals, en', g', h', rfl, e2, e3, OutS.mono hl (Or.inr (Or.inr (Or.inl ⟨rfl, k⟩)))⟩
  · exact ⟨3, vals, en', g', h', rfl, e2, e3, OutS.mono hl (Or.inr (Or.inr (Or.inr (Or.inl ⟨rfl, k⟩))))⟩
  · exact ⟨4, vals, en', g', h', rfl, e2, e3, OutS.mono hl (Or.inr (Or.inr (Or.inr (Or.inr ⟨rfl, k⟩))))⟩
theorem st_if {A : XE} {B C : XR} {t : Nat} (hA : TotE T g ro z τ [t] A) (hB : TotS T g ro z rt thr τ o B) (hC : TotS T g ro z rt thr τ q C) (h1 : leO o r) (h2 : leO q r) : TotS T g ro z rt thr τ r (s_if A B C) := by
  intro en h hv hH
  obtain ⟨v, h', e1, e2, e3, e4⟩ := te_one hA hv hH
  unfold s_if
  rw [e1, Option.bind_some]
  dsimp only
  by_cases h0 : j_hd [v] = 0
  · rw [if_pos h0]
    obtain ⟨c, vals, en2, g2, h2', f1, f2, f3, f4⟩ := hC en h' hv e2
    exact ⟨c, vals, en2, g2, h2', f1, f2, e3.tr f3, f4.mono h2⟩
  · rw [if_neg h0]
    obtain ⟨c, vals, en2, g2, h2', f1, f2, f3, f4⟩ := hB en h' hv e2
    exact ⟨c, vals, en2, g2, h2', f1, f2, e3.tr f3, f4.mono h1⟩
theorem st_brk : TotS T g ro z rt thr τ (none, some τ, none) (fun en st => some (2, [], en, st)) := fun en h hv hH => ⟨2, [], en, g, h, rfl, hH, FR.rf, Or.inr (Or.inr (Or.inl ⟨rfl, rfl, τ, rfl, hv⟩))⟩
theorem st_cnt : TotS T g ro z rt thr τ (none, none, some τ) (fun en st => some (3, [], en, st)) := fun en h hv hH => ⟨3, [], en, g, h, rfl, hH, FR.rf, Or.inr (Or.inr (Or.inr (Or.inl ⟨rfl, rfl, τ, rfl, hv⟩)))⟩
theorem first_some {A : Option (List Nat)} {x : Option TO} (h : ty_first A x = some o) : A = some [t_one A] ∧ x = some o := by
  obtain ⟨h1, h2⟩ := j_ifx h
  exact ⟨t_one_some rfl (isI_0 h1), h2⟩
/-- where a number may be written -/
def WK (T : TT) (g : XS) (ro : Nat → Nat → Bool) : Prop := ∀ ci k, T.2.2.2.2 ci k = true → ∀ (o : Nat) (c : XC), g[o]? = some c → c.1 = 10 + ci → ro o k = false
theorem st_put {A B : XE} {ta tb k : Nat} (hW : WK T g.1 ro) (hA : TotE T g ro z τ [ta] A) (hB : TotE T g ro z τ [tb] B) (h1 : 10 ≤ ta) (h2 : ta < 100) (h3 : T.2.2.2.2 (ta - 10) k = true) (f : XT → Int → Int → Int)
    (hf : ∀ (st : XT) v w, TV z g.1 tb w → ((T.1 (ta - 10)).getD k 0 = 1 → InI (f st v w)) ∧ ((T.1 (ta - 10)).getD k 0 = 2 → InL (f st v w)) ∧ ((T.1 (ta - 10)).getD k 0 = 100 → f st v w = 0 ∨ f st v w = 1)) {S : XR}
    (hS : ∀ en (st st1 st2 : XT) v w, A en st = some ([v], st1) → B en st1 = some ([w], st2) → TV z g.1 tb w → S en st = some (0, [], en, (st2.1, j_up st2.2 v.toNat k (f st1 v w)))) : TotS T g ro z rt thr τ (some τ, none, none) S := by
  intro en h hv hH
  obtain ⟨v, ha, a1, a2, a3, a4⟩ := te_one hA hv hH
  obtain ⟨w, hb, b1, b2, b3, b4⟩ := te_one hB hv a2
  obtain ⟨v0, cc, hc, hk⟩ := a4.2.2.2.2.1 (by omega) h2
  have ht := o_ty (fk := T.1) (k := k) (ci := ta - 10) hc (by omega)
  obtain ⟨q1, q2, q3⟩ := hf (g, ha) v w b4
  refine ⟨0, [], en, g, _, hS en _ _ _ v w a1 b1 b4, ?_, (a3.tr b3).tr (FR.up (hW _ _ h3 _ cc hc (by omega))), Or.inl ⟨rfl, rfl, τ, rfl, hv⟩⟩
  exact b2.up (by rw [ht]; exact q1) (by rw [ht]; exact q2) (by rw [ht]; exact q3)
theorem st_sw {A : XE} {B : XR} {t : Nat} {e : Option (List Nat)} (hA : TotE T g ro z τ [t] A) (hB : TotC T g ro z rt thr τ o B) (hj : t_join o.1 o.2.1 = some e) : TotS T g ro z rt thr τ (e, none, o.2.2) (s_sw A B) := by
  intro en h hv hH
  obtain ⟨v, h', e1, e2, e3, e4⟩ := te_one hA hv hH
  obtain ⟨c, vals, en2, g2, h2, f1, f2, f3, f4⟩ := hB v en h' hv e2
  unfold s_sw
  rw [e1, Option.bind_some]
  dsimp only
  have f1' : B (j_hd [v] :: en) (g, h') = some (c, vals, en2, (g2, h2)) := f1
  rw [f1', Option.bind_some]
  dsimp only
  rcases f4 with ⟨rfl, rfl, τ1, k1, k2⟩ | ⟨rfl, k⟩ | ⟨rfl, rfl, τ1, k1, k2⟩ | ⟨rfl, k⟩ | ⟨rfl, k⟩
  · obtain ⟨τ2, j1, j2⟩ := join_l hj k1
    exact ⟨0, vals, en2, g2, h2, rfl, f2, e3.tr f3, Or.inl ⟨rfl, rfl, τ2, j1, VL.sub j2 k2⟩⟩
  · exact ⟨1, vals, en2, g2, h2, rfl, f2, e3.tr f3, Or.inr (Or.inl ⟨rfl, k⟩)⟩
  · obtain ⟨τ2, j1, j2⟩ := join_r hj k1
    exact ⟨0, vals, en2, g2, h2, rfl, f2, e3.tr f3, Or.inl ⟨rfl, rfl, τ2, j1, VL.sub j2 k2⟩⟩
  · exact ⟨3, vals, en2, g2, h2, rfl, f2, e3.tr f3, Or.inr (Or.inr (Or.inr (Or.inl ⟨rfl, k⟩)))⟩
  · exact ⟨4, vals, en2, g2, h2, rfl, f2, e3.tr f3, Or.inr (Or.inr (Or.inr (Or.inr ⟨rfl, k⟩)))⟩
theorem st_case {l : List Nat} {B C : XR} (hB : TotS T g ro z rt thr τ o B) (h0 : o.1 = none) (hC : TotC T g ro z rt thr τ q C) (h1 : leO o r) (h2 : leO q r) : TotC T g ro z rt thr τ r (fun en st => if l.any (fun n => decide (en.headD 0 = sx_z n)) then (B en.tail st).bind fun r => if r.1 = 0 then none else some r else C en st) := by
  intro v en h hv hH
  dsimp only
  split
  · obtain ⟨c, vals, en2, g2, h2', f1, f2, f3, f4⟩ := hB en h hv hH
    have hc : c ≠ 0 := by
      rintro rfl
      rcases f4 with ⟨-, -, τ1, k1, -⟩ | ⟨k, -⟩ | ⟨k, -⟩ | ⟨k, -⟩ | ⟨k, -⟩
      · rw [h0] at k1; cases k1
      · cases k
      · cases k
      · cases k
      · cases k
    refine ⟨c, vals, en2, g2, h2', ?_, f2, f3, f4.mono h1⟩
    show ((B en (g, h)).bind _) = _
    rw [f1, Option.bind_some]
    exact if_neg hc
  · obtain ⟨c, vals, en2, g2, h2', f1, f2, f3, f4⟩ := hC v en h hv hH
    exact ⟨c, vals, en2, g2, h2', f1, f2, f3, f4.mono h2⟩
theorem inc_ok {c : SX} {i : Nat} {u : Bool} (h : lp_inc c = some (i, u)) : ∀ en st, evS xs L ck F K cW c en st = some (0, [], en.set i (j32 (en.getD i 0 + dir u)), st) := by
  unfold lp_inc at h
  split at h
  · rename_i j k
    cases h
    intro en st
    show some (0, [], en.set i (j32 (en.getD i 0 + (if k = 0 then ((1 : Nat) : Int) else -((1 : Nat) : Int)))), st) = _
    unfold dir
    by_cases hk : k = 0
    · rw [if_pos hk, if_pos (by simpa using hk)]
      rfl
    · rw [if_neg hk, if_neg (by simpa using hk)]
      rfl
  · cases h
theorem step_ok {b c : SX} {i : Nat} {u c3 : Bool} (h : lp_step b c = some (i, u, c3)) : (c3 = true → ∀ en st, evS xs L ck F K cW c en st = some (0, [], en.set i (j32 (en.getD i 0 + dir u)), st)) ∧ (c3 = false → ∀ en st, evS xs L ck F K cW b en st = some (0, [], en.set i (j32 (en.getD i 0 + dir u)), st)) ∧ (c3 = false → ∀ en st, evS xs L ck F K cW c en st = some (0, [], en, st)) := by
  unfold lp_step at h
  split at h
  · rename_i i' u' hi
    cases h
    exact ⟨fun _ => inc_ok hi, fun e => (by cases e), fun e => (by cases e)⟩
  · split at h
    · split at h
      · rename_i b' _ _
        obtain ⟨q, hq, h⟩ := Option.map_eq_some_iff.mp h
        obtain ⟨i', u'⟩ := q
        cases h
        exact ⟨fun e => (by cases e), fun _ en st => show evS xs L ck F K cW b' en st = _ from inc_ok hq en st, fun _ _ _ => rfl⟩
      · cases h
    · cases h
end TYU
end
section
/-! ===== the third reading: every statement, every method ===== -/
section TYV
variable {xs : Nat → Int} {L K : Nat} {ck : Nat → List Nat} {F : XP} {cW : Nat → Nat → Int} {T : TT} {g : XS × Nat × Nat} {ro : Nat → Nat → Bool} {rt : List Nat} {thr : Bool}
theorem ty_S (hg : GG T.1 g.1) (hTG : TG T) (hcW : ∀ k, k < 24 → InL (cW 0 k) ∧ InI (cW 1 k)) (hF : ∀ f, T.2.2.2.1 f = true → TotF T g ro F f) (hW : WK T g.1 ro) (hK : 4294967300 ≤ K) (hrt : rt.all (fun t => Nat.blt t 300) = true) : ∀ (t : SX),
    (∀ z τ o, (tyS T rt thr t).1 τ = some o → TotS T g ro z rt thr τ o (evS xs L ck F K cW t)) ∧ (∀ z τ o, (tyS T rt thr t).2 τ = some o → TotC T g ro z rt thr τ o (evS xs L ck F K cW t))
  | .op (.var t) (.op a (.op b c)) => by
    have iA := ty_S hg hTG hcW hF hW hK hrt a
    have iB := ty_S hg hTG hcW hF hW hK hrt b
    have iC := ty_S hg hTG hcW hF hW hK hrt c
    have e := fun t z τ us h => ty_all (xs := xs) (L := L) (ck := ck) hg hTG hcW hF t z τ us h
    have e1 : ∀ (t : SX) z τ u, t_one (tyF T τ t) = u → u ≠ 0 → TotE T g ro z τ [u] (evE xs L ck F cW t) := fun t z τ u h h0 => e t z τ _ (t_one_some h h0)
    constructor
    · intro z τ o h
      show TotS T g ro z rt thr τ o (nodeS xs L ck F K cW t a b c (evS xs L ck F K cW a) (evS xs L ck F K cW b) (evS xs L ck F K cW c))
      have h : (tySN T rt thr t a b c (tyS T rt thr a) (tyS T rt thr b) (tyS T rt thr c)).1 τ = some o := h
      unfold tySN at h
      dsimp only at h
      split at h
      · cases h; exact st_skip
      · cases h; exact st_skip
      · obtain ⟨o1, h1, h⟩ := j_bd h
        have hA := iA.1 z τ o1 h1
        split at h
        · rename_i hn
          cases h
          exact st_seq (q := o) hA (fun τ1 k => by rw [hn] at k; cases k) ⟨fun τ k => (by cases k), fun τ k => ⟨τ, k, sub_rf⟩, fun τ k => ⟨τ, k, sub_rf⟩⟩ (fun k => absurd hn k)
        · rename_i τ1 hn
          obtain ⟨q, h2, h⟩ := j_bd h
          exact st_seq hA (fun τ2 k => by rw [hn] at k; cases k; exact iB.1 z τ1 q h2) (joins_l h) (fun _ => joins_r h)
      · obtain ⟨⟨h1, h2⟩, h⟩ := j_if h
        cases h
        intro en hh hv hH
        obtain ⟨v, h', f1, f2, f3, f4⟩ := te_one (e1 b z τ _ rfl h1) hv hH
        refine ⟨0, [], en.set (sx_n a) v, g, h', ?_, f2, f3, Or.inl ⟨rfl, rfl, _, rfl, VL.set (sx_n a) hv f4⟩⟩
        show (evE xs L ck F cW b en (g, hh)).bind _ = _
        rw [f1]
        rfl
      · obtain ⟨h1, h⟩ := j_if h
        cases h
        exact fun en hh hv hH => ⟨0, [], _, g, hh, rfl, hH, FR.rf, Or.inl ⟨rfl, rfl, _, rfl, VL.set (sx_n a) hv (TV.int (in_j32 _))⟩⟩
      · skip
        obtain ⟨⟨h1, h2, h3, h4⟩, h⟩ := j_if h
        cases h
        rcases h4 with ⟨h4, h5⟩ | ⟨h4, h5⟩
        · refine st_put hW (e1 a z τ _ rfl (by omega)) (e1 b z τ _ rfl (isI_0 h5)) h1 h2 h3 (fun _ _ w => w) (fun st v w hw => ⟨fun _ => isI_in h5 hw, fun k => absurd (h4.symm.trans k) (by decide), fun k => absurd (h4.symm.trans k) (by decide)⟩) (fun en st st1 st2 v w k1 k2 _ => ?_)
          show s_putf _ _ _ en st = _
          unfold s_putf
          rw [k1, Option.bind_some, k2]
          rfl
        · refine st_put hW (e1 a z τ _ rfl (by omega)) (e1 b z τ 2 h5 (by decide)) h1 h2 h3 (fun _ _ w => w) (fun st v w hw => ⟨fun k => absurd (h4.symm.trans k) (by decide), fun _ => hw.2.1 rfl, fun k => absurd (h4.symm.trans k) (by decide)⟩) (fun en st st1 st2 v w k1 k2 _ => ?_)
          show s_putf _ _ _ en st = _
          unfold s_putf
          rw [k1, Option.bind_some, k2]
          rfl
      · skip
        obtain ⟨⟨h1, h2, h3, h4, h5⟩, h⟩ := j_if h
        cases h
        refine st_put hW (e1 a z τ _ rfl (by omega)) (e1 b z τ _ rfl (isI_0 h5)) h1 h2 h3 (fun st v w => j_iop (sx_n c % 16) (st.2 v.toNat (sx_n c / 16)) w) (fun st v w hw => ⟨fun _ => iop_in _ _ _, fun k => absurd (h4.symm.trans k) (by decide), fun k => absurd (h4.symm.trans k) (by decide)⟩) (fun en st st1 st2 v w k1 k2 _ => ?_)
        show s_putfC _ _ _ _ en st = _
        unfold s_putfC
        rw [k1, Option.bind_some, k2]
        rfl
      · skip
        obtain ⟨⟨h1, h2, h3, h4, h5⟩, h⟩ := j_if h
        cases h
        refine st_put hW (e1 a z τ _ rfl (by omega)) (e1 b z τ 100 h5 (by decide)) h1 h2 h3 (fun _ _ w => w) (fun st v w hw => ⟨fun k => absurd (h4.symm.trans k) (by decide), fun k => absurd (h4.symm.trans k) (by decide), fun _ => hw.2.2.1 rfl⟩) (fun en st st1 st2 v w k1 k2 hw => ?_)
        show (evE xs L ck F cW a en st).bind _ = _
        rw [k1, Option.bind_some]
        dsimp only
        rw [k2, Option.bind_some]
        exact if_pos (hw.2.2.1 rfl)
      · split at h
        · rename_i us hus
          cases h
          intro en hh hv hH
          obtain ⟨v, h', f1, f2, f3, f4⟩ := e a z τ us hus en hh hv hH
          refine ⟨0, [], en, g, h', ?_, f2, f3, Or.inl ⟨rfl, rfl, _, rfl, hv⟩⟩
          show (evE xs L ck F cW a en (g, hh)).bind _ = _
          rw [f1]
          rfl
        · cases h
      · obtain ⟨h1, h⟩ := first_some h
        obtain ⟨o1, h2, h⟩ := j_bd h
        exact st_if (e a z τ _ h1) (iB.1 z τ o1 h2) st_skip (joins_l h) (joins_r h)
      · obtain ⟨h1, h⟩ := first_some h
        obtain ⟨o1, h2, h⟩ := j_bd h
        obtain ⟨o2, h3, h⟩ := j_bd h
        exact st_if (e a z τ _ h1) (iB.1 z τ o1 h2) (iC.1 z τ o2 h3) (joins_l h) (joins_r h)
      · obtain ⟨h1, h⟩ := first_some h
        obtain ⟨o1, h2, h⟩ := j_bd h
        exact st_if (e a z τ _ h1) (iB.1 z τ o1 h2) st_brk (joins_l h) (joins_r h)
      · split at h
        · rename_i i u c3 hst
          obtain ⟨h1, h⟩ := j_ifx h
          obtain ⟨p1, p2, p3⟩ := step_ok (xs := xs) (L := L) (ck := ck) (F := F) (K := K) (cW := cW) hst
          refine lp_ok (u := u) hK hrt (fun z τ us k => e a z τ us k) (fun en hp v h' k1 k2 k3 k4 z τ us k5 k6 => ?_) (fun _ z τ o k => iB.1 z τ o k) p1 p2 p3 6 τ o h z
          cases u with
          | true =>
            have h1 : lp_up i a = true := h1
            exact up_ok hg hTG hcW hF k6 a hp h' v us h1 k5 k3 k1 k2
          | false =>
            have h1 : lp_dn i a = true := h1
            exact dn_ok hg hTG hcW hF k6 a hp h' v us h1 k5 k3 k1 k2
        · cases h
      · cases h; exact st_brk
      · cases h; exact st_cnt
      · split at h
        · rename_i us hus
          obtain ⟨h1, h⟩ := j_if h
          cases h
          intro en hh hv hH
          obtain ⟨v, h', f1, f2, f3, f4⟩ := e a z τ us hus en hh hv hH
          refine ⟨1, v, en, g, h', ?_, f2, f3, Or.inr (Or.inl ⟨rfl, rfl, VL.sub h1 f4⟩)⟩
          show (evE xs L ck F cW a en (g, hh)).bind _ = _
          rw [f1]
          rfl
        · cases h
      · obtain ⟨⟨h1, h2⟩, h⟩ := j_if h
        cases h
        intro en hh hv hH
        obtain ⟨v, h', f1, f2, f3, f4⟩ := te_one (e1 a z τ 100 h1 (by decide)) hv hH
        refine ⟨1, [v], en, g, h', ?_, f2, f3, Or.inr (Or.inl ⟨rfl, rfl, by rw [h2]; exact ⟨f4, trivial⟩⟩)⟩
        show (evE xs L ck F cW a en (g, hh)).bind _ = _
        rw [f1, Option.bind_some]
        exact if_pos (f4.2.2.1 rfl)
      · obtain ⟨h1, h⟩ := j_if h
        cases h
        exact fun en hh hv hH => ⟨1, [], en, g, hh, rfl, hH, FR.rf, Or.inr (Or.inl ⟨rfl, rfl, by rw [h1]; exact trivial⟩)⟩
      · obtain ⟨h1, h⟩ := j_if h
        cases h
        exact fun en hh hv hH => ⟨4, [], en, (g.1, g.2.1 + 1, g.2.2 + 6), hh, rfl, hH, FR.rf, Or.inr (Or.inr (Or.inr (Or.inr ⟨rfl, h1, rfl⟩)))⟩
      · obtain ⟨h1, h⟩ := first_some h
        obtain ⟨o1, h2, h⟩ := j_bd h
        obtain ⟨ex, h3, h⟩ := j_bd h
        cases h
        exact st_sw (e a z τ _ h1) (iB.2 z τ o1 h2) h3
      · exact iA.1 z τ o h
      · cases h
    · intro z τ o h
      show TotC T g ro z rt thr τ o (nodeS xs L ck F K cW t a b c (evS xs L ck F K cW a) (evS xs L ck F K cW b) (evS xs L ck F K cW c))
      have h : (tySN T rt thr t a b c (tyS T rt thr a) (tyS T rt thr b) (tyS T rt thr c)).2 τ = some o := h
      unfold tySN at h
      dsimp only at h
      split at h
      · obtain ⟨o1, h1, h⟩ := j_bd h
        obtain ⟨h2, h⟩ := j_ifx h
        obtain ⟨q, h3, h⟩ := j_bd h
        exact st_case (iB.1 z τ o1 h1) h2 (iC.2 z τ q h3) (joins_l h) (joins_r h)
      · exact fun v en hh hv hH => iA.1 z τ o h en hh hv hH
      · cases h
  | .var _ => ⟨fun _ _ _ h => (by cases h), fun _ _ _ h => (by cases h)⟩
  | .op (.op _ _) _ => ⟨fun _ _ _ h => (by cases h), fun _ _ _ h => (by cases h)⟩
  | .op (.var _) (.var _) => ⟨fun _ _ _ h => (by cases h), fun _ _ _ h => (by cases h)⟩
  | .op (.var _) (.op _ (.var _)) => ⟨fun _ _ _ h => (by cases h), fun _ _ _ h => (by cases h)⟩
end TYV
end
section
/-! ===== the third reading: methods ===== -/
def t_b1 (t : Nat) : Nat := if t = 100 then 1 else t
/-- what a method that may throw is known to do -/
def TotX (T : TT) (g : XS × Nat × Nat) (ro : Nat → Nat → Bool) (F : XP) (f : Nat) : Prop :=
  ∀ (av : List Int) (h : XH), HT T.1 g.1 h → VL (fun _ => 0) g.1 (T.2.1 f) av → ∃ c r g' h', F f av (g, h) = some (c, r, (g', h')) ∧ HT T.1 g.1 h' ∧ FR ro h h' ∧ ((c = 1 ∧ g' = g ∧ VL (fun _ => 0) g.1 (T.2.2.1 f) r) ∨ (c = 4 ∧ g' = (g.1, g.2.1 + 1, g.2.2 + 6)))
def tyMk (T : TT) (M : Nat → XM) (f : Nat) : Bool := decide ((M f).2.2.1 = (T.2.1 f).map t_b1) && (T.2.2.1 f).all (fun t => Nat.blt t 300)
section TYM
variable {xs : Nat → Int} {L K : Nat} {ck : Nat → List Nat} {cW : Nat → Nat → Int} {T : TT} {g : XS × Nat × Nat} {ro : Nat → Nat → Bool} {z : Nat → Int} {M : Nat → XM} {THR : Nat → Bool}
theorem VL_lay : ∀ {pk : List Nat} {av : List Int}, VL z g.1 pk av → VL z g.1 (j_layT pk) (j_lay (pk.map t_b1) av)
  | [], [], _ => trivial
  | k :: pk, v :: av, h => by
    by_cases h2 : k = 2
    · subst h2
      exact ⟨h.1, TV.zero, VL_lay h.2⟩
    · have h3 : t_b1 k ≠ 2 := by
        unfold t_b1
        split <;> omega
      show VL z g.1 (if k = 2 then 2 :: 0 :: j_layT pk else k :: j_layT pk) (if t_b1 k = 2 then v :: 0 :: j_lay (pk.map t_b1) av else v :: j_lay (pk.map t_b1) av)
      rw [if_neg h2, if_neg h3]
      exact ⟨h.1, VL_lay h.2⟩
  | [], _ :: _, h => h.elim
  | _ :: _, [], h => h.elim
theorem VL_rep : ∀ n, VL z g.1 (List.replicate n 0) (List.replicate n 0)
  | 0 => trivial
  | n + 1 => ⟨TV.zero, VL_rep n⟩
theorem VL_pad {n : Nat} {ts : List Nat} {vs : List Int} (h : VL z g.1 ts vs) : VL z g.1 (j_pad 0 n ts) (j_pad 0 n vs) := by
  unfold j_pad
  rw [VL.len h]
  exact VL.app h (VL_rep _)
theorem chk_1 {g : XS × Nat × Nat} {c : Nat} (hc : c = 1 ∨ c = 4) {g' : XS × Nat × Nat} (hg : g' = g ∨ g' = (g.1, g.2.1 + 1, g.2.2 + 6)) : (c = 1 ∨ c = 4) ∧ g.2.1 ≤ g'.2.1 ∧ g.2.2 ≤ g'.2.2 ∧ (g.1.map (·.1)).isPrefixOf (g'.1.map (·.1)) = true := by
  rcases hg with rfl | rfl
  · exact ⟨hc, Nat.le_refl _, Nat.le_refl _, List.isPrefixOf_iff_prefix.mpr (List.prefix_refl _)⟩
  · exact ⟨hc, Nat.le_succ _, Nat.le_add_right _ _, List.isPrefixOf_iff_prefix.mpr (List.prefix_refl _)⟩
theorem ty_X (hg : GG T.1 g.1) (hTG : TG T) (hcW : ∀ k, k < 24 → InL (cW 0 k) ∧ InI (cW 1 k)) (hW : WK T g.1 ro) (hK : 4294967300 ≤ K) {n f : Nat} (hF : ∀ f, T.2.2.2.1 f = true → TotF T g ro (evF xs L ck K cW M n) f) (h : tyM T M THR f = true) (hk : tyMk T M f = true) : TotX T g ro (evF xs L ck K cW M (n + 1)) f ∧ (THR f = false → TotF T g ro (evF xs L ck K cW M (n + 1)) f) := by
  simp only [tyMk, Bool.and_eq_true, decide_eq_true_eq] at hk
  have key : ∀ (av : List Int) (h : XH), HT T.1 g.1 h → VL (fun _ => 0) g.1 (T.2.1 f) av → ∃ c r g' h', evF xs L ck K cW M (n + 1) f av (g, h) = some (c, r, (g', h')) ∧ HT T.1 g.1 h' ∧ FR ro h h' ∧ ((c = 1 ∧ g' = g ∧ VL (fun _ => 0) g.1 (T.2.2.1 f) r) ∨ (c = 4 ∧ THR f = true ∧ g' = (g.1, g.2.1 + 1, g.2.2 + 6))) := by
    intro av hh hH hv
    unfold tyM at h
    split at h
    · rename_i ho
      have hS := (ty_S (xs := xs) (L := L) (ck := ck) hg hTG hcW hF hW hK hk.2 (M f).2.2.2.2).1 (fun _ => 0) _ _ ho
      obtain ⟨c, vals, en', g', h', e1, e2, e3, e4⟩ := hS _ hh (VL_pad (VL_lay hv)) hH
      rw [evF_s, hk.1, e1, Option.bind_some]
      rcases e4 with ⟨-, -, τ, k, -⟩ | ⟨rfl, rfl, k⟩ | ⟨-, -, τ, k, -⟩ | ⟨-, -, τ, k, -⟩ | ⟨rfl, k1, k2⟩
      · cases k
      · exact ⟨1, vals, g', h', if_pos (chk_1 (Or.inl rfl) (Or.inl rfl)), e2, e3, Or.inl ⟨rfl, rfl, k⟩⟩
      · cases k
      · cases k
      · exact ⟨4, vals, g', h', if_pos (chk_1 (Or.inr rfl) (Or.inr k2)), e2, e3, Or.inr ⟨rfl, k1, k2⟩⟩
    · cases h
  refine ⟨fun av hh hH hv => ?_, fun hn av hh hH hv => ?_⟩
  · obtain ⟨c, r, g', h', e1, e2, e3, e4⟩ := key av hh hH hv
    refine ⟨c, r, g', h', e1, e2, e3, e4.imp id (fun k => ⟨k.1, k.2.2⟩)⟩
  · obtain ⟨c, r, g', h', e1, e2, e3, e4⟩ := key av hh hH hv
    rcases e4 with ⟨rfl, rfl, k⟩ | ⟨-, k, -⟩
    · exact ⟨r, h', e1, e2, e3, k⟩
    · rw [hn] at k; cases k
end TYM
end
section
/-! ===== the third reading: this claim's tables (written by wip/tools/tytab.py) ===== -/
def g_fk : Nat → List Nat := fun c => [[16, 15, 15, 13, 13, 12, 12, 12, 12, 14, 18, 17, 17, 100, 100, 1], [17, 17, 17, 1, 1, 1], [17, 17, 17, 17, 17, 17, 17, 17, 17, 17, 1, 1], [17, 17, 17, 17, 1], [17, 1], [7, 17, 17, 17, 17, 17, 17, 17, 11, 1, 1, 1, 1], [19, 17, 1, 1, 1, 2, 1, 100, 100], [6], [17, 17, 17, 17, 17, 17, 17, 17, 17, 17, 1], [8, 1, 1, 1, 1, 1, 2], [1, 6, 1, 1, 6, 6, 7, 1, 1, 7, 6, 6, 1, 7, 6, 6, 6, 6, 1, 1, 9, 6, 6, 6, 6, 1, 7, 6, 7, 2]].getD c []
def g_PT : Nat → List Nat := t_at [[[10], [10, 2, 2, 2], [10], [10], [10], [10, 1, 1], [10, 1, 1], [10, 1, 1], [10, 1, 1, 1], [10, 1, 1, 1], [10, 1, 1], [10], [10], [10, 1], [10, 1, 1], [10, 1, 1]],
  [[10, 1, 1], [10, 1], [10, 1, 1], [10, 1, 1], [10, 1, 1], [10, 1], [10, 1], [10, 1, 1], [10, 1], [10], [10], [10, 1, 1, 1], [10, 1, 1, 1], [10, 1], [10], [10, 1, 1]],
  [[10, 1, 1], [10, 1, 1, 1, 1], [10, 1, 1], [10, 1], [10], [10], [10, 1], [10, 1], [10, 1, 1, 100], [10], [10], [10, 1, 1, 1], [10, 1, 1], [2], [2, 1], [10]],
  [[10, 1, 100], [10, 100], [10, 100], [10, 1], [10], [17, 1], [17, 1], [17, 1, 1], [17, 1, 1], [17, 1], [17, 17], [17, 1], [19], [19], [19, 2], [19]],
  [[19], [19], [19], [19, 1], [19, 1], [1], [1], [1], [19], [19], [19, 1], [19], [19], [19], [11], [11]],
  [[11, 11], [11, 19], [19], [19], [1], [11, 1], [11, 1], [11, 1], [11], [11, 1], [11], [11, 1], [11, 1, 1, 1, 1], [1, 1, 1, 1, 1], [1, 1, 1], [15]],
  [[15], [15, 15], [15, 2, 1, 17, 1], [15, 2], [15, 2, 1, 1, 1], [15, 1, 2], [15, 2], [15, 2], [15, 2], [15, 2, 1, 1], [15, 2], [15, 1], [15, 1], [15, 1], [15, 1], [15, 1, 1]],
  [[15, 1, 1, 1], [15, 1], [15, 1], [13], [13, 1, 1, 1, 1], [13, 13], [16], [16, 15], [16, 15, 13], [3], [16, 15], [16, 15], [16, 15], [16, 15], [16, 15], [3]],
  [[16, 15], [16, 15, 13], [16, 15, 13], [16, 15, 13], [16, 13], [16, 1], [16], [16, 3], [16, 1, 1], [16, 1], [16], [16, 1], [16, 15], [12], [12, 15], [12, 12]],
  [[12, 13, 1], [12], [12, 1, 1], [12, 1, 1, 1], [12, 1], [12, 1], [12, 1, 1], [12, 1, 1, 1], [12, 15, 1, 1], [12, 15, 1, 1], [12, 15, 1, 1, 1, 1], [12, 1, 1], [12, 1, 1, 1], [12, 1, 1, 1], [12, 1], [12, 1, 1, 1]],
  [[12, 1, 1, 1, 1], [12], [12, 1, 1, 1], [12, 15, 1], [12, 1, 1, 1], [12, 1, 1, 100], [12, 1, 1], [14], [14, 12, 1, 1, 1], [14, 12], [14, 12, 1, 1], [18], [18, 15, 12, 1], [18, 15, 1], [18, 15, 1], [18, 1, 17, 1, 17]],
  [[18, 15, 12, 17], [18, 15, 12], [18, 15, 12, 1], [18, 15, 12], [18, 15, 1], [18, 15, 12], [20], [20, 2, 2, 2], [20, 2], [20], [1], [1], [1], [1], [20], [20, 1]],
  [[20, 1], [20, 1], [20, 1], [20, 1], [20, 1], [20, 1], [1, 1, 1], [20, 1], [20, 1, 1], [20, 1, 1], [20, 1, 1], [20], [20, 1, 1], [20, 1, 1], [20], [20, 1]],
  [[20, 1, 1, 1], [20, 1], [20], [20, 1, 1], [20], [20], [20], [20, 1, 1], [20, 1, 1], [20, 1], [20, 1], [20, 1], [20, 1], [20, 1], [20, 1], [1, 1, 1]],
  [[20, 1, 1, 1], [20], [20], [20], [20], [20, 1], [20, 1], [20, 1], [20, 1, 1], [20, 1], [20, 1], [20, 1], [20, 1], [20, 1], [20, 1], [20, 1, 1]],
  [[20, 1], [20], [20], [20, 1, 1, 1], [20, 1, 1, 1], [20, 1, 1, 1], [1, 1, 1], [20, 1, 1, 1, 1], [20, 1, 1, 1, 1, 1], [20, 1, 1, 1], [20, 1, 1, 1], [20, 1, 1], [20, 1], [20, 1, 1], [20, 1, 1], [20, 1]],
  [[20, 1, 1, 1], [20, 1, 1, 1], [20, 1, 1], [20, 1], [20, 1], [20, 1, 1], [20, 1, 1], [20, 1, 1], [20, 1, 1, 1, 1], [20, 1, 1, 1], [20, 1, 1, 1, 1], [20, 1, 1, 1], [20, 1, 1], [20, 1, 1, 1, 1], [20, 1], [20]],
  [[20], [20, 1], [20, 100], [20, 1, 1], [20, 1, 1], [20, 1, 1], [20, 1], [20, 1, 1], [20, 1, 1], [20, 1, 1], [20, 1], [20, 1], [20, 1, 1], [20, 1, 1], [20, 1], [20, 1]],
  [[20], [20], [20, 1, 1, 1], [20, 1], [20, 1, 1, 1], [20, 1, 1, 1], [20, 1], [20], [20, 1, 1], [20, 1, 1], [20], [20, 1, 1, 1, 1], [20, 1, 1], [20, 1], [20, 1], [20]],
  [[20, 1, 1, 100], [20], [20], [20], [20, 1, 1], [20, 1], [20, 1, 1, 1], [20, 1, 100], [20], [20, 1], [10, 1, 7], [10, 1, 1, 7], [10, 1, 1, 7], [10, 1, 1, 7], [10, 1, 7], [10, 1, 1, 7]],
  [[10, 1, 1, 7], [10, 1, 1, 7], [10, 1, 7], [10, 1, 7], [10, 1, 1, 1, 7], [10, 1, 1, 1, 7], [10, 1, 7], [10, 1, 1, 7], [10, 1, 1, 7], [10, 1, 1, 1, 1, 7], [10, 1, 1, 7], [10, 1, 1, 1, 7], [], [2, 1], [1], [1]],
  [[1, 1], [1, 1], [], [], [], [], [], [], [], [], [], [], [], [], [], []]] []
def g_RY : Nat → List Nat := t_at [[[], [1], [1], [], [1], [1], [1], [1], [1], [1], [1], [1], [100], [1], [1], [1]],
  [[1], [1], [1], [1], [1], [1], [1], [1], [1], [1], [1], [1], [1], [1], [1], [1]],
  [[1], [1], [1], [1], [1], [], [1], [1], [100], [1], [1], [1], [], [2], [1], [1]],
  [[100], [100], [100], [1], [1], [], [1], [], [], [], [], [], [], [], [], []],
  [[], [], [], [1], [1], [100], [100], [100], [100], [100], [100], [1], [100], [3], [], []],
  [[], [1], [1], [1], [1], [100], [100], [100], [1], [], [], [], [1], [1], [1], []],
  [[], [], [], [], [], [], [1], [1], [1], [1], [100], [100], [100], [100], [100], [100]],
  [[100], [1], [1], [], [], [], [], [1], [1], [100], [100], [100], [100], [100], [100], [1]],
  [[100], [100], [100], [100], [100], [100], [100], [100], [100], [100], [100], [100], [100], [], [], []],
  [[100], [100], [1], [], [], [1], [1], [1], [100], [1], [1], [1], [], [], [100], [1]],
  [[], [1], [1], [], [], [100], [100], [], [], [100], [], [], [], [], [], []],
  [[], [1], [1], [1], [1], [], [1], [1], [], [], [100], [100], [1], [100], [], []],
  [[100], [100], [], [100], [100], [], [100], [], [1], [1], [1], [100], [1], [1], [1], [1]],
  [[], [100], [], [1], [], [], [1], [], [], [], [], [], [], [], [1], [1]],
  [[], [1], [1], [1], [1], [1], [1], [1], [1], [1], [1], [100], [100], [100], [100], [100]],
  [[], [], [], [1], [1], [1], [1], [1], [1], [1], [1], [], [1], [1], [], []],
  [[1], [1], [1], [1], [1], [1], [1], [1], [], [1], [], [1], [1], [], [], [1]],
  [[100], [1], [100], [1], [1], [1], [1], [1], [1], [1], [1], [1], [1], [1], [1], [1]],
  [[1], [1], [1], [100], [1], [1], [1], [1], [1], [1], [], [1], [1], [1], [1], [1]],
  [[100], [1], [1], [1], [1], [1], [1], [100], [1], [1], [1], [1], [1], [1], [1], [1]],
  [[1], [1], [1], [1], [1], [1], [1], [1], [1], [1], [1], [1], [], [2], [1], [1]],
  [[1], [1], [], [], [], [], [], [], [], [], [], [], [], [], [], []]] []
def g_dp : Nat → Nat := t_at [[99999, 99999, 99999, 3, 99999, 3, 2, 3, 4, 3, 3, 5, 4, 6, 4, 4],
  [4, 4, 4, 4, 4, 5, 3, 3, 5, 5, 4, 2, 2, 5, 2, 2],
  [2, 6, 6, 6, 6, 2, 5, 5, 2, 4, 5, 6, 2, 0, 0, 5],
  [3, 2, 2, 4, 3, 99999, 0, 0, 0, 0, 0, 0, 99999, 99999, 99999, 3],
  [2, 1, 1, 1, 0, 0, 0, 0, 0, 0, 0, 0, 1, 0, 99999, 1],
  [1, 3, 1, 1, 0, 1, 2, 2, 2, 1, 1, 1, 1, 0, 0, 99999],
  [2, 2, 1, 1, 1, 0, 1, 1, 1, 99999, 2, 0, 0, 0, 0, 2],
  [3, 1, 1, 99999, 1, 1, 99999, 5, 5, 0, 4, 4, 4, 4, 4, 0],
  [4, 4, 4, 4, 4, 0, 3, 3, 3, 3, 2, 3, 3, 99999, 2, 1],
  [2, 0, 1, 1, 2, 2, 1, 1, 2, 2, 1, 1, 1, 1, 0, 1],
  [1, 1, 1, 3, 2, 1, 1, 99999, 2, 3, 2, 99999, 3, 2, 1, 1],
  [4, 5, 4, 4, 1, 4, 99999, 99999, 99999, 99999, 99999, 99999, 99999, 99999, 99999, 99999],
  [99999, 99999, 99999, 99999, 99999, 99999, 99999, 99999, 99999, 99999, 99999, 99999, 99999, 99999, 99999, 99999],
  [99999, 99999, 99999, 99999, 99999, 99999, 99999, 99999, 99999, 99999, 99999, 99999, 99999, 99999, 99999, 99999],
  [99999, 99999, 99999, 99999, 99999, 99999, 99999, 99999, 99999, 99999, 99999, 99999, 99999, 99999, 99999, 99999],
  [99999, 99999, 99999, 99999, 99999, 99999, 99999, 99999, 99999, 99999, 99999, 99999, 99999, 99999, 99999, 99999],
  [99999, 99999, 99999, 99999, 99999, 99999, 99999, 99999, 99999, 99999, 99999, 99999, 99999, 99999, 99999, 99999],
  [99999, 99999, 99999, 99999, 99999, 99999, 99999, 99999, 99999, 99999, 99999, 99999, 99999, 99999, 99999, 99999],
  [99999, 99999, 99999, 99999, 99999, 99999, 99999, 99999, 99999, 99999, 99999, 99999, 99999, 99999, 99999, 99999],
  [99999, 99999, 99999, 99999, 99999, 99999, 99999, 99999, 99999, 99999, 99999, 99999, 99999, 99999, 99999, 99999],
  [99999, 99999, 99999, 99999, 99999, 99999, 99999, 99999, 99999, 99999, 99999, 99999, 99999, 0, 0, 0],
  [0, 0, 99999, 99999, 99999, 99999, 99999, 99999, 99999, 99999, 99999, 99999, 99999, 99999, 99999, 99999]] 99999
def g_hd (f : Nat) : Bool := [54, 55, 56, 57, 58, 59, 68, 77, 97, 98, 101, 102, 103, 104, 151].any (fun q => Nat.beq q f)
def g_wk (ci k : Nat) : Bool := Nat.blt ci 10 && !(Nat.beq ci 9 && Nat.beq k 1)
def g_T (d : Nat) : TT := (g_fk, g_PT, g_RY, fun f => Nat.blt (g_dp f) d && !g_THR f, g_wk)
/-- the tape's length, and all that is the reference's -/
def g_ro (o k : Nat) : Bool := (Nat.beq o 2 && Nat.beq k 1) || Nat.ble 182 o || Nat.beq o 3
def g_gg (fk : Nat → List Nat) (g : XS) : Bool := (List.range g.length).all fun o => match g[o]? with
  | some c => decide (c.1 < 100) && decide (c.2.1 < 2147483648) && (decide (c.1 < 10) || (List.range (fk (c.1 - 10)).length).all fun k => decide ((fk (c.1 - 10)).getD k 0 < 6) || decide (100 ≤ (fk (c.1 - 10)).getD k 0) || (match j_rf g o k with
    | some r => decide (0 ≤ r) && (match g[r.toNat]? with
      | some c' => decide (c'.1 = (fk (c.1 - 10)).getD k 0)
      | none => false)
    | none => false))
  | none => true
theorem g_gg_ok {fk : Nat → List Nat} {g : XS} (h : g_gg fk g = true) : GG fk g := by
  have key : ∀ (o : Nat) (c : XC), g[o]? = some c → _ := fun o c hc => by
    have h1 := List.all_eq_true.mp h o (List.mem_range.mpr (List.getElem?_eq_some_iff.mp hc).1)
    rw [hc] at h1
    exact h1
  refine ⟨fun o c hc => ?_, fun o c ci k kd hc e hk h6 h7 => ?_⟩
  · have h1 := key o c hc
    simp only [Bool.and_eq_true, decide_eq_true_eq] at h1
    exact h1.1
  · have h1 := key o c hc
    simp only [Bool.and_eq_true, Bool.or_eq_true, decide_eq_true_eq] at h1
    have eci : c.1 - 10 = ci := by omega
    rw [eci] at h1
    have h2 := List.all_eq_true.mp (h1.2.resolve_left (by omega)) k (List.mem_range.mpr (List.getElem?_eq_some_iff.mp hk).1)
    have ekd : (fk ci).getD k 0 = kd := by rw [List.getD_eq_getElem?_getD, hk]; rfl
    rw [ekd] at h2
    simp only [Bool.or_eq_true, decide_eq_true_eq] at h2
    have h3 := h2.resolve_left (by omega)
    split at h3
    · rename_i r hr
      rw [Bool.and_eq_true] at h3
      obtain ⟨h4, h5⟩ := h3
      split at h5
      · rename_i c' hc'
        exact ⟨r, hr, of_decide_eq_true h4, c', hc', of_decide_eq_true h5⟩
      · cases h5
    · cases h3
theorem g_GG : GG g_fk a_g3 := g_gg_ok (by decide +kernel)
theorem g_wk1 : (List.range a_g3.length).all (fun o => match a_g3[o]? with
  | some c => Nat.blt o 182 || decide (c.1 < 10) || decide (20 ≤ c.1)
  | none => true) = true := by decide +kernel
theorem g_wk2 : (a_g3[2]?).map (fun c => c.1) = some 19 := by decide +kernel
theorem g_wk3 : (a_g3[3]?).map (fun c => c.1) = some 8 := by decide +kernel
theorem g_WK (d : Nat) : WK (g_T d) a_g3 g_ro := by
  intro ci k hw o c hc e
  have hw : g_wk ci k = true := hw
  cases hr : g_ro o k with
  | false => rfl
  | true =>
    exfalso
    simp only [g_ro, Bool.or_eq_true, Bool.and_eq_true, Nat.beq_eq, Nat.ble_eq] at hr
    simp only [g_wk, Bool.and_eq_true, Bool.not_eq_true', Nat.blt_eq] at hw
    rcases hr with (⟨rfl, rfl⟩ | hr) | rfl
    · have h2 := g_wk2
      rw [hc] at h2
      have h3 : c.1 = 19 := Option.some.inj h2
      have h4 : ci = 9 := by omega
      subst h4
      exact absurd hw.2 (by decide)
    · have h1 := List.all_eq_true.mp g_wk1 o (List.mem_range.mpr (List.getElem?_eq_some_iff.mp hc).1)
      rw [hc] at h1
      simp only [Bool.or_eq_true, decide_eq_true_eq, Nat.blt_eq] at h1
      omega
    · have h2 := g_wk3
      rw [hc] at h2
      have h3 : c.1 = 8 := Option.some.inj h2
      omega
def g_tc (f : Nat) : Bool := tyM (g_T (g_dp f)) g_M g_THR f && tyMk (g_T 0) g_M f
def g_tk (f : Nat) : Bool := Nat.beq (g_dp f) 99999 || g_hd f || g_tc f
def g_tg (f : Nat) : Bool := (g_PT f).all (fun t => Nat.blt t 300) && (g_RY f).all (fun t => Nat.blt t 300)
theorem tk_0 : ∀ f, 0 ≤ f → f < 16 → g_tk f = true ∧ g_tg f = true := by
  have h : (List.range 16).all (fun k => g_tk (0 + k) && g_tg (0 + k)) = true := by decide +kernel
  intro f h1 h2
  have h3 := List.all_eq_true.mp h (f - 0) (List.mem_range.mpr (by omega))
  rw [show 0 + (f - 0) = f by omega, Bool.and_eq_true] at h3
  exact h3
theorem tk_1 : ∀ f, 16 ≤ f → f < 32 → g_tk f = true ∧ g_tg f = true := by
  have h : (List.range 16).all (fun k => g_tk (16 + k) && g_tg (16 + k)) = true := by decide +kernel
  intro f h1 h2
  have h3 := List.all_eq_true.mp h (f - 16) (List.mem_range.mpr (by omega))
  rw [show 16 + (f - 16) = f by omega, Bool.and_eq_true] at h3
  exact h3
theorem tk_2 : ∀ f, 32 ≤ f → f < 48 → g_tk f = true ∧ g_tg f = true := by
  have h : (List.range 16).all (fun k => g_tk (32 + k) && g_tg (32 + k)) = true := by decide +kernel
  intro f h1 h2
  have h3 := List.all_eq_true.mp h (f - 32) (List.mem_range.mpr (by omega))
  rw [show 32 + (f - 32) = f by omega, Bool.and_eq_true] at h3
  exact h3
theorem tk_3 : ∀ f, 48 ≤ f → f < 64 → g_tk f = true ∧ g_tg f = true := by
  have h : (List.range 16).all (fun k => g_tk (48 + k) && g_tg (48 + k)) = true := by decide +kernel
  intro f h1 h2
  have h3 := List.all_eq_true.mp h (f - 48) (List.mem_range.mpr (by omega))
  rw [show 48 + (f - 48) = f by omega, Bool.and_eq_true] at h3
  exact h3
theorem tk_4 : ∀ f, 64 ≤ f → f < 80 → g_tk f = true ∧ g_tg f = true := by
  have h : (List.range 16).all (fun k => g_tk (64 + k) && g_tg (64 + k)) = true := by decide +kernel
  intro f h1 h2
  have h3 := List.all_eq_true.mp h (f - 64) (List.mem_range.mpr (by omega))
  rw [show 64 + (f - 64) = f by omega, Bool.and_eq_true] at h3
  exact h3
theorem tk_5 : ∀ f, 80 ≤ f → f < 96 → g_tk f = true ∧ g_tg f = true := by
  have h : (List.range 16).all (fun k => g_tk (80 + k) && g_tg (80 + k)) = true := by decide +kernel
  intro f h1 h2
  have h3 := List.all_eq_true.mp h (f - 80) (List.mem_range.mpr (by omega))
  rw [show 80 + (f - 80) = f by omega, Bool.and_eq_true] at h3
  exact h3
theorem tk_6 : ∀ f, 96 ≤ f → f < 112 → g_tk f = true ∧ g_tg f = true := by
  have h : (List.range 16).all (fun k => g_tk (96 + k) && g_tg (96 + k)) = true := by decide +kernel
  intro f h1 h2
  have h3 := List.all_eq_true.mp h (f - 96) (List.mem_range.mpr (by omega))
  rw [show 96 + (f - 96) = f by omega, Bool.and_eq_true] at h3
  exact h3
theorem tk_7 : ∀ f, 112 ≤ f → f < 128 → g_tk f = true ∧ g_tg f = true := by
  have h : (List.range 16).all (fun k => g_tk (112 + k) && g_tg (112 + k)) = true := by decide +kernel
  intro f h1 h2
  have h3 := List.all_eq_true.mp h (f - 112) (List.mem_range.mpr (by omega))
  rw [show 112 + (f - 112) = f by omega, Bool.and_eq_true] at h3
  exact h3
theorem tk_8 : ∀ f, 128 ≤ f → f < 144 → g_tk f = true ∧ g_tg f = true := by
  have h : (List.range 16).all (fun k => g_tk (128 + k) && g_tg (128 + k)) = true := by decide +kernel
  intro f h1 h2
  have h3 := List.all_eq_true.mp h (f - 128) (List.mem_range.mpr (by omega))
  rw [show 128 + (f - 128) = f by omega, Bool.and_eq_true] at h3
  exact h3
theorem tk_9 : ∀ f, 144 ≤ f → f < 160 → g_tk f = true ∧ g_tg f = true := by
  have h : (List.range 16).all (fun k => g_tk (144 + k) && g_tg (144 + k)) = true := by decide +kernel
  intro f h1 h2
  have h3 := List.all_eq_true.mp h (f - 144) (List.mem_range.mpr (by omega))
  rw [show 144 + (f - 144) = f by omega, Bool.and_eq_true] at h3
  exact h3
theorem tk_10 : ∀ f, 160 ≤ f → f < 176 → g_tk f = true ∧ g_tg f = true := by
  have h : (List.range 16).all (fun k => g_tk (160 + k) && g_tg (160 + k)) = true := by decide +kernel
  intro f h1 h2
  have h3 := List.all_eq_true.mp h (f - 160) (List.mem_range.mpr (by omega))
  rw [show 160 + (f - 160) = f by omega, Bool.and_eq_true] at h3
  exact h3
theorem tk_11 : ∀ f, 176 ≤ f → f < 192 → g_tk f = true ∧ g_tg f = true := by
  have h : (List.range 16).all (fun k => g_tk (176 + k) && g_tg (176 + k)) = true := by decide +kernel
  intro f h1 h2
  have h3 := List.all_eq_true.mp h (f - 176) (List.mem_range.mpr (by omega))
  rw [show 176 + (f - 176) = f by omega, Bool.and_eq_true] at h3
  exact h3
theorem tk_12 : ∀ f, 192 ≤ f → f < 208 → g_tk f = true ∧ g_tg f = true := by
  have h : (List.range 16).all (fun k => g_tk (192 + k) && g_tg (192 + k)) = true := by decide +kernel
  intro f h1 h2
  have h3 := List.all_eq_true.mp h (f - 192) (List.mem_range.mpr (by omega))
  rw [show 192 + (f - 192) = f by omega, Bool.and_eq_true] at h3
  exact h3
theorem tk_13 : ∀ f, 208 ≤ f → f < 224 → g_tk f = true ∧ g_tg f = true := by
  have h : (List.range 16).all (fun k => g_tk (208 + k) && g_tg (208 + k)) = true := by decide +kernel
  intro f h1 h2
  have h3 := List.all_eq_true.mp h (f - 208) (List.mem_range.mpr (by omega))
  rw [show 208 + (f - 208) = f by omega, Bool.and_eq_true] at h3
  exact h3
theorem tk_14 : ∀ f, 224 ≤ f → f < 240 → g_tk f = true ∧ g_tg f = true := by
  have h : (List.range 16).all (fun k => g_tk (224 + k) && g_tg (224 + k)) = true := by decide +kernel
  intro f h1 h2
  have h3 := List.all_eq_true.mp h (f - 224) (List.mem_range.mpr (by omega))
  rw [show 224 + (f - 224) = f by omega, Bool.and_eq_true] at h3
  exact h3
theorem tk_15 : ∀ f, 240 ≤ f → f < 256 → g_tk f = true ∧ g_tg f = true := by
  have h : (List.range 16).all (fun k => g_tk (240 + k) && g_tg (240 + k)) = true := by decide +kernel
  intro f h1 h2
  have h3 := List.all_eq_true.mp h (f - 240) (List.mem_range.mpr (by omega))
  rw [show 240 + (f - 240) = f by omega, Bool.and_eq_true] at h3
  exact h3
theorem tk_16 : ∀ f, 256 ≤ f → f < 272 → g_tk f = true ∧ g_tg f = true := by
  have h : (List.range 16).all (fun k => g_tk (256 + k) && g_tg (256 + k)) = true := by decide +kernel
  intro f h1 h2
  have h3 := List.all_eq_true.mp h (f - 256) (List.mem_range.mpr (by omega))
  rw [show 256 + (f - 256) = f by omega, Bool.and_eq_true] at h3
  exact h3
theorem tk_17 : ∀ f, 272 ≤ f → f < 288 → g_tk f = true ∧ g_tg f = true := by
  have h : (List.range 16).all (fun k => g_tk (272 + k) && g_tg (272 + k)) = true := by decide +kernel
  intro f h1 h2
  have h3 := List.all_eq_true.mp h (f - 272) (List.mem_range.mpr (by omega))
  rw [show 272 + (f - 272) = f by omega, Bool.and_eq_true] at h3
  exact h3
theorem tk_18 : ∀ f, 288 ≤ f → f < 304 → g_tk f = true ∧ g_tg f = true := by
  have h : (List.range 16).all (fun k => g_tk (288 + k) && g_tg (288 + k)) = true := by decide +kernel
  intro f h1 h2
  have h3 := List.all_eq_true.mp h (f - 288) (List.mem_range.mpr (by omega))
  rw [show 288 + (f - 288) = f by omega, Bool.and_eq_true] at h3
  exact h3
theorem tk_19 : ∀ f, 304 ≤ f → f < 320 → g_tk f = true ∧ g_tg f = true := by
  have h : (List.range 16).all (fun k => g_tk (304 + k) && g_tg (304 + k)) = true := by decide +kernel
  intro f h1 h2
  have h3 := List.all_eq_true.mp h (f - 304) (List.mem_range.mpr (by omega))
  rw [show 304 + (f - 304) = f by omega, Bool.and_eq_true] at h3
  exact h3
theorem tk_20 : ∀ f, 320 ≤ f → f < 336 → g_tk f = true ∧ g_tg f = true := by
  have h : (List.range 16).all (fun k => g_tk (320 + k) && g_tg (320 + k)) = true := by decide +kernel
  intro f h1 h2
  have h3 := List.all_eq_true.mp h (f - 320) (List.mem_range.mpr (by omega))
  rw [show 320 + (f - 320) = f by omega, Bool.and_eq_true] at h3
  exact h3
theorem tk_21 : ∀ f, 336 ≤ f → f < 352 → g_tk f = true ∧ g_tg f = true := by
  have h : (List.range 16).all (fun k => g_tk (336 + k) && g_tg (336 + k)) = true := by decide +kernel
  intro f h1 h2
  have h3 := List.all_eq_true.mp h (f - 336) (List.mem_range.mpr (by omega))
  rw [show 336 + (f - 336) = f by omega, Bool.and_eq_true] at h3
  exact h3
theorem tk_all : ∀ f, g_tk f = true ∧ g_tg f = true := fun f => by
  by_cases h : f < 352
  · exact (ab_two (b := 176) (ab_two (b := 80) (ab_two (b := 32) (ab_two (b := 16) (tk_0) (tk_1)) (ab_two (b := 48) (tk_2) (ab_two (b := 64) (tk_3) (tk_4)))) (ab_two (b := 128) (ab_two (b := 96) (tk_5) (ab_two (b := 112) (tk_6) (tk_7))) (ab_two (b := 144) (tk_8) (ab_two (b := 160) (tk_9) (tk_10))))) (ab_two (b := 256) (ab_two (b := 208) (ab_two (b := 192) (tk_11) (tk_12)) (ab_two (b := 224) (tk_13) (ab_two (b := 240) (tk_14) (tk_15)))) (ab_two (b := 304) (ab_two (b := 272) (tk_16) (ab_two (b := 288) (tk_17) (tk_18))) (ab_two (b := 320) (tk_19) (ab_two (b := 336) (tk_20) (tk_21))))) : ∀ f, 0 ≤ f → f < 352 → g_tk f = true ∧ g_tg f = true) f (Nat.zero_le f) h
  · have e1 : g_dp f = 99999 := by
      unfold g_dp
      exact t_out (by show 352 ≤ f; omega)
    have e2 : g_PT f = [] := by
      unfold g_PT
      exact t_out (by show 352 ≤ f; omega)
    have e3 : g_RY f = [] := by
      unfold g_RY
      exact t_out (by show 352 ≤ f; omega)
    unfold g_tk g_tg
    rw [e1, e2, e3]
    exact ⟨rfl, rfl⟩
theorem g_TG (d : Nat) : TG (g_T d) := fun f _ => by
  have h := (tk_all f).2
  rw [g_tg, Bool.and_eq_true] at h
  exact h
end
section
/-! ===== loops by an invariant; the class's leaves by hand ===== -/
/-- a loop: from each state of the invariant it ends, or goes on to one with a smaller measure -/
theorem lp_gen {g : XS × Nat × Nat} {C' : XE} {B' P' : XR} {Inv Done : List Int → XH → Prop} {Ret : List Int → XH → Prop} {mea : List Int → XH → Nat}
    (hs : ∀ en h, Inv en h → (∃ h', C' en (g, h) = some ([0], (g, h')) ∧ Done en h') ∨ ∃ v h1, v ≠ 0 ∧ C' en (g, h) = some ([v], (g, h1)) ∧ ∃ c vals en1 h2, B' en (g, h1) = some (c, vals, en1, (g, h2)) ∧
      (((c = 0 ∨ c = 3) ∧ ∃ en2 h3, P' en1 (g, h2) = some (0, [], en2, (g, h3)) ∧ Inv en2 h3 ∧ mea en2 h3 < mea en h) ∨ (c = 2 ∧ Done en1 h2) ∨ (c = 1 ∧ Ret vals h2))) :
    ∀ (k m : Nat) (en : List Int) (h : XH), Inv en h → mea en h ≤ m → m < k → (∃ en' h', s_loop C' B' P' k en (g, h) = some (0, [], en', (g, h')) ∧ Done en' h') ∨ ∃ vals en' h', s_loop C' B' P' k en (g, h) = some (1, vals, en', (g, h')) ∧ Ret vals h' := by
  intro k
  induction k with
  | zero => exact fun m en h _ _ hk => absurd hk (by omega)
  | succ k ih =>
    intro m en h hI hm hk
    rcases hs en h hI with ⟨h', e1, e2⟩ | ⟨v, h1, hv, e1, c, vals, en1, h2, f1, f2⟩
    · refine Or.inl ⟨en, h', ?_, e2⟩
      unfold s_loop
      rw [e1, Option.bind_some]
      exact if_pos rfl
    · have hl : s_loop C' B' P' (k + 1) en (g, h) = (if c = 0 ∨ c = 3 then (P' en1 (g, h2)).bind fun q => if q.1 = 0 then s_loop C' B' P' k q.2.2.1 q.2.2.2 else none else if c = 2 then some (0, [], en1, (g, h2)) else some (c, vals, en1, (g, h2))) := by
        conv => lhs; unfold s_loop
        rw [e1, Option.bind_some]
        refine (if_neg hv).trans ?_
        dsimp only
        rw [f1, Option.bind_some]
      rcases f2 with ⟨hc, en2, h3, p1, p2, p3⟩ | ⟨rfl, p⟩ | ⟨rfl, p⟩
      · have ih2 := ih (m - 1) en2 h3 p2 (by omega) (by omega)
        rw [hl, if_pos hc, p1, Option.bind_some]
        exact ih2
      · exact Or.inl ⟨en1, h2, by rw [hl]; rfl, p⟩
      · exact Or.inr ⟨vals, en1, h2, by rw [hl]; rfl, p⟩
section HAND
variable {xs : Nat → Int} {L K c d n : Nat} {h : XH}
/-- an object's row of numbers -/
theorem ref_at {ci k kd : Nat} {r : Int} {z : Nat → Int} (hr : TV z a_g3 (10 + ci) r) (hci : ci < 90) (hk : (g_fk ci)[k]? = some kd) (h6 : 6 ≤ kd) (h7 : kd < 100) : ∃ q : Int, j_rf a_g3 r.toNat k = some q ∧ 0 ≤ q ∧ ∃ c : XC, a_g3[q.toNat]? = some c ∧ c.1 = kd := by
  obtain ⟨r0, c, hc, e⟩ := hr.2.2.2.2.1 (by omega) (by omega)
  exact g_GG.2 _ c ci k kd hc e hk h6 h7
theorem len_at {q : Int} {c : XC} (hc : a_g3[q.toNat]? = some c) : j_len a_g3 q.toNat = (c.2.1 : Int) ∧ (c.2.1 : Int) < 2147483648 := by
  refine ⟨?_, ?_⟩
  · unfold j_len
    rw [hc]
  · have := (g_GG.1 _ c hc).2
    omega
/-- arrays of the class -/
theorem own_arr : (List.range a_g3.length).all (fun o => match a_g3[o]? with
  | some c => decide (c.1 < 10 ∨ 20 ≤ c.1) || (List.range c.2.2.length).all (fun k => match j_rf a_g3 o k with
    | some q => Nat.blt q.toNat 182
    | none => true)
  | none => true) = true := by decide +kernel
theorem own_at {o k : Nat} {c : XC} {q : Int} (hc : a_g3[o]? = some c) (h1 : 10 ≤ c.1) (h2 : c.1 < 20) (hq : j_rf a_g3 o k = some q) : q.toNat < 182 := by
  have h := List.all_eq_true.mp own_arr o (List.mem_range.mpr (List.getElem?_eq_some_iff.mp hc).1)
  rw [hc] at h
  simp only [Bool.or_eq_true, decide_eq_true_eq] at h
  have h3 := h.resolve_left (by omega)
  have hk : k < c.2.2.length := by
    obtain ⟨kd, l, sl⟩ := c
    unfold j_rf at hq
    rw [hc] at hq
    dsimp only at hq ⊢
    cases hs : sl[k]? with
    | none => rw [hs] at hq; cases hq
    | some z => exact (List.getElem?_eq_some_iff.mp hs).1
  have h4 := List.all_eq_true.mp h3 k (List.mem_range.mpr hk)
  rw [hq] at h4
  simpa [Nat.blt_eq] using h4
/-- an array of ints that an object of the class has may be written -/
theorem ro_arr {o k kd : Nat} {c c' : XC} {q : Int} (hc : a_g3[o]? = some c) (h1 : 10 ≤ c.1) (h2 : c.1 < 20) (hq : j_rf a_g3 o k = some q) (hc' : a_g3[q.toNat]? = some c') (he : c'.1 = kd) (hk : kd < 8) : ∀ j, g_ro q.toNat j = false := by
  intro j
  have h3 := own_at hc h1 h2 hq
  cases hr : g_ro q.toNat j with
  | false => rfl
  | true =>
    exfalso
    simp only [g_ro, Bool.or_eq_true, Bool.and_eq_true, Nat.beq_eq, Nat.ble_eq] at hr
    rcases hr with (⟨h4, -⟩ | h4) | h4
    · have h5 := g_wk2
      rw [← h4, hc'] at h5
      have h6 : c'.1 = 19 := Option.some.inj h5
      omega
    · omega
    · have h5 := g_wk3
      rw [← h4, hc'] at h5
      have h6 : c'.1 = 8 := Option.some.inj h5
      omega
theorem ty_arr {q : Nat} {c : XC} (hc : a_g3[q]? = some c) : ∀ k, (c.1 = 6 → c_ty g_fk a_g3 q k = 1) ∧ (c.1 = 7 → c_ty g_fk a_g3 q k = 2) ∧ (c.1 = 8 → c_ty g_fk a_g3 q k = 1) := by
  intro k
  obtain ⟨kd, l, sl⟩ := c
  unfold c_ty
  rw [hc]
  refine ⟨fun e => ?_, fun e => ?_, fun e => ?_⟩ <;> (dsimp only at e; subst e; rfl)
end HAND
end
section
/-! ===== rows of numbers ===== -/
section ROW
variable {xs : Nat → Int} {L K c d n : Nat} {h : XH} {ck : Nat → List Nat} {F : XP} {cW : Nat → Nat → Int} {a b e : SX}
theorem ee_28 : evE xs L ck F cW (sx 28 a b e) = n_ife (evE xs L ck F cW a) (evE xs L ck F cW b) (evE xs L ck F cW e) := rfl
theorem es_8 {op : Nat} : evS xs L ck F K cW (sx 8 a b (so op e)) = s_astC op (evE xs L ck F cW a) (evE xs L ck F cW b) (evE xs L ck F cW e) := rfl
theorem gm_54 : g_M 54 = (0, 2, [17, 1], [1], bb_54) := rfl
theorem gm_55 : g_M 55 = (0, 3, [17, 1, 1], [], bb_55) := rfl
theorem gm_56 : g_M 56 = (0, 3, [17, 1, 1], [], bb_56) := rfl
theorem row_at {z : Nat → Int} {r : Int} (hr : TV z a_g3 17 r) : ∃ (q : Int) (len : Int), j_rf a_g3 r.toNat 0 = some q ∧ j_len a_g3 q.toNat = len ∧ 0 ≤ len ∧ len < 2147483648 ∧ (∀ j, c_ty g_fk a_g3 q.toNat j = 1) ∧ ∀ j, g_ro q.toNat j = false := by
  obtain ⟨r0, c, hc, he⟩ := hr.2.2.2.2.1 (by decide) (by decide)
  obtain ⟨q, hq, q0, c', hc', he'⟩ := ref_at (ci := 7) (k := 0) (kd := 6) hr (by decide) rfl (by decide) (by decide)
  obtain ⟨h1, h2⟩ := len_at hc'
  exact ⟨q, _, hq, h1, by omega, h2, fun j => (ty_arr hc' j).1 he', ro_arr hc (by omega) (by omega) hq hc' he' (by decide)⟩
theorem row_get {r i q len : Int} (hq : j_rf a_g3 r.toNat 0 = some q) (hl : j_len a_g3 q.toNat = len) : evF xs L ck K cW g_M (n + 1) 54 [r, i] ((a_g3, c, d), h) = some (1, [if 0 ≤ i ∧ i < len then h q.toNat i.toNat else 0], ((a_g3, c, d), h)) := by
  rw [evF_s, gm_54]
  have k1 : evS xs L ck (evF xs L ck K cW g_M n) K cW bb_54 [r, i] ((a_g3, c, d), h) = some (1, [if 0 ≤ i ∧ i < len then h q.toNat i.toNat else 0], [r, i], ((a_g3, c, d), h)) := by
    generalize evF xs L ck K cW g_M n = F
    unfold bb_54
    simp only [es_16, ee_28, ee_25, ee_21, ee_20, ee_10, ee_7, ee_5, ee_3, ee_1, n_ife, n_nz, n_cmp, n_alen, n_aload, Option.bind_some, j_hd, List.headD_cons, n_sv, n_z0, List.getD_cons_zero, List.getD_cons_succ, hq, hl, j_cmp, if_true]
    by_cases h1 : 0 ≤ i <;> by_cases h2 : i < len <;> simp [h1, h2, j_b, hq, hl]
  show (evS xs L ck (evF xs L ck K cW g_M n) K cW bb_54 [r, i] ((a_g3, c, d), h)).bind _ = _
  rw [k1, Option.bind_some]
  exact if_pos chk_self
theorem row_set {r i v q len : Int} (hq : j_rf a_g3 r.toNat 0 = some q) (hl : j_len a_g3 q.toNat = len) : evF xs L ck K cW g_M (n + 1) 55 [r, i, v] ((a_g3, c, d), h) = some (1, [], ((a_g3, c, d), if 0 ≤ i ∧ i < len then j_up h q.toNat i.toNat v else h)) := by
  rw [evF_s, gm_55]
  have k1 : evS xs L ck (evF xs L ck K cW g_M n) K cW bb_55 [r, i, v] ((a_g3, c, d), h) = some (1, [], [r, i, v], ((a_g3, c, d), if 0 ≤ i ∧ i < len then j_up h q.toNat i.toNat v else h)) := by
    generalize evF xs L ck K cW g_M n = F
    unfold bb_55
    simp only [es_2, es_10, es_20, es_7, es_17, s_seq, s_if, s_ast, ee_25, ee_21, ee_20, ee_10, ee_5, ee_3, ee_1, n_ife, n_nz, n_cmp, n_alen, Option.bind_some, j_hd, List.headD_cons, n_sv, n_z0, List.getD_cons_zero, List.getD_cons_succ, hq, hl, j_cmp, if_true]
    by_cases h1 : 0 ≤ i <;> by_cases h2 : i < len <;> simp [h1, h2, j_b, hq, hl]
  show (evS xs L ck (evF xs L ck K cW g_M n) K cW bb_55 [r, i, v] ((a_g3, c, d), h)).bind _ = _
  rw [k1, Option.bind_some]
  exact if_pos chk_self
theorem row_add {r i v q len : Int} (hq : j_rf a_g3 r.toNat 0 = some q) (hl : j_len a_g3 q.toNat = len) : evF xs L ck K cW g_M (n + 1) 56 [r, i, v] ((a_g3, c, d), h) = some (1, [], ((a_g3, c, d), if 0 ≤ i ∧ i < len then j_up h q.toNat i.toNat (j_iop 0 (h q.toNat i.toNat) v) else h)) := by
  rw [evF_s, gm_56]
  have k1 : evS xs L ck (evF xs L ck K cW g_M n) K cW bb_56 [r, i, v] ((a_g3, c, d), h) = some (1, [], [r, i, v], ((a_g3, c, d), if 0 ≤ i ∧ i < len then j_up h q.toNat i.toNat (j_iop 0 (h q.toNat i.toNat) v) else h)) := by
    generalize evF xs L ck K cW g_M n = F
    unfold bb_56
    simp only [es_2, es_10, es_20, es_8, es_17, s_seq, s_if, s_astC, ee_25, ee_21, ee_20, ee_10, ee_5, ee_3, ee_1, n_ife, n_nz, n_cmp, n_alen, Option.bind_some, j_hd, List.headD_cons, n_sv, n_z0, List.getD_cons_zero, List.getD_cons_succ, hq, hl, j_cmp, if_true]
    by_cases h1 : 0 ≤ i <;> by_cases h2 : i < len <;> simp [h1, h2, j_b, hq, hl]
  show (evS xs L ck (evF xs L ck K cW g_M n) K cW bb_56 [r, i, v] ((a_g3, c, d), h)).bind _ = _
  rw [k1, Option.bind_some]
  exact if_pos chk_self
theorem VL2 {z : Nat → Int} {g : XS} {s t : Nat} {av : List Int} (h : VL z g [s, t] av) : ∃ v w, av = [v, w] ∧ TV z g s v ∧ TV z g t w := by
  match av, h with
  | [v, w], h => exact ⟨v, w, rfl, h.1, h.2.1⟩
theorem VL3 {z : Nat → Int} {g : XS} {s t u : Nat} {av : List Int} (h : VL z g [s, t, u] av) : ∃ v w x, av = [v, w, x] ∧ TV z g s v ∧ TV z g t w ∧ TV z g u x := by
  match av, h with
  | [v, w, x], h => exact ⟨v, w, x, rfl, h.1, h.2.1, h.2.2.1⟩
theorem up_i {q k : Nat} {v : Int} {hh : XH} (ht : ∀ j, c_ty g_fk a_g3 q j = 1) (hH : HT g_fk a_g3 hh) (hv : InI v) : HT g_fk a_g3 (j_up hh q k v) := hH.up (fun _ => hv) (fun e => absurd ((ht _).symm.trans e) (by decide)) (fun e => absurd ((ht _).symm.trans e) (by decide))
theorem tot_54 : TotF (g_T 0) (a_g3, c, d) g_ro (evF xs L ck K cW g_M (n + 1)) 54 := by
  intro av hh hH hv
  obtain ⟨r, i, rfl, hr, hi⟩ := VL2 (s := 17) (t := 1) hv
  obtain ⟨q, len, hq, hl, l0, l1, ht, hro⟩ := row_at hr
  refine ⟨_, hh, row_get hq hl, hH, FR.rf, ?_, trivial⟩
  refine TV.int ?_
  split
  · exact (hH q.toNat i.toNat).1 (ht _)
  · exact in_0
theorem tot_55 : TotF (g_T 0) (a_g3, c, d) g_ro (evF xs L ck K cW g_M (n + 1)) 55 := by
  intro av hh hH hv
  obtain ⟨r, i, v, rfl, hr, hi, hv2⟩ := VL3 (s := 17) (t := 1) (u := 1) hv
  obtain ⟨q, len, hq, hl, l0, l1, ht, hro⟩ := row_at hr
  refine ⟨_, _, row_set hq hl, ?_, ?_, trivial⟩
  · split
    · exact up_i ht hH (hv2.1 rfl)
    · exact hH
  · split
    · exact FR.up (hro _)
    · exact FR.rf
theorem tot_56 : TotF (g_T 0) (a_g3, c, d) g_ro (evF xs L ck K cW g_M (n + 1)) 56 := by
  intro av hh hH hv
  obtain ⟨r, i, v, rfl, hr, hi, hv2⟩ := VL3 (s := 17) (t := 1) (u := 1) hv
  obtain ⟨q, len, hq, hl, l0, l1, ht, hro⟩ := row_at hr
  refine ⟨_, _, row_add hq hl, ?_, ?_, trivial⟩
  · split
    · exact up_i ht hH (iop_in _ _ _)
    · exact hH
  · split
    · exact FR.up (hro _)
    · exact FR.rf
end ROW
end
section
/-! ===== loops of the class's leaves (written by wip/tools/hand.py) ===== -/
def lc_57 : SX := (sx 20 (sx 3 (sv 2) z0 z0) (sx 10 (sx 5 (sx 3 z0 z0 z0) z0 z0) z0 z0) (sv 2))
def lb_57 : SX := (sx 20 (sx 7 (sx 5 (sx 3 z0 z0 z0) z0 z0) (sx 3 (sv 2) z0 z0) (so 6 (sx 3 (sv 1) z0 z0))) z0 z0)
def ls_57 : SX := (sx 4 (sv 2) (sv 1) z0)
theorem lq_57 : bb_57 = sx 2 (sx 20 (sx 2 (sx 3 (sv 2) (sx 1 z0 (sv 1) z0) z0) (sx 12 lc_57 lb_57 ls_57) z0) z0 z0) (sx 17 z0 z0 z0) z0 := rfl
theorem gm_57 : g_M 57 = (0, 3, [17, 1], [], bb_57) := rfl
def lc_58 : SX := (sx 25 (sx 20 (sx 3 (sv 2) z0 z0) (sx 10 (sx 5 (sx 3 z0 z0 z0) z0 z0) z0 z0) (sv 2)) (sx 20 (sx 3 (sv 2) z0 z0) (sx 10 (sx 5 (sx 3 (sv 1) z0 z0) z0 z0) z0 z0) (sv 2)) z0)
def lb_58 : SX := (sx 20 (sx 7 (sx 5 (sx 3 z0 z0 z0) z0 z0) (sx 3 (sv 2) z0 z0) (so 6 (sx 7 (sx 5 (sx 3 (sv 1) z0 z0) z0 z0) (sx 3 (sv 2) z0 z0) z0))) z0 z0)
def ls_58 : SX := (sx 4 (sv 2) (sv 1) z0)
theorem lq_58 : bb_58 = sx 2 (sx 20 (sx 2 (sx 3 (sv 2) (sx 1 z0 (sv 1) z0) z0) (sx 12 lc_58 lb_58 ls_58) z0) z0 z0) (sx 17 z0 z0 z0) z0 := rfl
theorem gm_58 : g_M 58 = (0, 3, [17, 17], [], bb_58) := rfl
def lc_59 : SX := (sx 25 (sx 21 (sx 3 (sv 1) z0 z0) z0 (sv 3)) (sx 20 (sx 3 (sv 2) z0 z0) (sx 14 (sx 10 (sx 5 (sx 3 z0 z0 z0) z0 z0) z0 z0) (sx 3 (sv 1) z0 z0) (sv 1)) (sv 2)) z0)
def lb_59 : SX := (sx 20 (sx 7 (sx 5 (sx 3 z0 z0 z0) z0 z0) (sx 3 (sv 2) z0 z0) (so 6 (sx 7 (sx 5 (sx 3 z0 z0 z0) z0 z0) (sx 14 (sx 3 (sv 2) z0 z0) (sx 3 (sv 1) z0 z0) z0) z0))) z0 z0)
def ls_59 : SX := (sx 4 (sv 2) (sv 1) z0)
theorem lq_59 : bb_59 = sx 2 (sx 20 (sx 2 (sx 3 (sv 2) (sx 1 z0 (sv 1) z0) z0) (sx 12 lc_59 lb_59 ls_59) z0) z0 z0) (sx 17 z0 z0 z0) z0 := rfl
theorem gm_59 : g_M 59 = (0, 3, [17, 1], [], bb_59) := rfl
def lc_77 : SX := (sx 25 (sx 20 (sx 4 (sx 3 z0 z0 z0) (sv 3) z0) (sx 1 (sv 1) (sv 1) z0) z0) (sx 20 (sx 3 (sv 1) z0 z0) (sx 10 (sx 1 z0 (sv 4) z0) z0 (sv 2)) (sv 2)) z0)
def lb_77 : SX := (sx 20 (sx 10 (sx 22 (sx 13 (sx 7 (sx 1 z0 (sv 4) z0) (sx 3 (sv 1) z0 z0) (sv 2)) z0 z0) (sx 4 (sx 3 z0 z0 z0) (sv 6) z0) z0) (sx 20 (sx 16 (sx 7 (sx 1 z0 (sv 4) z0) (sx 3 (sv 1) z0 z0) (sv 2)) z0 z0) z0 z0) z0) z0 z0)
def ls_77 : SX := (sx 4 (sv 1) (sv 1) z0)
theorem lq_77 : bb_77 = sx 2 (sx 20 (sx 2 (sx 3 (sv 1) (sx 1 z0 (sv 1) z0) z0) (sx 12 lc_77 lb_77 ls_77) z0) z0 z0) (sx 16 (sx 1 (sv 23) (sv 3) z0) z0 z0) z0 := rfl
theorem gm_77 : g_M 77 = (0, 2, [19], [3], bb_77) := rfl
def lc_105 : SX := (sx 25 (sx 20 (sx 3 (sv 5) z0 z0) (sx 3 (sv 4) z0 z0) (sv 2)) (sx 20 (sx 14 (sx 3 (sv 3) z0 z0) (sx 3 (sv 5) z0 z0) z0) (sx 10 (sx 5 (sx 3 z0 z0 z0) z0 z0) z0 z0) (sv 2)) z0)
def lb_105 : SX := (sx 20 (sx 10 (sx 22 (sx 7 (sx 5 (sx 3 z0 z0 z0) z0 z0) (sx 14 (sx 3 (sv 3) z0 z0) (sx 3 (sv 5) z0 z0) z0) z0) (sx 3 (sv 1) z0 z0) z0) (sx 20 (sx 16 (sx 3 (sv 5) z0 z0) z0 z0) z0 z0) z0) z0 z0)
def ls_105 : SX := (sx 4 (sv 5) (sv 1) z0)
theorem lq_105 : bb_105 = sx 2 (sx 20 (sx 2 (sx 3 (sv 5) (sx 1 z0 (sv 1) z0) z0) (sx 12 lc_105 lb_105 ls_105) z0) z0 z0) (sx 16 (sx 1 (sv 1) (sv 1) (sv 1)) z0 z0) z0 := rfl
theorem gm_105 : g_M 105 = (0, 6, [15, 2, 1, 1], [1], bb_105) := rfl
def lc_151 : SX := (sx 20 (sx 3 (sv 4) z0 z0) (sx 3 (sv 3) z0 z0) (sv 5))
def lb_151 : SX := (sx 20 (sx 10 (sx 20 (sx 32 (sx 30 (sx 5 (sx 3 z0 z0 z0) z0 z0) (sx 30 (sx 14 (sx 14 (sx 3 (sv 1) z0 z0) (sx 1 (sv 13) (sv 1) z0) (sv 2)) (sx 3 (sv 4) z0 z0) z0) (sx 31 z0 z0 z0) z0) z0) (sv 54) z0) (sx 1 (sv 1) (sv 1) (sv 1)) (sv 1)) (sx 20 (sx 16 (sx 3 (sv 4) z0 z0) z0 z0) z0 z0) z0) z0 z0)
def ls_151 : SX := (sx 4 (sv 4) (sv 1) z0)
theorem lq_151 : bb_151 = sx 2 (sx 20 (sx 2 (sx 3 (sv 4) (sx 14 (sx 3 (sv 2) z0 z0) (sx 1 (sv 1) (sv 1) z0) z0) z0) (sx 12 lc_151 lb_151 ls_151) z0) z0 z0) (sx 16 (sx 1 (sv 1) (sv 1) (sv 1)) z0 z0) z0 := rfl
theorem gm_151 : g_M 151 = (0, 5, [12, 1, 1, 1], [1], bb_151) := rfl
section LEAF
variable {xs : Nat → Int} {L K c d n : Nat} {ck : Nat → List Nat} {cW : Nat → Nat → Int}
theorem j32_up {i l : Int} (h0 : 0 ≤ i) (h1 : i < l) (h2 : l < 2147483648) : j32 (i + 1) = i + 1 := j32_in ⟨by omega, by omega⟩
theorem tot_57 (hK : 4294967300 ≤ K) : TotF (g_T 0) (a_g3, c, d) g_ro (evF xs L ck K cW g_M (n + 1)) 57 := by
  intro av hh hH hv
  obtain ⟨r, v, rfl, hr, hvi⟩ := VL2 (s := 17) (t := 1) hv
  obtain ⟨q, len, hq, hl, l0, l1, ht, hro⟩ := row_at hr
  have hv1 := hvi.1 rfl
  have go := lp_gen (g := (a_g3, c, d)) (C' := evE xs L ck (evF xs L ck K cW g_M n) cW lc_57) (B' := evS xs L ck (evF xs L ck K cW g_M n) K cW lb_57) (P' := evS xs L ck (evF xs L ck K cW g_M n) K cW ls_57)
    (Inv := fun en h => ∃ i : Int, en = [r, v, i] ∧ 0 ≤ i ∧ i ≤ len ∧ HT g_fk a_g3 h ∧ FR g_ro hh h) (Done := fun _ h => HT g_fk a_g3 h ∧ FR g_ro hh h) (Ret := fun _ _ => False) (mea := fun en _ => (len - en.getD 2 0).toNat) (by
    rintro en h ⟨i, rfl, i0, i1, h1, h2⟩
    have hc : evE xs L ck (evF xs L ck K cW g_M n) cW lc_57 [r, v, i] ((a_g3, c, d), h) = some ([j_b (decide (i < len))], ((a_g3, c, d), h)) := by
      unfold lc_57
      simp only [ee_20, ee_10, ee_5, ee_3, n_cmp, n_alen, Option.bind_some, j_hd, List.headD_cons, n_sv, n_z0, List.getD_cons_zero, List.getD_cons_succ, hq, hl, j_cmp]
      rfl
    by_cases hi : i < len
    · refine Or.inr ⟨1, h, by decide, by rw [hc, decide_eq_true hi]; rfl, 0, [], [r, v, i], j_up h q.toNat i.toNat v, ?_, Or.inl ⟨Or.inl rfl, [r, v, i + 1], j_up h q.toNat i.toNat v, ?_, ⟨i + 1, rfl, by omega, by omega, up_i ht h1 hv1, h2.tr (FR.up (hro _))⟩, ?_⟩⟩
      · unfold lb_57
        simp only [es_20, es_7, s_ast, ee_5, ee_3, Option.bind_some, j_hd, List.headD_cons, n_sv, n_z0, List.getD_cons_zero, List.getD_cons_succ, hq]
        simp [hl, i0, hi]
      · show some (0, [], [r, v, j32 (i + 1)], _) = _
        rw [j32_up i0 hi l1]
      · show (len - (i + 1)).toNat < (len - i).toNat
        omega
    · exact Or.inl ⟨h, by rw [hc, decide_eq_false hi]; rfl, h1, h2⟩) K (len - 0).toNat [r, v, 0] hh ⟨0, rfl, Int.le_refl _, l0, hH, FR.rf⟩ (Nat.le_refl _) (by omega)
  obtain ⟨en', h', e1, e2, e3⟩ := go.resolve_right (fun ⟨_, _, _, _, k⟩ => k)
  refine ⟨[], h', ?_, e2, e3, trivial⟩
  rw [evF_s, gm_57]
  have k1 : evS xs L ck (evF xs L ck K cW g_M n) K cW bb_57 [r, v, 0] ((a_g3, c, d), hh) = some (1, [], en', ((a_g3, c, d), h')) := by
    rw [lq_57, es_2, es_20, es_2, es_3, es_12, es_17, ee_1]
    unfold s_seq
    dsimp only
    simp only [Option.bind_some, if_true]
    rw [show [r, v, 0].set (sx_n (sv 2)) (j_hd [if sx_n z0 = 0 then (sx_n z0 : Int) else -(sx_n z0 : Int)]) = [r, v, 0] from rfl, e1]
    rfl
  show (evS xs L ck (evF xs L ck K cW g_M n) K cW bb_57 [r, v, 0] ((a_g3, c, d), hh)).bind _ = _
  rw [k1, Option.bind_some]
  exact if_pos chk_self
theorem tot_58 (hK : 4294967300 ≤ K) : TotF (g_T 0) (a_g3, c, d) g_ro (evF xs L ck K cW g_M (n + 1)) 58 := by
  intro av hh hH hv
  obtain ⟨r, v, rfl, hr, hr2⟩ := VL2 (s := 17) (t := 17) hv
  obtain ⟨q, len, hq, hl, l0, l1, ht, hro⟩ := row_at hr
  obtain ⟨q2, len2, hq2, hl2, l02, l12, ht2, hro2⟩ := row_at hr2
  have go := lp_gen (g := (a_g3, c, d)) (C' := evE xs L ck (evF xs L ck K cW g_M n) cW lc_58) (B' := evS xs L ck (evF xs L ck K cW g_M n) K cW lb_58) (P' := evS xs L ck (evF xs L ck K cW g_M n) K cW ls_58)
    (Inv := fun en h => ∃ i : Int, en = [r, v, i] ∧ 0 ≤ i ∧ i ≤ len ∧ HT g_fk a_g3 h ∧ FR g_ro hh h) (Done := fun _ h => HT g_fk a_g3 h ∧ FR g_ro hh h) (Ret := fun _ _ => False) (mea := fun en _ => (len - en.getD 2 0).toNat) (by
    rintro en h ⟨i, rfl, i0, i1, h1, h2⟩
    have hc : evE xs L ck (evF xs L ck K cW g_M n) cW lc_58 [r, v, i] ((a_g3, c, d), h) = some ([j_b (decide (i < len) && decide (i < len2))], ((a_g3, c, d), h)) := by
      unfold lc_58
      simp only [ee_25, n_ife, n_nz, ee_20, ee_10, ee_5, ee_3, n_cmp, n_alen, Option.bind_some, j_hd, List.headD_cons, n_sv, n_z0, List.getD_cons_zero, List.getD_cons_succ, hq, hl, hq2, hl2, j_cmp]
      by_cases a1 : i < len <;> by_cases a2 : i < len2 <;> simp [a1, a2, j_b]
    by_cases hi : i < len ∧ i < len2
    · refine Or.inr ⟨1, h, by decide, by rw [hc, decide_eq_true hi.1, decide_eq_true hi.2]; rfl, 0, [], [r, v, i], j_up h q.toNat i.toNat (h q2.toNat i.toNat), ?_, Or.inl ⟨Or.inl rfl, [r, v, i + 1], j_up h q.toNat i.toNat (h q2.toNat i.toNat), ?_, ⟨i + 1, rfl, by omega, by omega, up_i ht h1 ((h1 q2.toNat i.toNat).1 (ht2 _)), h2.tr (FR.up (hro _))⟩, ?_⟩⟩
      · unfold lb_58
        simp only [es_20, es_7, s_ast, ee_7, n_aload, ee_5, ee_3, Option.bind_some, j_hd, List.headD_cons, n_sv, n_z0, List.getD_cons_zero, List.getD_cons_succ, hq, hq2]
        simp [hl, hl2, i0, hi]
      · show some (0, [], [r, v, j32 (i + 1)], _) = _
        rw [j32_up i0 hi.1 l1]
      · show (len - (i + 1)).toNat < (len - i).toNat
        omega
    · refine Or.inl ⟨h, ?_, h1, h2⟩
      rw [hc]
      have : (decide (i < len) && decide (i < len2)) = false := by
        by_cases a1 : i < len
        · by_cases a2 : i < len2
          · exact absurd ⟨a1, a2⟩ hi
          · simp [a2]
        · simp [a1]
      rw [this]
      rfl) K (len - 0).toNat [r, v, 0] hh ⟨0, rfl, Int.le_refl _, l0, hH, FR.rf⟩ (Nat.le_refl _) (by omega)
  obtain ⟨en', h', e1, e2, e3⟩ := go.resolve_right (fun ⟨_, _, _, _, k⟩ => k)
  refine ⟨[], h', ?_, e2, e3, trivial⟩
  rw [evF_s, gm_58]
  have k1 : evS xs L ck (evF xs L ck K cW g_M n) K cW bb_58 [r, v, 0] ((a_g3, c, d), hh) = some (1, [], en', ((a_g3, c, d), h')) := by
    rw [lq_58, es_2, es_20, es_2, es_3, es_12, es_17, ee_1]
    unfold s_seq
    dsimp only
    simp only [Option.bind_some, if_true]
    rw [show [r, v, 0].set (sx_n (sv 2)) (j_hd [if sx_n z0 = 0 then (sx_n z0 : Int) else -(sx_n z0 : Int)]) = [r, v, 0] from rfl, e1]
    rfl
  show (evS xs L ck (evF xs L ck K cW g_M n) K cW bb_58 [r, v, 0] ((a_g3, c, d), hh)).bind _ = _
  rw [k1, Option.bind_some]
  exact if_pos chk_self
end LEAF
section LEAF2
variable {xs : Nat → Int} {L K c d n : Nat} {ck : Nat → List Nat} {cW : Nat → Nat → Int} {F : XP} {a b e : SX}
theorem tot_59 (hK : 4294967300 ≤ K) : TotF (g_T 0) (a_g3, c, d) g_ro (evF xs L ck K cW g_M (n + 1)) 59 := by
  intro av hh hH hv
  obtain ⟨r, v, rfl, hr, hvi⟩ := VL2 (s := 17) (t := 1) hv
  obtain ⟨q, len, hq, hl, l0, l1, ht, hro⟩ := row_at hr
  have hv1 := hvi.1 rfl
  unfold InI at hv1
  have go := lp_gen (g := (a_g3, c, d)) (C' := evE xs L ck (evF xs L ck K cW g_M n) cW lc_59) (B' := evS xs L ck (evF xs L ck K cW g_M n) K cW lb_59) (P' := evS xs L ck (evF xs L ck K cW g_M n) K cW ls_59)
    (Inv := fun en h => ∃ i : Int, en = [r, v, i] ∧ 0 ≤ i ∧ i ≤ len ∧ HT g_fk a_g3 h ∧ FR g_ro hh h) (Done := fun _ h => HT g_fk a_g3 h ∧ FR g_ro hh h) (Ret := fun _ _ => False) (mea := fun en _ => (len - en.getD 2 0).toNat) (by
    rintro en h ⟨i, rfl, i0, i1, h1, h2⟩
    by_cases hi : 0 ≤ v ∧ i < len - v
    · have e9 : j_iop 1 len v = len - v := j32_in ⟨by omega, by omega⟩
      have e8 : j_iop 0 i v = i + v := j32_in ⟨by omega, by omega⟩
      have hc : evE xs L ck (evF xs L ck K cW g_M n) cW lc_59 [r, v, i] ((a_g3, c, d), h) = some ([1], ((a_g3, c, d), h)) := by
        unfold lc_59
        simp only [ee_25, ee_21, n_ife, n_nz, ee_20, ee_14, n_bin, ee_10, ee_5, ee_3, n_cmp, n_alen, Option.bind_some, j_hd, List.headD_cons, n_sv, n_z0, List.getD_cons_zero, List.getD_cons_succ, hq, hl, j_cmp, e9]
        simp [hi.1, hi.2, j_b]
      refine Or.inr ⟨1, h, by decide, hc, 0, [], [r, v, i], j_up h q.toNat i.toNat (h q.toNat (i + v).toNat), ?_, Or.inl ⟨Or.inl rfl, [r, v, i + 1], j_up h q.toNat i.toNat (h q.toNat (i + v).toNat), ?_, ⟨i + 1, rfl, by omega, by omega, up_i ht h1 ((h1 q.toNat (i + v).toNat).1 (ht _)), h2.tr (FR.up (hro _))⟩, ?_⟩⟩
      · unfold lb_59
        simp only [es_20, es_7, s_ast, ee_7, n_aload, ee_14, n_bin, ee_5, ee_3, Option.bind_some, j_hd, List.headD_cons, n_sv, n_z0, List.getD_cons_zero, List.getD_cons_succ, hq, hl, e8]
        have a1 : 0 ≤ i + v ∧ i + v < len := by omega
        have a2 : 0 ≤ i ∧ i < len := by omega
        simp [hl, a1, a2]
      · show some (0, [], [r, v, j32 (i + 1)], _) = _
        rw [j32_up i0 (by omega : i < len) l1]
      · show (len - (i + 1)).toNat < (len - i).toNat
        omega
    · have hc : evE xs L ck (evF xs L ck K cW g_M n) cW lc_59 [r, v, i] ((a_g3, c, d), h) = some ([0], ((a_g3, c, d), h)) := by
        unfold lc_59
        simp only [ee_25, ee_21, n_ife, n_nz, ee_20, ee_14, n_bin, ee_10, ee_5, ee_3, n_cmp, n_alen, Option.bind_some, j_hd, List.headD_cons, n_sv, n_z0, List.getD_cons_zero, List.getD_cons_succ, hq, hl, j_cmp]
        by_cases hv0 : 0 ≤ v
        · have e9 : j_iop 1 len v = len - v := j32_in ⟨by omega, by omega⟩
          have hn : ¬ i < len - v := fun k => hi ⟨hv0, k⟩
          simp [hv0, e9, hn, j_b]
        · simp [hv0, j_b]
      exact Or.inl ⟨h, hc, h1, h2⟩) K (len - 0).toNat [r, v, 0] hh ⟨0, rfl, Int.le_refl _, l0, hH, FR.rf⟩ (Nat.le_refl _) (by omega)
  obtain ⟨en', h', e1, e2, e3⟩ := go.resolve_right (fun ⟨_, _, _, _, k⟩ => k)
  refine ⟨[], h', ?_, e2, e3, trivial⟩
  rw [evF_s, gm_59]
  have k1 : evS xs L ck (evF xs L ck K cW g_M n) K cW bb_59 [r, v, 0] ((a_g3, c, d), hh) = some (1, [], en', ((a_g3, c, d), h')) := by
    rw [lq_59, es_2, es_20, es_2, es_3, es_12, es_17, ee_1]
    unfold s_seq
    dsimp only
    simp only [Option.bind_some, if_true]
    rw [show [r, v, 0].set (sx_n (sv 2)) (j_hd [if sx_n z0 = 0 then (sx_n z0 : Int) else -(sx_n z0 : Int)]) = [r, v, 0] from rfl, e1]
    rfl
  show (evS xs L ck (evF xs L ck K cW g_M n) K cW bb_59 [r, v, 0] ((a_g3, c, d), hh)).bind _ = _
  rw [k1, Option.bind_some]
  exact if_pos chk_self
theorem gm_68 : g_M 68 = (0, 2, [19, 1], [1], bb_68) := rfl
theorem gm_101 : g_M 101 = (0, 4, [15, 1, 2], [], bb_101) := rfl
theorem tot_68 : TotF (g_T 0) (a_g3, c, d) g_ro (evF xs L ck K cW g_M (n + 1)) 68 := by
  intro av hh hH hv
  obtain ⟨r, i, rfl, hr, hi⟩ := VL2 (s := 19) (t := 1) hv
  obtain ⟨q, hq, q0, c', hc', he'⟩ := ref_at (ci := 9) (k := 0) (kd := 8) hr (by decide) rfl (by decide) (by decide)
  obtain ⟨hl, hl2⟩ := len_at hc'
  have ht := fun j => (ty_arr hc' j).2.2 he'
  generalize (c'.2.1 : Int) = len at hl hl2
  have hv1 : ∀ b : Bool, InI (if b = true then hh q.toNat i.toNat else -1) := fun b => by
    cases b
    · show InI (-1)
      exact ⟨by decide, by decide⟩
    · exact (hH q.toNat i.toNat).1 (ht _)
  refine ⟨[if (decide (0 ≤ i) && decide (i < hh r.toNat 1) && decide (i < len)) = true then hh q.toNat i.toNat else -1], hh, ?_, hH, FR.rf, TV.int (hv1 _), trivial⟩
  rw [evF_s, gm_68]
  have k1 : evS xs L ck (evF xs L ck K cW g_M n) K cW bb_68 [r, i] ((a_g3, c, d), hh) = some (1, [if (decide (0 ≤ i) && decide (i < hh r.toNat 1) && decide (i < len)) = true then hh q.toNat i.toNat else -1], [r, i], ((a_g3, c, d), hh)) := by
    generalize evF xs L ck K cW g_M n = F
    unfold bb_68
    simp only [es_16, ee_28, ee_25, ee_21, ee_20, ee_10, ee_7, ee_5, ee_4, ee_3, ee_1, n_ife, n_nz, n_cmp, n_alen, n_aload, Option.bind_some, j_hd, List.headD_cons, n_sv, n_z0, List.getD_cons_zero, List.getD_cons_succ, hq, hl, j_cmp, if_true]
    by_cases h1 : 0 ≤ i <;> by_cases h2 : i < hh r.toNat 1 <;> by_cases h3 : i < len <;> simp [h1, h2, h3, j_b, hq, hl]
  show (evS xs L ck (evF xs L ck K cW g_M n) K cW bb_68 [r, i] ((a_g3, c, d), hh)).bind _ = _
  rw [k1, Option.bind_some]
  exact if_pos chk_self
theorem tot_101 : TotF (g_T 0) (a_g3, c, d) g_ro (evF xs L ck K cW g_M (n + 1)) 101 := by
  intro av hh hH hv
  obtain ⟨r, i, v, rfl, hr, hi, hvv⟩ := VL3 (s := 15) (t := 1) (u := 2) hv
  obtain ⟨r0, c1, hc1, he1⟩ := hr.2.2.2.2.1 (by decide) (by decide)
  obtain ⟨q, hq, q0, c', hc', he'⟩ := ref_at (ci := 5) (k := 0) (kd := 7) hr (by decide) rfl (by decide) (by decide)
  obtain ⟨hl, hl2⟩ := len_at hc'
  have ht := fun j => (ty_arr hc' j).2.1 he'
  have hro := ro_arr hc1 (by omega) (by omega) hq hc' he' (by decide)
  generalize (c'.2.1 : Int) = len at hl hl2
  refine ⟨[], if 0 ≤ i ∧ i < len then j_up hh q.toNat i.toNat v else hh, ?_, ?_, ?_, trivial⟩
  · rw [evF_s, gm_101]
    have k1 : evS xs L ck (evF xs L ck K cW g_M n) K cW bb_101 [r, i, v, 0] ((a_g3, c, d), hh) = some (1, [], [r, i, v, 0], ((a_g3, c, d), if 0 ≤ i ∧ i < len then j_up hh q.toNat i.toNat v else hh)) := by
      generalize evF xs L ck K cW g_M n = F
      unfold bb_101
      simp only [es_2, es_10, es_20, es_7, es_17, s_seq, s_if, s_ast, ee_25, ee_21, ee_20, ee_10, ee_5, ee_3, ee_1, n_ife, n_nz, n_cmp, n_alen, Option.bind_some, j_hd, List.headD_cons, n_sv, n_z0, List.getD_cons_zero, List.getD_cons_succ, hq, hl, j_cmp, if_true]
      by_cases h1 : 0 ≤ i <;> by_cases h2 : i < len <;> simp [h1, h2, j_b, hq, hl]
    show (evS xs L ck (evF xs L ck K cW g_M n) K cW bb_101 [r, i, v, 0] ((a_g3, c, d), hh)).bind _ = _
    rw [k1, Option.bind_some]
    exact if_pos chk_self
  · split
    · exact HT.up hH (fun e => absurd ((ht _).symm.trans e) (by decide)) (fun _ => hvv.2.1 rfl) (fun e => absurd ((ht _).symm.trans e) (by decide))
    · exact hH
  · split
    · exact FR.up (hro _)
    · exact FR.rf
end LEAF2
end
section
/-! ===== the class's leaves: words, names, the next reading ===== -/
section LEAF3
variable {xs : Nat → Int} {L K c d n : Nat} {ck : Nat → List Nat} {cW : Nat → Nat → Int} {F : XP} {a b e : SX}
theorem ee_13 : evE xs L ck F cW (sx 13 a b e) = n_wf cW (sx_n e) (evE xs L ck F cW a) := rfl
theorem ee_22 : evE xs L ck F cW (sx 22 a b e) = n_cmp (j_cmp (sx_n e)) (evE xs L ck F cW a) (evE xs L ck F cW b) := rfl
theorem ee_17 : evE xs L ck F cW (sx 17 a b e) = fun en st => (evE xs L ck F cW a en st).bind fun x => (evE xs L ck F cW b en x.2).bind fun y => if j_hd y.1 = 0 then none else some ([j_div (sx_n e) (j_hd x.1) (j_hd y.1)], y.2) := rfl
theorem arr_small : a_g3.all (fun c => decide (c.2.1 ≤ 10000)) = true := by decide +kernel
theorem len_small {q : Nat} {c : XC} (hc : a_g3[q]? = some c) : (c.2.1 : Int) ≤ 10000 := by
  have h := List.all_eq_true.mp arr_small c (List.mem_of_getElem? hc)
  have h2 : c.2.1 ≤ 10000 := of_decide_eq_true h
  omega
theorem VL1 {z : Nat → Int} {g : XS} {s : Nat} {av : List Int} (h : VL z g [s] av) : ∃ v, av = [v] ∧ TV z g s v := by
  match av, h with
  | [v], h => exact ⟨v, rfl, h.1⟩
theorem tot_77 (hK : 4294967300 ≤ K) : TotF (g_T 0) (a_g3, c, d) g_ro (evF xs L ck K cW g_M (n + 1)) 77 := by
  intro av hh hH hv
  obtain ⟨r, rfl, hr⟩ := VL1 (s := 19) hv
  have go := lp_gen (g := (a_g3, c, d)) (C' := evE xs L ck (evF xs L ck K cW g_M n) cW lc_77) (B' := evS xs L ck (evF xs L ck K cW g_M n) K cW lb_77) (P' := evS xs L ck (evF xs L ck K cW g_M n) K cW ls_77)
    (Inv := fun en h => ∃ i : Int, en = [r, i] ∧ 0 ≤ i ∧ i ≤ 24 ∧ h = hh) (Done := fun _ h => h = hh) (Ret := fun vs h => h = hh ∧ ∃ w : Int, vs = [w] ∧ 0 ≤ w ∧ w < 24) (mea := fun en _ => (24 - en.getD 1 0).toNat) (by
    rintro en h ⟨i, rfl, i0, i1, rfl⟩
    by_cases hi : h r.toNat 3 = 1 ∧ i < 24
    · have hc : evE xs L ck (evF xs L ck K cW g_M n) cW lc_77 [r, i] ((a_g3, c, d), h) = some ([1], ((a_g3, c, d), h)) := by
        unfold lc_77
        simp only [ee_25, n_ife, n_nz, ee_20, ee_10, ee_4, ee_3, ee_1, n_cmp, n_alen, Option.bind_some, j_hd, List.headD_cons, n_sv, n_z0, List.getD_cons_zero, List.getD_cons_succ, j_cmp, if_true]
        simp [hi.1, hi.2, j_b]
      by_cases hw : cW 0 i.toNat = h r.toNat 6
      · refine Or.inr ⟨1, h, by decide, hc, 1, [i], [r, i], h, ?_, Or.inr (Or.inr ⟨rfl, rfl, i, rfl, i0, hi.2⟩)⟩
        unfold lb_77
        simp only [es_20, es_10, es_16, s_if, ee_22, ee_13, n_wf, ee_7, n_aload, ee_4, ee_3, ee_1, n_cmp, Option.bind_some, j_hd, List.headD_cons, n_sv, n_z0, List.getD_cons_zero, List.getD_cons_succ, j_cmp, if_true]
        simp [i0, hi.2, hw, j_b]
      · refine Or.inr ⟨1, h, by decide, hc, 0, [], [r, i], h, ?_, Or.inl ⟨Or.inl rfl, [r, i + 1], h, ?_, ⟨i + 1, rfl, by omega, by omega, rfl⟩, ?_⟩⟩
        · unfold lb_77
          simp only [es_20, es_10, es_16, s_if, ee_22, ee_13, n_wf, ee_7, n_aload, ee_4, ee_3, ee_1, n_cmp, Option.bind_some, j_hd, List.headD_cons, n_sv, n_z0, List.getD_cons_zero, List.getD_cons_succ, j_cmp, if_true]
          simp [i0, hi.2, hw, j_b]
        · show some (0, [], [r, j32 (i + 1)], _) = _
          rw [j32_up i0 hi.2 (by decide)]
        · show (24 - (i + 1)).toNat < (24 - i).toNat
          omega
    · refine Or.inl ⟨h, ?_, rfl⟩
      unfold lc_77
      simp only [ee_25, n_ife, n_nz, ee_20, ee_10, ee_4, ee_3, ee_1, n_cmp, n_alen, Option.bind_some, j_hd, List.headD_cons, n_sv, n_z0, List.getD_cons_zero, List.getD_cons_succ, j_cmp, if_true]
      by_cases a1 : h r.toNat 3 = 1
      · have a2 : ¬ i < 24 := fun k => hi ⟨a1, k⟩
        simp [a1, a2, j_b]
      · simp [a1, j_b]) K (24 - 0) [r, 0] hh ⟨0, rfl, Int.le_refl _, by decide, rfl⟩ (Nat.le_refl _) (by omega)
  have fin : ∀ (w : Int), 0 ≤ w → w < 24 → (∃ en', evS xs L ck (evF xs L ck K cW g_M n) K cW bb_77 [r, 0] ((a_g3, c, d), hh) = some (1, [w], en', ((a_g3, c, d), hh))) → ∃ r' h', evF xs L ck K cW g_M (n + 1) 77 [r] ((a_g3, c, d), hh) = some (1, r', ((a_g3, c, d), h')) ∧ HT g_fk a_g3 h' ∧ FR g_ro hh h' ∧ VL (fun _ => 0) a_g3 [3] r' := fun w w0 w1 ⟨en', k1⟩ => by
    refine ⟨[w], hh, ?_, hH, FR.rf, TV.word ⟨w0, w1⟩, trivial⟩
    rw [evF_s, gm_77]
    show (evS xs L ck (evF xs L ck K cW g_M n) K cW bb_77 [r, 0] ((a_g3, c, d), hh)).bind _ = _
    rw [k1, Option.bind_some]
    exact if_pos chk_self
  rcases go with ⟨en', h', e1, rfl⟩ | ⟨vs, en', h', e1, rfl, w, rfl, w0, w1⟩
  · refine fin 23 (by decide) (by decide) ⟨en', ?_⟩
    rw [lq_77, es_2, es_20, es_2, es_3, es_12, es_16, ee_1, ee_1]
    unfold s_seq
    dsimp only
    simp only [Option.bind_some, if_true]
    rw [show [r, 0].set (sx_n (sv 1)) (j_hd [if sx_n z0 = 0 then (sx_n z0 : Int) else -(sx_n z0 : Int)]) = [r, 0] from rfl, e1]
    rfl
  · refine fin w w0 w1 ⟨en', ?_⟩
    rw [lq_77, es_2, es_20, es_2, es_3, es_12, es_16, ee_1, ee_1]
    unfold s_seq
    dsimp only
    simp only [Option.bind_some, if_true]
    rw [show [r, 0].set (sx_n (sv 1)) (j_hd [if sx_n z0 = 0 then (sx_n z0 : Int) else -(sx_n z0 : Int)]) = [r, 0] from rfl, e1]
    rfl
theorem find_ok (hK : 4294967300 ≤ K) {p name from0 many : Int} {hh : XH} (hp : TV (fun _ => 0) a_g3 15 p) (f0 : 0 ≤ from0) (f1 : from0 ≤ 8) : ∃ v : Int, InI v ∧ evF xs L ck K cW g_M (n + 1) 105 [p, name, from0, many] ((a_g3, c, d), hh) = some (1, [v], ((a_g3, c, d), hh)) := by
  obtain ⟨q, hq, q0, c', hc', he'⟩ := ref_at (ci := 5) (k := 0) (kd := 7) hp (by decide) rfl (by decide) (by decide)
  obtain ⟨hl, hl2⟩ := len_at hc'
  have hl3 := len_small hc'
  have hl0 : (0 : Int) ≤ (c'.2.1 : Int) := by omega
  generalize (c'.2.1 : Int) = len at hl hl2 hl3 hl0
  have go := lp_gen (g := (a_g3, c, d)) (C' := evE xs L ck (evF xs L ck K cW g_M n) cW lc_105) (B' := evS xs L ck (evF xs L ck K cW g_M n) K cW lb_105) (P' := evS xs L ck (evF xs L ck K cW g_M n) K cW ls_105)
    (Inv := fun en h => ∃ i : Int, en = [p, name, 0, from0, many, i] ∧ 0 ≤ i ∧ i ≤ len ∧ h = hh) (Done := fun _ h => h = hh) (Ret := fun vs h => h = hh ∧ ∃ w : Int, vs = [w] ∧ 0 ≤ w ∧ w < 2147483648) (mea := fun en _ => (len - en.getD 5 0).toNat) (by
    rintro en h ⟨i, rfl, i0, i1, rfl⟩
    have e8 : j_iop 0 from0 i = from0 + i := j32_in ⟨by omega, by omega⟩
    by_cases hi : i < many ∧ from0 + i < len
    · have hc : evE xs L ck (evF xs L ck K cW g_M n) cW lc_105 [p, name, 0, from0, many, i] ((a_g3, c, d), h) = some ([1], ((a_g3, c, d), h)) := by
        unfold lc_105
        simp only [ee_25, n_ife, n_nz, ee_20, ee_14, n_bin, ee_10, ee_5, ee_3, n_cmp, n_alen, Option.bind_some, j_hd, List.headD_cons, n_sv, n_z0, List.getD_cons_zero, List.getD_cons_succ, hq, hl, j_cmp, e8]
        simp [hi.1, hi.2, j_b]
      have a1 : 0 ≤ from0 + i ∧ from0 + i < len := by omega
      by_cases hw : h q.toNat (from0 + i).toNat = name
      · refine Or.inr ⟨1, h, by decide, hc, 1, [i], [p, name, 0, from0, many, i], h, ?_, Or.inr (Or.inr ⟨rfl, rfl, i, rfl, i0, by omega⟩)⟩
        unfold lb_105
        simp only [es_20, es_10, es_16, s_if, ee_22, ee_14, n_bin, ee_7, n_aload, ee_5, ee_3, n_cmp, Option.bind_some, j_hd, List.headD_cons, n_sv, n_z0, List.getD_cons_zero, List.getD_cons_succ, j_cmp, hq, hl, e8]
        simp [hl, a1, hw, j_b]
      · refine Or.inr ⟨1, h, by decide, hc, 0, [], [p, name, 0, from0, many, i], h, ?_, Or.inl ⟨Or.inl rfl, [p, name, 0, from0, many, i + 1], h, ?_, ⟨i + 1, rfl, by omega, by omega, rfl⟩, ?_⟩⟩
        · unfold lb_105
          simp only [es_20, es_10, es_16, s_if, ee_22, ee_14, n_bin, ee_7, n_aload, ee_5, ee_3, n_cmp, Option.bind_some, j_hd, List.headD_cons, n_sv, n_z0, List.getD_cons_zero, List.getD_cons_succ, j_cmp, hq, hl, e8]
          simp [hl, a1, hw, j_b]
        · show some (0, [], [p, name, 0, from0, many, j32 (i + 1)], _) = _
          rw [j32_up i0 (by omega : i < len) hl2]
        · show (len - (i + 1)).toNat < (len - i).toNat
          omega
    · refine Or.inl ⟨h, ?_, rfl⟩
      unfold lc_105
      simp only [ee_25, n_ife, n_nz, ee_20, ee_14, n_bin, ee_10, ee_5, ee_3, n_cmp, n_alen, Option.bind_some, j_hd, List.headD_cons, n_sv, n_z0, List.getD_cons_zero, List.getD_cons_succ, hq, hl, j_cmp, e8]
      by_cases a1 : i < many
      · have a2 : ¬ from0 + i < len := fun k => hi ⟨a1, k⟩
        simp [a1, a2, j_b]
      · simp [a1, j_b]) K (len - 0).toNat [p, name, 0, from0, many, 0] hh ⟨0, rfl, Int.le_refl _, hl0, rfl⟩ (Nat.le_refl _) (by omega)
  have fin : ∀ (w : Int), (∃ en', evS xs L ck (evF xs L ck K cW g_M n) K cW bb_105 [p, name, 0, from0, many, 0] ((a_g3, c, d), hh) = some (1, [w], en', ((a_g3, c, d), hh))) → evF xs L ck K cW g_M (n + 1) 105 [p, name, from0, many] ((a_g3, c, d), hh) = some (1, [w], ((a_g3, c, d), hh)) := fun w ⟨en', k1⟩ => by
    rw [evF_s, gm_105]
    show (evS xs L ck (evF xs L ck K cW g_M n) K cW bb_105 [p, name, 0, from0, many, 0] ((a_g3, c, d), hh)).bind _ = _
    rw [k1, Option.bind_some]
    exact if_pos chk_self
  rcases go with ⟨en', h', e1, rfl⟩ | ⟨vs, en', h', e1, rfl, w, rfl, w0, w1⟩
  · refine ⟨-1, ⟨by decide, by decide⟩, fin _ ⟨en', ?_⟩⟩
    rw [lq_105, es_2, es_20, es_2, es_3, es_12, es_16, ee_1, ee_1]
    unfold s_seq
    dsimp only
    simp only [Option.bind_some, if_true]
    rw [show [p, name, 0, from0, many, 0].set (sx_n (sv 5)) (j_hd [if sx_n z0 = 0 then (sx_n z0 : Int) else -(sx_n z0 : Int)]) = [p, name, 0, from0, many, 0] from rfl, e1]
    rfl
  · refine ⟨w, ⟨by omega, by omega⟩, fin _ ⟨en', ?_⟩⟩
    rw [lq_105, es_2, es_20, es_2, es_3, es_12, es_16, ee_1, ee_1]
    unfold s_seq
    dsimp only
    simp only [Option.bind_some, if_true]
    rw [show [p, name, 0, from0, many, 0].set (sx_n (sv 5)) (j_hd [if sx_n z0 = 0 then (sx_n z0 : Int) else -(sx_n z0 : Int)]) = [p, name, 0, from0, many, 0] from rfl, e1]
    rfl
end LEAF3
end
section
/-! ===== the class's leaves: those that call ===== -/
section LEAF4
variable {xs : Nat → Int} {L K c d n : Nat} {ck : Nat → List Nat} {cW : Nat → Nat → Int} {F : XP} {a b e : SX}
theorem gm_102 : g_M 102 = (0, 3, [15, 2], [1], bb_102) := rfl
theorem gm_103 : g_M 103 = (0, 3, [15, 2], [1], bb_103) := rfl
theorem gm_104 : g_M 104 = (0, 3, [15, 2], [1], bb_104) := rfl
theorem tot_102 (hK : 4294967300 ≤ K) : TotF (g_T 0) (a_g3, c, d) g_ro (evF xs L ck K cW g_M (n + 2)) 102 := by
  intro av hh hH hv
  obtain ⟨p, name, rfl, hp, hn⟩ := VL2 (s := 15) (t := 2) hv
  obtain ⟨v, hv1, e1⟩ := find_ok (xs := xs) (L := L) (ck := ck) (cW := cW) (c := c) (d := d) (n := n) hK (name := name) (from0 := 0) (many := hh p.toNat 10) (hh := hh) hp (by decide) (by decide)
  refine ⟨[v], hh, ?_, hH, FR.rf, TV.int hv1, trivial⟩
  rw [evF_s, gm_102]
  generalize evF xs L ck K cW g_M (n + 1) = F at e1
  have k1 : evS xs L ck F K cW bb_102 [p, name, 0] ((a_g3, c, d), hh) = some (1, [v], [p, name, 0], ((a_g3, c, d), hh)) := by
    unfold bb_102
    simp only [es_16, ee_32, n_call, ee_30, ee_31, ee_4, ee_3, ee_1, Option.bind_some, j_hd, List.headD_cons, n_sv, n_z0, List.getD_cons_zero, List.getD_cons_succ, List.cons_append, List.nil_append, if_true]
    have e2 : F 105 [p, name, ((0 : Nat) : Int), hh p.toNat 10] ((a_g3, c, d), hh) = some (1, [v], ((a_g3, c, d), hh)) := e1
    rw [e2]
    rfl
  show (evS xs L ck F K cW bb_102 [p, name, 0] ((a_g3, c, d), hh)).bind _ = _
  rw [k1, Option.bind_some]
  exact if_pos chk_self
theorem tot_103 (hK : 4294967300 ≤ K) : TotF (g_T 0) (a_g3, c, d) g_ro (evF xs L ck K cW g_M (n + 2)) 103 := by
  intro av hh hH hv
  obtain ⟨p, name, rfl, hp, hn⟩ := VL2 (s := 15) (t := 2) hv
  obtain ⟨v, hv1, e1⟩ := find_ok (xs := xs) (L := L) (ck := ck) (cW := cW) (c := c) (d := d) (n := n) hK (name := name) (from0 := 4) (many := hh p.toNat 11) (hh := hh) hp (by decide) (by decide)
  refine ⟨[v], hh, ?_, hH, FR.rf, TV.int hv1, trivial⟩
  rw [evF_s, gm_103]
  generalize evF xs L ck K cW g_M (n + 1) = F at e1
  have k1 : evS xs L ck F K cW bb_103 [p, name, 0] ((a_g3, c, d), hh) = some (1, [v], [p, name, 0], ((a_g3, c, d), hh)) := by
    unfold bb_103
    simp only [es_16, ee_32, n_call, ee_30, ee_31, ee_4, ee_3, ee_1, Option.bind_some, j_hd, List.headD_cons, n_sv, n_z0, List.getD_cons_zero, List.getD_cons_succ, List.cons_append, List.nil_append, if_true]
    have e2 : F 105 [p, name, ((4 : Nat) : Int), hh p.toNat 11] ((a_g3, c, d), hh) = some (1, [v], ((a_g3, c, d), hh)) := e1
    rw [e2]
    rfl
  show (evS xs L ck F K cW bb_103 [p, name, 0] ((a_g3, c, d), hh)).bind _ = _
  rw [k1, Option.bind_some]
  exact if_pos chk_self
theorem tot_104 (hK : 4294967300 ≤ K) : TotF (g_T 0) (a_g3, c, d) g_ro (evF xs L ck K cW g_M (n + 2)) 104 := by
  intro av hh hH hv
  obtain ⟨p, name, rfl, hp, hn⟩ := VL2 (s := 15) (t := 2) hv
  obtain ⟨v, hv1, e1⟩ := find_ok (xs := xs) (L := L) (ck := ck) (cW := cW) (c := c) (d := d) (n := n) hK (name := name) (from0 := 8) (many := hh p.toNat 12) (hh := hh) hp (by decide) (by decide)
  refine ⟨[v], hh, ?_, hH, FR.rf, TV.int hv1, trivial⟩
  rw [evF_s, gm_104]
  generalize evF xs L ck K cW g_M (n + 1) = F at e1
  have k1 : evS xs L ck F K cW bb_104 [p, name, 0] ((a_g3, c, d), hh) = some (1, [v], [p, name, 0], ((a_g3, c, d), hh)) := by
    unfold bb_104
    simp only [es_16, ee_32, n_call, ee_30, ee_31, ee_4, ee_3, ee_1, Option.bind_some, j_hd, List.headD_cons, n_sv, n_z0, List.getD_cons_zero, List.getD_cons_succ, List.cons_append, List.nil_append, if_true]
    have e2 : F 105 [p, name, ((8 : Nat) : Int), hh p.toNat 12] ((a_g3, c, d), hh) = some (1, [v], ((a_g3, c, d), hh)) := e1
    rw [e2]
    rfl
  show (evS xs L ck F K cW bb_104 [p, name, 0] ((a_g3, c, d), hh)).bind _ = _
  rw [k1, Option.bind_some]
  exact if_pos chk_self
theorem j32_m (a b : Int) : j32 (a + j32 b) = j32 (a + b) := by
  show (Int32.ofInt (a + (Int32.ofInt b).toInt)).toInt = (Int32.ofInt (a + b)).toInt
  congr 1
  rw [Int32.ofInt_add, Int32.ofInt_toInt, ← Int32.ofInt_add]
theorem tot_151 (hK : 4294967300 ≤ K) : TotF (g_T 0) (a_g3, c, d) g_ro (evF xs L ck K cW g_M (n + 2)) 151 := by
  intro av hh hH hv
  obtain ⟨r, me, pl, la, rfl, hr, hme, hpl, hla⟩ : ∃ r me pl la, av = [r, me, pl, la] ∧ TV (fun _ => 0) a_g3 12 r ∧ TV (fun _ => 0) a_g3 1 me ∧ TV (fun _ => 0) a_g3 1 pl ∧ TV (fun _ => 0) a_g3 1 la := by
    have hv : VL (fun _ => 0) a_g3 [12, 1, 1, 1] av := hv
    match av, hv with
    | [r, me, pl, la], h => exact ⟨r, me, pl, la, rfl, h.1, h.2.1, h.2.2.1, h.2.2.2.1⟩
  obtain ⟨ro, hro, ro0, cr, hcr, her⟩ := ref_at (ci := 2) (k := 0) (kd := 17) hr (by decide) rfl (by decide) (by decide)
  have hrow : TV (fun _ => 0) a_g3 17 ro := TV.ref (by decide) (by decide) ⟨ro0, cr, hcr, her⟩
  obtain ⟨q, len, hq, hl, l0, l1, ht, hwr⟩ := row_at hrow
  -- where the row is looked at
  have e8 : ∀ i : Int, j_iop 0 (j_iop 2 me 13) i = j32 (j_iop 2 me 13 + i) := fun i => rfl
  generalize hm13 : j_iop 2 me 13 = m13 at e8
  have hstep : ∀ i : Int, 0 ≤ j32 (m13 + i) → j32 (m13 + i) < len → j32 (m13 + j32 (i + 1)) = j32 (m13 + i) + 1 := fun i h0 h1 => by
    rw [j32_m, ← Int.add_assoc]
    have : j32 (m13 + i + 1) = j32 (1 + j32 (m13 + i)) := by rw [j32_m, Int.add_comm]
    rw [this, j32_in ⟨by omega, by omega⟩]
    omega
  have hget : ∀ i : Int, evF xs L ck K cW g_M (n + 1) 54 [ro, j32 (m13 + i)] ((a_g3, c, d), hh) = some (1, [if 0 ≤ j32 (m13 + i) ∧ j32 (m13 + i) < len then hh q.toNat (j32 (m13 + i)).toNat else 0], ((a_g3, c, d), hh)) := fun i => row_get hq hl
  generalize hF : evF xs L ck K cW g_M (n + 1) = F at hget
  have go := lp_gen (g := (a_g3, c, d)) (C' := evE xs L ck F cW lc_151) (B' := evS xs L ck F K cW lb_151) (P' := evS xs L ck F K cW ls_151)
    (Inv := fun en h => ∃ i : Int, en = [r, me, pl, la, i] ∧ InI i ∧ h = hh) (Done := fun _ h => h = hh) (Ret := fun vs h => h = hh ∧ ∃ w : Int, vs = [w] ∧ InI w) (mea := fun en _ => if 0 ≤ j32 (m13 + en.getD 4 0) ∧ j32 (m13 + en.getD 4 0) < len then (len - j32 (m13 + en.getD 4 0)).toNat else 0) (by
    rintro en h ⟨i, rfl, hi, rfl⟩
    by_cases hla2 : i ≤ la
    · have hc : evE xs L ck F cW lc_151 [r, me, pl, la, i] ((a_g3, c, d), h) = some ([1], ((a_g3, c, d), h)) := by
        unfold lc_151
        simp only [ee_20, ee_3, n_cmp, Option.bind_some, j_hd, List.headD_cons, n_sv, n_z0, List.getD_cons_zero, List.getD_cons_succ, j_cmp]
        simp [hla2, j_b]
      have hb : ∀ w : Int, F 54 [ro, j32 (m13 + i)] ((a_g3, c, d), h) = some (1, [w], ((a_g3, c, d), h)) → evS xs L ck F K cW lb_151 [r, me, pl, la, i] ((a_g3, c, d), h) = if w = -1 then some (0, [], [r, me, pl, la, i], ((a_g3, c, d), h)) else some (1, [i], [r, me, pl, la, i], ((a_g3, c, d), h)) := fun w hw => by
        unfold lb_151
        simp only [es_20, es_10, es_16, s_if, ee_32, n_call, ee_30, ee_31, ee_20, ee_14, n_bin, ee_5, ee_3, ee_1, n_cmp, Option.bind_some, j_hd, List.headD_cons, n_sv, n_z0, List.getD_cons_zero, List.getD_cons_succ, List.cons_append, List.nil_append, hro]
        have e13 : j_iop 2 me ((13 : Nat) : Int) = m13 := hm13
        simp only [if_true, e13, e8, hw, Option.bind_some, j_cmp]
        by_cases h1 : w = -1 <;> simp [h1, j_b]
      by_cases hin : 0 ≤ j32 (m13 + i) ∧ j32 (m13 + i) < len
      · have hw := hget i
        rw [if_pos hin] at hw
        have hbb := hb _ hw
        by_cases h1 : h q.toNat (j32 (m13 + i)).toNat = -1
        · rw [if_pos h1] at hbb
          refine Or.inr ⟨1, h, by decide, hc, 0, [], _, h, hbb, Or.inl ⟨Or.inl rfl, [r, me, pl, la, j32 (i + 1)], h, rfl, ⟨j32 (i + 1), rfl, in_j32 _, rfl⟩, ?_⟩⟩
          show (if 0 ≤ j32 (m13 + j32 (i + 1)) ∧ j32 (m13 + j32 (i + 1)) < len then (len - j32 (m13 + j32 (i + 1))).toNat else 0) < (if 0 ≤ j32 (m13 + i) ∧ j32 (m13 + i) < len then (len - j32 (m13 + i)).toNat else 0)
          rw [if_pos hin, hstep i hin.1 hin.2]
          split <;> omega
        · rw [if_neg h1] at hbb
          exact Or.inr ⟨1, h, by decide, hc, 1, [i], _, h, hbb, Or.inr (Or.inr ⟨rfl, rfl, i, rfl, hi⟩)⟩
      · have hw := hget i
        rw [if_neg hin] at hw
        have hbb := hb _ hw
        rw [if_neg (by decide)] at hbb
        exact Or.inr ⟨1, h, by decide, hc, 1, [i], _, h, hbb, Or.inr (Or.inr ⟨rfl, rfl, i, rfl, hi⟩)⟩
    · refine Or.inl ⟨h, ?_, rfl⟩
      unfold lc_151
      simp only [ee_20, ee_3, n_cmp, Option.bind_some, j_hd, List.headD_cons, n_sv, n_z0, List.getD_cons_zero, List.getD_cons_succ, j_cmp]
      simp [hla2, j_b]) K len.toNat [r, me, pl, la, j_iop 0 pl 1] hh ⟨_, rfl, iop_in _ _ _, rfl⟩ (by
        show (if 0 ≤ j32 (m13 + j_iop 0 pl 1) ∧ j32 (m13 + j_iop 0 pl 1) < len then (len - j32 (m13 + j_iop 0 pl 1)).toNat else 0) ≤ _
        split <;> omega) (by omega)
  have fin : ∀ (w : Int), InI w → (∃ en', evS xs L ck F K cW bb_151 [r, me, pl, la, 0] ((a_g3, c, d), hh) = some (1, [w], en', ((a_g3, c, d), hh))) → ∃ r' h', evF xs L ck K cW g_M (n + 2) 151 [r, me, pl, la] ((a_g3, c, d), hh) = some (1, r', ((a_g3, c, d), h')) ∧ HT g_fk a_g3 h' ∧ FR g_ro hh h' ∧ VL (fun _ => 0) a_g3 [1] r' := fun w hw ⟨en', k1⟩ => by
    refine ⟨[w], hh, ?_, hH, FR.rf, TV.int hw, trivial⟩
    rw [evF_s, gm_151, hF]
    show (evS xs L ck F K cW bb_151 [r, me, pl, la, 0] ((a_g3, c, d), hh)).bind _ = _
    rw [k1, Option.bind_some]
    exact if_pos chk_self
  have e0 : evE xs L ck F cW (sx 14 (sx 3 (sv 2) z0 z0) (sx 1 (sv 1) (sv 1) z0) z0) [r, me, pl, la, 0] ((a_g3, c, d), hh) = some ([j_iop 0 pl 1], ((a_g3, c, d), hh)) := rfl
  rcases go with ⟨en', h', e1, rfl⟩ | ⟨vs, en', h', e1, rfl, w, rfl, hw⟩
  · refine fin (-1) ⟨by decide, by decide⟩ ⟨en', ?_⟩
    rw [lq_151, es_2, es_20, es_2, es_3, es_12, es_16, ee_1]
    unfold s_seq
    dsimp only
    rw [e0]
    simp only [Option.bind_some, if_true]
    rw [show [r, me, pl, la, 0].set (sx_n (sv 4)) (j_hd [j_iop 0 pl 1]) = [r, me, pl, la, j_iop 0 pl 1] from rfl, e1]
    rfl
  · refine fin w hw ⟨en', ?_⟩
    rw [lq_151, es_2, es_20, es_2, es_3, es_12, es_16, ee_1]
    unfold s_seq
    dsimp only
    rw [e0]
    simp only [Option.bind_some, if_true]
    rw [show [r, me, pl, la, 0].set (sx_n (sv 4)) (j_hd [j_iop 0 pl 1]) = [r, me, pl, la, j_iop 0 pl 1] from rfl, e1]
    rfl
end LEAF4
end
section
/-! ===== the class's two that loop and call ===== -/
def lJ_98 : SX := (sx 3 (sv 6) (sx 1 z0 (sv 1) z0) z0)
def lI_98 : SX := (sx 3 (sv 7) (sx 1 z0 (sv 1) z0) z0)
def lA_98 : SX := (sx 9 (sx 32 (sx 30 (sx 3 z0 z0 z0) (sx 30 (sx 14 (sx 1 z0 (sv 1) z0) (sx 4 (sx 3 z0 z0 z0) (sv 10) z0) z0) (sx 30 (sx 3 (sv 1) z0 z0) (sx 31 z0 z0 z0) z0) z0) z0) (sv 101) z0) z0 z0)
def lB_98 : SX := (sx 9 (sx 32 (sx 30 (sx 5 (sx 3 z0 z0 z0) (sv 2) z0) (sx 30 (sx 4 (sx 3 z0 z0 z0) (sv 10) z0) (sx 30 (sx 3 (sv 3) z0 z0) (sx 31 z0 z0 z0) z0) z0) z0) (sv 55) z0) z0 z0)
def lD_98 : SX := (sx 6 (sx 3 z0 z0 z0) (sx 1 (sv 1) (sv 1) z0) (sv 160))
def lc_98 : SX := (sx 25 (sx 21 (sx 3 (sv 5) z0 z0) z0 (sv 4)) (sx 20 (sx 3 (sv 7) z0 z0) (sx 1 (sv 13) (sv 1) z0) (sv 2)) z0)
def lb_98 : SX := (sx 20 (sx 2 (sx 9 (sx 32 (sx 30 (sx 5 (sx 3 z0 z0 z0) (sv 4) z0) (sx 30 (sx 14 (sx 14 (sx 4 (sx 3 z0 z0 z0) (sv 10) z0) (sx 1 (sv 13) (sv 1) z0) (sv 2)) (sx 3 (sv 7) z0 z0) z0) (sx 30 (sx 3 (sv 6) z0 z0) (sx 31 z0 z0 z0) z0) z0) z0) (sv 55) z0) z0 z0) (sx 3 (sv 6) (sx 14 (sx 3 (sv 6) z0 z0) (sx 32 (sx 30 (sx 3 (sv 4) z0 z0) (sx 30 (sx 17 (sx 3 (sv 7) z0 z0) (sx 3 (sv 5) z0 z0) (sv 1)) (sx 31 z0 z0 z0) z0) z0) (sv 54) z0) z0) z0) z0) z0 z0)
def ls_98 : SX := (sx 4 (sv 7) (sv 1) z0)
theorem lq_98 : bb_98 = sx 2 (sx 2 lA_98 (sx 2 lB_98 (sx 2 lJ_98 (sx 2 (sx 20 (sx 2 lI_98 (sx 12 lc_98 lb_98 ls_98) z0) z0 z0) lD_98 z0) z0) z0) z0) (sx 17 z0 z0 z0) z0 := rfl
theorem gm_98 : g_M 98 = (0, 8, [15, 2, 1, 17, 1], [], bb_98) := rfl
def lI_97 : SX := (sx 3 (sv 2) (sx 1 z0 (sv 1) z0) z0)
def lR_97 : SX := (sx 2 (sx 9 (sx 32 (sx 30 (sx 5 (sx 3 z0 z0 z0) (sv 1) z0) (sx 30 (sx 5 (sx 3 (sv 1) z0 z0) (sv 1) z0) (sx 31 z0 z0 z0) z0) z0) (sv 58) z0) z0 z0) (sx 2 (sx 9 (sx 32 (sx 30 (sx 5 (sx 3 z0 z0 z0) (sv 2) z0) (sx 30 (sx 5 (sx 3 (sv 1) z0 z0) (sv 2) z0) (sx 31 z0 z0 z0) z0) z0) (sv 58) z0) z0 z0) (sx 2 (sx 9 (sx 32 (sx 30 (sx 5 (sx 3 z0 z0 z0) (sv 3) z0) (sx 30 (sx 5 (sx 3 (sv 1) z0 z0) (sv 3) z0) (sx 31 z0 z0 z0) z0) z0) (sv 58) z0) z0 z0) (sx 2 (sx 9 (sx 32 (sx 30 (sx 5 (sx 3 z0 z0 z0) (sv 4) z0) (sx 30 (sx 5 (sx 3 (sv 1) z0 z0) (sv 4) z0) (sx 31 z0 z0 z0) z0) z0) (sv 58) z0) z0 z0) (sx 2 (sx 9 (sx 32 (sx 30 (sx 5 (sx 3 z0 z0 z0) (sv 5) z0) (sx 30 (sx 5 (sx 3 (sv 1) z0 z0) (sv 5) z0) (sx 31 z0 z0 z0) z0) z0) (sv 58) z0) z0 z0) (sx 2 (sx 9 (sx 32 (sx 30 (sx 5 (sx 3 z0 z0 z0) (sv 6) z0) (sx 30 (sx 5 (sx 3 (sv 1) z0 z0) (sv 6) z0) (sx 31 z0 z0 z0) z0) z0) (sv 58) z0) z0 z0) (sx 2 (sx 9 (sx 32 (sx 30 (sx 5 (sx 3 z0 z0 z0) (sv 7) z0) (sx 30 (sx 5 (sx 3 (sv 1) z0 z0) (sv 7) z0) (sx 31 z0 z0 z0) z0) z0) (sv 58) z0) z0 z0) (sx 2 (sx 9 (sx 32 (sx 30 (sx 5 (sx 3 z0 z0 z0) (sv 8) z0) (sx 30 (sx 5 (sx 3 (sv 1) z0 z0) (sv 8) z0) (sx 31 z0 z0 z0) z0) z0) (sv 80) z0) z0 z0) (sx 2 (sx 5 (sx 3 z0 z0 z0) (sx 4 (sx 3 (sv 1) z0 z0) (sv 9) z0) (sv 9)) (sx 2 (sx 5 (sx 3 z0 z0 z0) (sx 4 (sx 3 (sv 1) z0 z0) (sv 10) z0) (sv 10)) (sx 2 (sx 5 (sx 3 z0 z0 z0) (sx 4 (sx 3 (sv 1) z0 z0) (sv 11) z0) (sv 11)) (sx 5 (sx 3 z0 z0 z0) (sx 4 (sx 3 (sv 1) z0 z0) (sv 12) z0) (sv 12)) z0) z0) z0) z0) z0) z0) z0) z0) z0) z0) z0)
def lc_97 : SX := (sx 25 (sx 20 (sx 3 (sv 2) z0 z0) (sx 10 (sx 5 (sx 3 z0 z0 z0) z0 z0) z0 z0) (sv 2)) (sx 20 (sx 3 (sv 2) z0 z0) (sx 10 (sx 5 (sx 3 (sv 1) z0 z0) z0 z0) z0 z0) (sv 2)) z0)
def lb_97 : SX := (sx 20 (sx 7 (sx 5 (sx 3 z0 z0 z0) z0 z0) (sx 3 (sv 2) z0 z0) (so 7 (sx 7 (sx 5 (sx 3 (sv 1) z0 z0) z0 z0) (sx 3 (sv 2) z0 z0) z0))) z0 z0)
def ls_97 : SX := (sx 4 (sv 2) (sv 1) z0)
theorem lq_97 : bb_97 = sx 2 (sx 2 (sx 20 (sx 2 lI_97 (sx 12 lc_97 lb_97 ls_97) z0) z0 z0) lR_97 z0) (sx 17 z0 z0 z0) z0 := rfl
theorem gm_97 : g_M 97 = (0, 3, [15, 15], [], bb_97) := rfl
section LEAF5
variable {xs : Nat → Int} {L K c d n : Nat} {ck : Nat → List Nat} {cW : Nat → Nat → Int} {F : XP} {a b e : SX}
theorem k99 : a_g3.all (fun c => decide (c.1 ≠ 99)) = true := by decide +kernel
theorem no_99 {z : Nat → Int} {v : Int} (h : TV z a_g3 99 v) : False := by
  obtain ⟨-, c, hc, e⟩ := h.2.2.2.2.1 (by decide) (by decide)
  exact of_decide_eq_true (List.all_eq_true.mp k99 c (List.mem_of_getElem? hc)) e
/-- a statement that only goes on, by the third reading -/
theorem run_ty {D : Nat} (hK : 4294967300 ≤ K) (hF : ∀ q, (g_T D).2.2.2.1 q = true → TotF (g_T D) (a_g3, c, d) g_ro F q) {t : SX} {τ τ' : List Nat} (ht : (tyS (g_T D) [99] false t).1 τ = some (some τ', none, none)) {en : List Int} {hh : XH} (hv : VL (fun _ => 0) a_g3 τ en) (hH : HT g_fk a_g3 hh) :
    ∃ vals en' h', evS xs L g_ck F K g_cW t en ((a_g3, c, d), hh) = some (0, vals, en', ((a_g3, c, d), h')) ∧ HT g_fk a_g3 h' ∧ FR g_ro hh h' ∧ VL (fun _ => 0) a_g3 τ' en' := by
  obtain ⟨cc, vals, en', g', h', e1, e2, e3, e4⟩ := (ty_S (xs := xs) (L := L) (ck := g_ck) (g := (a_g3, c, d)) (rt := [99]) (thr := false) g_GG (g_TG D) nt_cW hF (g_WK D) hK rfl t).1 (fun _ => 0) _ _ ht en hh hv hH
  rcases e4 with ⟨rfl, rfl, τ1, k, k2⟩ | ⟨rfl, rfl, k⟩ | ⟨-, -, τ1, k, -⟩ | ⟨-, -, τ1, k, -⟩ | ⟨-, k, -⟩
  · cases k
    exact ⟨vals, en', h', e1, e2, e3, k2⟩
  · exfalso
    obtain ⟨x, -, hx⟩ := VL.one k
    exact no_99 hx
  · cases k
  · cases k
  · cases k
def RunT (xs : Nat → Int) (L : Nat) (ck : Nat → List Nat) (F : XP) (K : Nat) (cW : Nat → Nat → Int) (c d : Nat) (t : SX) (τ : List Nat) : Prop := ∀ (en : List Int) (hh : XH), VL (fun _ => 0) a_g3 τ en → HT g_fk a_g3 hh → ∃ vals en' h', evS xs L ck F K cW t en ((a_g3, c, d), hh) = some (0, vals, en', ((a_g3, c, d), h')) ∧ HT g_fk a_g3 h' ∧ FR g_ro hh h' ∧ VL (fun _ => 0) a_g3 τ en'
theorem tA_98 : (tyS (g_T 1) [99] false lA_98).1 [15, 2, 0, 1, 17, 1, 0, 0] = some (some [15, 2, 0, 1, 17, 1, 0, 0], none, none) := by decide +kernel
theorem tB_98 : (tyS (g_T 1) [99] false lB_98).1 [15, 2, 0, 1, 17, 1, 0, 0] = some (some [15, 2, 0, 1, 17, 1, 0, 0], none, none) := by decide +kernel
theorem tD_98 : (tyS (g_T 1) [99] false lD_98).1 [15, 0, 0, 0, 0, 0, 0, 0] = some (some [15, 0, 0, 0, 0, 0, 0, 0], none, none) := by decide +kernel
theorem tR_97 : (tyS (g_T 2) [99] false lR_97).1 [15, 15, 0] = some (some [15, 15, 0], none, none) := by decide +kernel
theorem gen_98 (hK : 4294967300 ≤ K) (hA : RunT xs L ck (evF xs L ck K cW g_M (n + 1)) K cW c d lA_98 [15, 2, 0, 1, 17, 1, 0, 0]) (hB : RunT xs L ck (evF xs L ck K cW g_M (n + 1)) K cW c d lB_98 [15, 2, 0, 1, 17, 1, 0, 0]) (hD : RunT xs L ck (evF xs L ck K cW g_M (n + 1)) K cW c d lD_98 [15, 0, 0, 0, 0, 0, 0, 0]) : TotF (g_T 0) (a_g3, c, d) g_ro (evF xs L ck K cW g_M (n + 2)) 98 := by
  intro av hh hH hv
  have hv0 : VL (fun _ => 0) a_g3 [15, 2, 0, 1, 17, 1, 0, 0] (j_pad 0 8 (j_lay [15, 2, 1, 17, 1] av)) := VL_pad (g := (a_g3, c, d)) (n := 8) (ts := [15, 2, 0, 1, 17, 1]) (VL_lay (g := (a_g3, c, d)) (pk := [15, 2, 1, 17, 1]) hv)
  have hget : ∀ (r i q len : Int) (h : XH), j_rf a_g3 r.toNat 0 = some q → j_len a_g3 q.toNat = len → evF xs L ck K cW g_M (n + 1) 54 [r, i] ((a_g3, c, d), h) = some (1, [if 0 ≤ i ∧ i < len then h q.toNat i.toNat else 0], ((a_g3, c, d), h)) := fun r i q len h h1 h2 => row_get h1 h2
  have hset : ∀ (r i v q len : Int) (h : XH), j_rf a_g3 r.toNat 0 = some q → j_len a_g3 q.toNat = len → evF xs L ck K cW g_M (n + 1) 55 [r, i, v] ((a_g3, c, d), h) = some (1, [], ((a_g3, c, d), if 0 ≤ i ∧ i < len then j_up h q.toNat i.toNat v else h)) := fun r i v q len h h1 h2 => row_set h1 h2
  generalize hF : evF xs L ck K cW g_M (n + 1) = F at hA hB hD hget hset
  generalize he0 : j_pad 0 8 (j_lay [15, 2, 1, 17, 1] av) = en0 at hv0
  obtain ⟨v1, e1, h1, a1, a2, a3, a4⟩ := hA _ _ hv0 hH
  obtain ⟨v2, e2, h2, b1, b2, b3, b4⟩ := hB _ _ a4 a2
  obtain ⟨p, nm, z, lo, s, m, u, i, rfl, hp, hs⟩ : ∃ p nm z lo s m u i, e2 = [p, nm, z, lo, s, m, u, i] ∧ TV (fun _ => 0) a_g3 15 p ∧ TV (fun _ => 0) a_g3 17 s := by
    match e2, b4 with
    | [p, nm, z, lo, s, m, u, i], k => exact ⟨p, nm, z, lo, s, m, u, i, rfl, k.1, k.2.2.2.2.1⟩
  obtain ⟨r4, hr4, r40, c4, hc4, he4⟩ := ref_at (ci := 5) (k := 4) (kd := 17) hp (by decide) rfl (by decide) (by decide)
  have hrow : TV (fun _ => 0) a_g3 17 r4 := TV.ref (by decide) (by decide) ⟨r40, c4, hc4, he4⟩
  obtain ⟨q, len, hq, hl, l0, l1, ht, hro⟩ := row_at hrow
  obtain ⟨q2, len2, hq2, hl2, l02, l12, ht2, hro2⟩ := row_at hs
  have go := lp_gen (g := (a_g3, c, d)) (C' := evE xs L ck F cW lc_98) (B' := evS xs L ck F K cW lb_98) (P' := evS xs L ck F K cW ls_98)
    (Inv := fun en h => ∃ u i : Int, en = [p, nm, z, lo, s, m, u, i] ∧ InI u ∧ 0 ≤ i ∧ i ≤ 13 ∧ HT g_fk a_g3 h ∧ FR g_ro hh h) (Done := fun en h => HT g_fk a_g3 h ∧ FR g_ro hh h ∧ ∃ u i : Int, en = [p, nm, z, lo, s, m, u, i]) (Ret := fun _ _ => False) (mea := fun en _ => (13 - en.getD 7 0).toNat) (by
    rintro en h ⟨u, i, rfl, hu, i0, i1, k1, k2⟩
    by_cases hi : 0 < m ∧ i < 13
    · have hc : evE xs L ck F cW lc_98 [p, nm, z, lo, s, m, u, i] ((a_g3, c, d), h) = some ([1], ((a_g3, c, d), h)) := by
        unfold lc_98
        simp only [ee_25, ee_21, n_ife, n_nz, ee_20, ee_3, ee_1, n_cmp, Option.bind_some, j_hd, List.headD_cons, n_sv, n_z0, List.getD_cons_zero, List.getD_cons_succ, j_cmp]
        simp [hi.1, hi.2, j_b]
      have hm0 : m ≠ 0 := by omega
      have s1 := hset r4 (j_iop 0 (j_iop 2 (h p.toNat 10) 13) i) u q len h hq hl
      have n1 : HT g_fk a_g3 (if 0 ≤ j_iop 0 (j_iop 2 (h p.toNat 10) 13) i ∧ j_iop 0 (j_iop 2 (h p.toNat 10) 13) i < len then j_up h q.toNat (j_iop 0 (j_iop 2 (h p.toNat 10) 13) i).toNat u else h) := by
        split
        · exact up_i ht k1 hu
        · exact k1
      have n2 : FR g_ro hh (if 0 ≤ j_iop 0 (j_iop 2 (h p.toNat 10) 13) i ∧ j_iop 0 (j_iop 2 (h p.toNat 10) 13) i < len then j_up h q.toNat (j_iop 0 (j_iop 2 (h p.toNat 10) 13) i).toNat u else h) := by
        split
        · exact k2.tr (FR.up (hro _))
        · exact k2
      generalize (if 0 ≤ j_iop 0 (j_iop 2 (h p.toNat 10) 13) i ∧ j_iop 0 (j_iop 2 (h p.toNat 10) 13) i < len then j_up h q.toNat (j_iop 0 (j_iop 2 (h p.toNat 10) 13) i).toNat u else h) = h' at s1 n1 n2
      have s2 := hget s (j_div 1 i m) q2 len2 h' hq2 hl2
      generalize (if 0 ≤ j_div 1 i m ∧ j_div 1 i m < len2 then h' q2.toNat (j_div 1 i m).toNat else 0) = w at s2
      refine Or.inr ⟨1, h, by decide, hc, 0, [], [p, nm, z, lo, s, m, j_iop 0 u w, i], h', ?_, Or.inl ⟨Or.inl rfl, [p, nm, z, lo, s, m, j_iop 0 u w, i + 1], h', ?_, ⟨j_iop 0 u w, i + 1, rfl, iop_in _ _ _, by omega, by omega, n1, n2⟩, ?_⟩⟩
      · unfold lb_98
        have e13 : ∀ x, j_iop 2 x ((13 : Nat) : Int) = j_iop 2 x 13 := fun _ => rfl
        simp only [es_20, es_2, es_9, es_3, s_seq, ee_32, n_call, ee_30, ee_31, ee_14, n_bin, ee_17, ee_5, ee_4, ee_3, ee_1, Option.bind_some, j_hd, List.headD_cons, n_sv, n_z0, List.getD_cons_zero, List.getD_cons_succ, List.cons_append, List.nil_append, hr4, e13, if_true]
        simp [e13, s1, s2, hm0]
      · show some (0, [], [p, nm, z, lo, s, m, j_iop 0 u w, j32 (i + 1)], _) = _
        rw [j32_up i0 hi.2 (by decide)]
      · show (13 - (i + 1)).toNat < (13 - i).toNat
        omega
    · refine Or.inl ⟨h, ?_, k1, k2, u, i, rfl⟩
      unfold lc_98
      simp only [ee_25, ee_21, n_ife, n_nz, ee_20, ee_3, ee_1, n_cmp, Option.bind_some, j_hd, List.headD_cons, n_sv, n_z0, List.getD_cons_zero, List.getD_cons_succ, j_cmp]
      by_cases a1 : 0 < m
      · have a2 : ¬ i < 13 := fun k => hi ⟨a1, k⟩
        simp [a1, a2, j_b]
      · simp [a1, j_b]) K 13 [p, nm, z, lo, s, m, 0, 0] h2 ⟨0, 0, rfl, in_0, Int.le_refl _, by decide, b2, a3.tr b3⟩ (by show (13 - (0 : Int)).toNat ≤ 13; decide) (by omega)
  obtain ⟨en3, h3, f1, f2, f3, u3, i3, rfl⟩ := go.resolve_right (fun ⟨_, _, _, _, k⟩ => k)
  obtain ⟨v4, e4, h4, d1, d2, d3, d4⟩ := hD [p, nm, z, lo, s, m, u3, i3] _ ⟨hp, TV.zero, TV.zero, TV.zero, TV.zero, TV.zero, TV.zero, TV.zero, trivial⟩ f2
  refine ⟨[], h4, ?_, d2, f3.tr d3, trivial⟩
  have kk : evS xs L ck F K cW bb_98 en0 ((a_g3, c, d), hh) = some (1, [], e4, ((a_g3, c, d), h4)) := by
    have q1 : evS xs L ck F K cW (sx 20 (sx 2 lI_98 (sx 12 lc_98 lb_98 ls_98) z0) z0 z0) [p, nm, z, lo, s, m, 0, i] ((a_g3, c, d), h2) = some (0, [], [p, nm, z, lo, s, m, u3, i3], ((a_g3, c, d), h3)) := by
      rw [es_20, es_2, lI_98, es_3, es_12, ee_1]
      unfold s_seq
      dsimp only
      simp only [Option.bind_some, if_true]
      rw [show [p, nm, z, lo, s, m, 0, i].set (sx_n (sv 7)) (j_hd [if sx_n z0 = 0 then (sx_n z0 : Int) else -(sx_n z0 : Int)]) = [p, nm, z, lo, s, m, 0, 0] from rfl, f1]
    have q2 : evS xs L ck F K cW lJ_98 [p, nm, z, lo, s, m, u, i] ((a_g3, c, d), h2) = some (0, [], [p, nm, z, lo, s, m, 0, i], ((a_g3, c, d), h2)) := by
      rw [lJ_98, es_3, ee_1]
      rfl
    rw [lq_98, es_2, es_2, es_2, es_2, es_2, es_17]
    unfold s_seq
    rw [a1, Option.bind_some]
    dsimp only
    rw [if_pos rfl, b1, Option.bind_some]
    dsimp only
    rw [if_pos rfl, q2, Option.bind_some]
    dsimp only
    rw [if_pos rfl, q1, Option.bind_some]
    dsimp only
    rw [if_pos rfl, d1]
    rfl
  rw [evF_s, gm_98, hF]
  show (evS xs L ck F K cW bb_98 (j_pad 0 8 (j_lay [15, 2, 1, 17, 1] av)) ((a_g3, c, d), hh)).bind _ = _
  rw [he0]
  rw [kk, Option.bind_some]
  exact if_pos chk_self
theorem gen_97 (hK : 4294967300 ≤ K) (hR : RunT xs L ck (evF xs L ck K cW g_M n) K cW c d lR_97 [15, 15, 0]) : TotF (g_T 0) (a_g3, c, d) g_ro (evF xs L ck K cW g_M (n + 1)) 97 := by
  intro av hh hH hv
  obtain ⟨r, v, rfl, hr, hr2⟩ := VL2 (s := 15) (t := 15) hv
  generalize hF : evF xs L ck K cW g_M n = F at hR
  obtain ⟨r0, c1, hc1, he1⟩ := hr.2.2.2.2.1 (by decide) (by decide)
  obtain ⟨q, hq, q0, c', hc', he'⟩ := ref_at (ci := 5) (k := 0) (kd := 7) hr (by decide) rfl (by decide) (by decide)
  obtain ⟨hl, l1⟩ := len_at hc'
  have ht := fun j => (ty_arr hc' j).2.1 he'
  have hro := ro_arr hc1 (by omega) (by omega) hq hc' he' (by decide)
  have l0 : (0 : Int) ≤ (c'.2.1 : Int) := by omega
  generalize (c'.2.1 : Int) = len at hl l1 l0
  obtain ⟨q2, hq2, q20, c2, hc2, he2⟩ := ref_at (ci := 5) (k := 0) (kd := 7) hr2 (by decide) rfl (by decide) (by decide)
  obtain ⟨hl2, l12⟩ := len_at hc2
  have ht2 := fun j => (ty_arr hc2 j).2.1 he2
  generalize (c2.2.1 : Int) = len2 at hl2 l12
  have go := lp_gen (g := (a_g3, c, d)) (C' := evE xs L ck F cW lc_97) (B' := evS xs L ck F K cW lb_97) (P' := evS xs L ck F K cW ls_97)
    (Inv := fun en h => ∃ i : Int, en = [r, v, i] ∧ 0 ≤ i ∧ i ≤ len ∧ HT g_fk a_g3 h ∧ FR g_ro hh h) (Done := fun en h => HT g_fk a_g3 h ∧ FR g_ro hh h ∧ ∃ i : Int, en = [r, v, i]) (Ret := fun _ _ => False) (mea := fun en _ => (len - en.getD 2 0).toNat) (by
    rintro en h ⟨i, rfl, i0, i1, h1, h2⟩
    have hc : evE xs L ck F cW lc_97 [r, v, i] ((a_g3, c, d), h) = some ([j_b (decide (i < len) && decide (i < len2))], ((a_g3, c, d), h)) := by
      unfold lc_97
      simp only [ee_25, n_ife, n_nz, ee_20, ee_10, ee_5, ee_3, n_cmp, n_alen, Option.bind_some, j_hd, List.headD_cons, n_sv, n_z0, List.getD_cons_zero, List.getD_cons_succ, hq, hl, hq2, hl2, j_cmp]
      by_cases a1 : i < len <;> by_cases a2 : i < len2 <;> simp [a1, a2, j_b]
    by_cases hi : i < len ∧ i < len2
    · refine Or.inr ⟨1, h, by decide, by rw [hc, decide_eq_true hi.1, decide_eq_true hi.2]; rfl, 0, [], [r, v, i], j_up h q.toNat i.toNat (h q2.toNat i.toNat), ?_, Or.inl ⟨Or.inl rfl, [r, v, i + 1], j_up h q.toNat i.toNat (h q2.toNat i.toNat), ?_, ⟨i + 1, rfl, by omega, by omega, HT.up h1 (fun e => absurd ((ht _).symm.trans e) (by decide)) (fun _ => (h1 q2.toNat i.toNat).2.1 (ht2 _)) (fun e => absurd ((ht _).symm.trans e) (by decide)), h2.tr (FR.up (hro _))⟩, ?_⟩⟩
      · unfold lb_97
        simp only [es_20, es_7, s_ast, ee_7, n_aload, ee_5, ee_3, Option.bind_some, j_hd, List.headD_cons, n_sv, n_z0, List.getD_cons_zero, List.getD_cons_succ, hq, hq2]
        simp [hl, hl2, i0, hi]
      · show some (0, [], [r, v, j32 (i + 1)], _) = _
        rw [j32_up i0 hi.1 l1]
      · show (len - (i + 1)).toNat < (len - i).toNat
        omega
    · refine Or.inl ⟨h, ?_, h1, h2, i, rfl⟩
      rw [hc]
      have : (decide (i < len) && decide (i < len2)) = false := by
        by_cases a1 : i < len
        · by_cases a2 : i < len2
          · exact absurd ⟨a1, a2⟩ hi
          · simp [a2]
        · simp [a1]
      rw [this]
      rfl) K (len - 0).toNat [r, v, 0] hh ⟨0, rfl, Int.le_refl _, l0, hH, FR.rf⟩ (Nat.le_refl _) (by omega)
  obtain ⟨en', h', e1, e2, e3, i, rfl⟩ := go.resolve_right (fun ⟨_, _, _, _, k⟩ => k)
  obtain ⟨v4, e4, h4, d1, d2, d3, d4⟩ := hR [r, v, i] _ ⟨hr, hr2, TV.zero, trivial⟩ e2
  refine ⟨[], h4, ?_, d2, e3.tr d3, trivial⟩
  have kk : evS xs L ck F K cW bb_97 [r, v, 0] ((a_g3, c, d), hh) = some (1, [], e4, ((a_g3, c, d), h4)) := by
    have q1 : evS xs L ck F K cW (sx 20 (sx 2 lI_97 (sx 12 lc_97 lb_97 ls_97) z0) z0 z0) [r, v, 0] ((a_g3, c, d), hh) = some (0, [], [r, v, i], ((a_g3, c, d), h')) := by
      rw [es_20, es_2, lI_97, es_3, es_12, ee_1]
      unfold s_seq
      dsimp only
      simp only [Option.bind_some, if_true]
      rw [show [r, v, 0].set (sx_n (sv 2)) (j_hd [if sx_n z0 = 0 then (sx_n z0 : Int) else -(sx_n z0 : Int)]) = [r, v, 0] from rfl, e1]
    rw [lq_97, es_2, es_2, es_17]
    unfold s_seq
    rw [q1, Option.bind_some]
    dsimp only
    rw [if_pos rfl, d1]
    rfl
  rw [evF_s, gm_97, hF]
  show (evS xs L ck F K cW bb_97 [r, v, 0] ((a_g3, c, d), hh)).bind _ = _
  rw [kk, Option.bind_some]
  exact if_pos chk_self
theorem tot_98 (hK : 4294967300 ≤ K) (hF : ∀ q, (g_T 1).2.2.2.1 q = true → TotF (g_T 1) (a_g3, c, d) g_ro (evF xs L g_ck K g_cW g_M (n + 1)) q) : TotF (g_T 0) (a_g3, c, d) g_ro (evF xs L g_ck K g_cW g_M (n + 2)) 98 :=
  gen_98 hK (fun _ _ => run_ty hK hF tA_98) (fun _ _ => run_ty hK hF tB_98) (fun _ _ => run_ty hK hF tD_98)
theorem tot_97 (hK : 4294967300 ≤ K) (hF : ∀ q, (g_T 2).2.2.2.1 q = true → TotF (g_T 2) (a_g3, c, d) g_ro (evF xs L g_ck K g_cW g_M n) q) : TotF (g_T 0) (a_g3, c, d) g_ro (evF xs L g_ck K g_cW g_M (n + 1)) 97 :=
  gen_97 hK (fun _ _ => run_ty hK hF tR_97)
/-- the same, up to a depth -/
theorem cls_lo {D : Nat} (hD : D ≤ 99999) (hK : 4294967300 ≤ K) (hand : ∀ n f, g_hd f = true → g_dp f < n → g_dp f < D → TotF (g_T 0) (a_g3, c, d) g_ro (evF xs L g_ck K g_cW g_M n) f) : ∀ n f, g_dp f < n → g_dp f < D → g_hd f = false → TotX (g_T 0) (a_g3, c, d) g_ro (evF xs L g_ck K g_cW g_M n) f ∧ (g_THR f = false → TotF (g_T 0) (a_g3, c, d) g_ro (evF xs L g_ck K g_cW g_M n) f)
  | 0, _, h, _, _ => absurd h (by omega)
  | n + 1, f, h, hd, hh => by
    have hk := (tk_all f).1
    simp only [g_tk, hh, Bool.or_false, Bool.or_eq_true, Nat.beq_eq] at hk
    have h1 := hk.resolve_left (by omega)
    rw [g_tc, Bool.and_eq_true] at h1
    refine ty_X (T := g_T (g_dp f)) (g := (a_g3, c, d)) g_GG (g_TG _) nt_cW (g_WK _) hK (fun q hq => ?_) h1.1 h1.2
    have hq2 : (Nat.blt (g_dp q) (g_dp f) && !g_THR q) = true := hq
    rw [Bool.and_eq_true] at hq2
    have hlt : g_dp q < g_dp f := by
      have := hq2.1
      simp only [Nat.blt_eq] at this
      exact this
    cases hx : g_hd q with
    | true => exact hand n q hx (by omega) (by omega)
    | false => exact (cls_lo hD hK hand n q (by omega) (by omega) hx).2 (by simpa using hq2.2)
/-- what may be called at a depth -/
theorem cls_up {D : Nat} (hD : D ≤ 99999) (hK : 4294967300 ≤ K) (hand : ∀ n f, g_hd f = true → g_dp f < n → g_dp f < D → TotF (g_T 0) (a_g3, c, d) g_ro (evF xs L g_ck K g_cW g_M n) f) {n : Nat} (hn : D ≤ n) : ∀ q, (g_T D).2.2.2.1 q = true → TotF (g_T D) (a_g3, c, d) g_ro (evF xs L g_ck K g_cW g_M n) q := fun q hq => by
  have hq2 : (Nat.blt (g_dp q) D && !g_THR q) = true := hq
  rw [Bool.and_eq_true] at hq2
  have hlt : g_dp q < D := by
    have := hq2.1
    simp only [Nat.blt_eq] at this
    exact this
  cases hx : g_hd q with
  | true => exact hand n q hx (by omega) hlt
  | false => exact (cls_lo hD hK hand n q (by omega) hlt hx).2 (by simpa using hq2.2)
theorem hd_cases {f : Nat} (h : g_hd f = true) : f = 54 ∨ f = 55 ∨ f = 56 ∨ f = 57 ∨ f = 58 ∨ f = 59 ∨ f = 68 ∨ f = 77 ∨ f = 97 ∨ f = 98 ∨ f = 101 ∨ f = 102 ∨ f = 103 ∨ f = 104 ∨ f = 151 := by
  simp only [g_hd, List.any_cons, List.any_nil, Bool.or_false, Bool.or_eq_true, Nat.beq_eq] at h
  omega
theorem hand_0 (hK : 4294967300 ≤ K) : ∀ n f, g_hd f = true → g_dp f < n → g_dp f < 1 → TotF (g_T 0) (a_g3, c, d) g_ro (evF xs L g_ck K g_cW g_M n) f
  | 0, f, _, h, _ => absurd h (by omega)
  | n + 1, f, hh, h, hd => by
    rcases hd_cases hh with rfl | rfl | rfl | rfl | rfl | rfl | rfl | rfl | rfl | rfl | rfl | rfl | rfl | rfl | rfl
    · exact tot_54
    · exact tot_55
    · exact tot_56
    · exact tot_57 hK
    · exact tot_58 hK
    · exact tot_59 hK
    · exact tot_68
    · exact tot_77 hK
    · exact absurd hd (by decide)
    · exact absurd hd (by decide)
    · exact tot_101
    · exact absurd hd (by decide)
    · exact absurd hd (by decide)
    · exact absurd hd (by decide)
    · exact absurd hd (by decide)
theorem hand_1 (hK : 4294967300 ≤ K) : ∀ n f, g_hd f = true → g_dp f < n → g_dp f < 2 → TotF (g_T 0) (a_g3, c, d) g_ro (evF xs L g_ck K g_cW g_M n) f
  | 0, f, _, h, _ => absurd h (by omega)
  | 1, f, hh, h, _ => hand_0 hK 1 f hh h h
  | n + 2, f, hh, h, hd => by
    by_cases h0 : g_dp f < 1
    · exact hand_0 hK (n + 2) f hh h h0
    · rcases hd_cases hh with rfl | rfl | rfl | rfl | rfl | rfl | rfl | rfl | rfl | rfl | rfl | rfl | rfl | rfl | rfl
      · exact absurd (by decide) h0
      · exact absurd (by decide) h0
      · exact absurd (by decide) h0
      · exact absurd (by decide) h0
      · exact absurd (by decide) h0
      · exact absurd (by decide) h0
      · exact absurd (by decide) h0
      · exact absurd (by decide) h0
      · exact absurd hd (by decide)
      · exact tot_98 hK (cls_up (by decide) hK (fun n f a b e => hand_0 hK n f a b e) (by omega))
      · exact absurd (by decide) h0
      · exact tot_102 hK
      · exact tot_103 hK
      · exact tot_104 hK
      · exact tot_151 hK
theorem g_hand (hK : 4294967300 ≤ K) : ∀ n f, g_hd f = true → g_dp f < n → TotF (g_T 0) (a_g3, c, d) g_ro (evF xs L g_ck K g_cW g_M n) f
  | 0, f, _, h => absurd h (by omega)
  | n + 1, f, hh, h => by
    by_cases h0 : g_dp f < 2
    · exact hand_1 hK (n + 1) f hh h h0
    · rcases hd_cases hh with rfl | rfl | rfl | rfl | rfl | rfl | rfl | rfl | rfl | rfl | rfl | rfl | rfl | rfl | rfl
      · exact absurd (by decide) h0
      · exact absurd (by decide) h0
      · exact absurd (by decide) h0
      · exact absurd (by decide) h0
      · exact absurd (by decide) h0
      · exact absurd (by decide) h0
      · exact absurd (by decide) h0
      · exact absurd (by decide) h0
      · exact tot_97 hK (cls_up (by decide) hK (fun n f a b e => hand_1 hK n f a b e) (by omega))
      · exact absurd (by decide) h0
      · exact absurd (by decide) h0
      · exact absurd (by decide) h0
      · exact absurd (by decide) h0
      · exact absurd (by decide) h0
      · exact absurd (by decide) h0
/-- every method of the class that has a depth comes to an end, keeps the kinds, the tape's length and the reference's cells -/
theorem g_cls (hK : 4294967300 ≤ K) (n f : Nat) (h : g_dp f < n) (h2 : g_dp f < 99999) : TotX (g_T 0) (a_g3, c, d) g_ro (evF xs L g_ck K g_cW g_M n) f ∧ (g_THR f = false → TotF (g_T 0) (a_g3, c, d) g_ro (evF xs L g_ck K g_cW g_M n) f) := by
  cases hx : g_hd f with
  | false => exact cls_lo (Nat.le_refl _) hK (fun n f a b _ => g_hand hK n f a b) n f h h2 hx
  | true =>
    have k := g_hand (xs := xs) (L := L) (c := c) (d := d) hK n f hx h
    refine ⟨fun av hh hH hv => ?_, fun _ => k⟩
    obtain ⟨r, h', e1, e2, e3, e4⟩ := k av hh hH hv
    exact ⟨1, r, _, h', e1, e2, e3, Or.inl ⟨rfl, rfl, e4⟩⟩
end LEAF5
end
section
/-! ===== the tape: what feed adds, whatever its length ===== -/
section TAPE
variable {xs : Nat → Int} {L K : Nat} {ck : Nat → List Nat} {F : XP} {cW : Nat → Nat → Int}
def clG (m s : Int) : Int := if rdB s = 1 ∧ m < 1000 then m + 1 else m
/-- the tape's length when the last j of a number's eight signs are added -/
def fcl (v : Int) : Nat → Int → Int
  | 0, m => m
  | j + 1, m => fcl v j (clG m (sgC v (8 * (j : Int))))
theorem clG_in {m s : Int} (h : 0 ≤ m ∧ m ≤ 1000) : 0 ≤ clG m s ∧ clG m s ≤ 1000 := by
  unfold clG
  split <;> omega
theorem fcl_in {v : Int} : ∀ (j : Nat) {m : Int}, 0 ≤ m ∧ m ≤ 1000 → 0 ≤ fcl v j m ∧ fcl v j m ≤ 1000
  | 0, _, h => h
  | j + 1, _, h => fcl_in j (clG_in h)
theorem clG_lt {m s : Int} (h : m < 1000) : clG m s = m + rdB s := by
  unfold clG
  rcases rdB_01 s with e | e <;> rw [e] <;> simp [h]
theorem clG_ge {m s : Int} (h : ¬ m < 1000) : clG m s = m := if_neg (fun k => h k.2)
theorem itA1 {v o w k s4 s5 sr m : Int} {st : XT} (hr : j_rf st.1.1 o.toNat 0 = some sr) (hl : j_len st.1.1 sr.toNat = 1000) (hm : st.2 o.toNat 1 = m) (h0 : 0 ≤ m) (h1 : ¬ m < 1000) :
    evS xs L ck F K cW fdB [o, v, w, k, s4, s5] st = some (0, [], [o, v, w, k, sgC v k, rdB (sgC v k)], st) := by
  have e1 : (evE xs L ck F cW fdR [o, v, w, k, sgC v k, s5] st) = some ([rdB (sgC v k)], st) := rd_ev rfl
  unfold fdB
  simp only [es_20, es_2, es_3, es_10, s_seq, s_if, ee_14, ee_18, ee_16, ee_3, ee_1, n_bin, Option.bind_some, j_hd, List.headD_cons, n_sv, n_z0, List.getD_cons_zero, List.getD_cons_succ, List.set_cons_succ, List.set_cons_zero, if_true]
  have e0 : j_iop 3 (j_un 3 (j_lsh 2 v k)) ((255 : Nat) : Int) = sgC v k := rfl
  rw [e0, e1]
  simp only [Option.bind_some, j_hd, List.headD_cons, List.set_cons_succ, List.set_cons_zero, if_true, ee_25, ee_24, ee_3, n_ife, n_nz, ee_21, ee_20, ee_4, ee_10, ee_5, n_cmp, n_alen, n_sv, n_z0, List.getD_cons_zero, List.getD_cons_succ, hm, hr, hl, j_cmp]
  rcases rdB_01 (sgC v k) with e | e <;> rw [e] <;> simp [h0, h1, j_b, hr, hl, hm]
theorem itM1 {v o w k s4 m : Int} {st : XT} (hm : st.2 o.toNat 2 = m) (h1 : ¬ m < 1000) :
    evS xs L ck F K cW fmB [o, v, w, k, s4] st = some (0, [], [o, v, w, k, sgM v k], st) := by
  have e1 : (evE xs L ck F cW fdR [o, v, w, k, sgM v k] st) = some ([rdB (sgM v k)], st) := rd_ev rfl
  unfold fmB
  simp only [es_20, es_2, es_3, es_10, s_seq, s_if, ee_14, ee_18, ee_16, ee_3, ee_1, n_bin, Option.bind_some, j_hd, List.headD_cons, n_sv, n_z0, List.getD_cons_zero, List.getD_cons_succ, List.set_cons_succ, List.set_cons_zero, if_true]
  have e0 : j_iop 3 (j_un 3 (j_lsh 1 v k)) ((255 : Nat) : Int) = sgM v k := rfl
  rw [e0, ee_25, n_ife, e1]
  simp only [Option.bind_some, j_hd, List.headD_cons, n_nz, ee_20, ee_4, ee_3, ee_1, n_cmp, n_sv, n_z0, List.getD_cons_zero, List.getD_cons_succ, hm, j_cmp, if_true]
  rcases rdB_01 (sgM v k) with e | e <;> rw [e] <;> simp [h1, j_b]
/-- what a change of the tape keeps -/
def KpA (o sr : Nat) (P : XH → Prop) : Prop := ∀ h m s, P h → P (upA h o sr m s)
def KpM (o sr : Nat) (P : XH → Prop) : Prop := ∀ h m s, InI s → P h → P (upM h o sr m s)
theorem lqA {v o w sr : Int} {g : XS × Nat × Nat} (hr : j_rf g.1 o.toNat 0 = some sr) (hl : j_len g.1 sr.toNat = 1000) (hne : sr.toNat ≠ o.toNat) : ∀ (j fuel : Nat) (s4 s5 m : Int) (h : XH), j ≤ 8 → j + 1 ≤ fuel → h o.toNat 1 = m → 0 ≤ m ∧ m ≤ 1000 →
    ∃ en hh, s_loop (evE xs L ck F cW fdC) (evS xs L ck F K cW fdB) (evS xs L ck F K cW fdP) fuel [o, v, w, 8 * (j : Int) - 8, s4, s5] (g, h) = some (0, [], en, (g, hh)) ∧ hh o.toNat 1 = fcl v j m ∧ ∀ P, KpA o.toNat sr.toNat P → P h → P hh
  | 0, fuel, s4, s5, m, h, _, hf, hm, _ => by
    obtain ⟨f, rfl⟩ : ∃ f, fuel = f + 1 := ⟨fuel - 1, by omega⟩
    refine ⟨[o, v, w, 8 * ((0 : Nat) : Int) - 8, s4, s5], h, ?_, hm, fun _ _ k => k⟩
    unfold s_loop
    rw [fdC_ev, Option.bind_some]
    exact if_pos rfl
  | j + 1, fuel, s4, s5, m, h, hj, hf, hm, h0 => by
    obtain ⟨f, rfl⟩ : ∃ f, fuel = f + 1 := ⟨fuel - 1, by omega⟩
    have ek : 8 * ((j + 1 : Nat) : Int) - 8 = 8 * (j : Int) := by omega
    rw [ek]
    obtain ⟨h', hb, hu, hP⟩ : ∃ h', evS xs L ck F K cW fdB [o, v, w, 8 * (j : Int), s4, s5] (g, h) = some (0, [], [o, v, w, 8 * (j : Int), sgC v (8 * (j : Int)), rdB (sgC v (8 * (j : Int)))], (g, h')) ∧ h' o.toNat 1 = clG m (sgC v (8 * (j : Int))) ∧ ∀ P, KpA o.toNat sr.toNat P → P h → P h' := by
      by_cases h1 : m < 1000
      · refine ⟨_, itA (xs := xs) (L := L) (ck := ck) (F := F) (K := K) (cW := cW) (v := v) (w := w) (k := 8 * (j : Int)) (s4 := s4) (s5 := s5) (st := (g, h)) hr hl hm h0.1 h1 hne, ?_, fun P k p => k _ _ _ p⟩
        rw [clG_lt h1]
        exact (upA_m h0.1 h1 hm).1
      · refine ⟨h, itA1 (st := (g, h)) hr hl hm h0.1 h1, ?_, fun P k p => p⟩
        rw [clG_ge h1]
        exact hm
    obtain ⟨en, hh, e1, e2, e3⟩ := lqA hr hl hne j f (sgC v (8 * (j : Int))) (rdB (sgC v (8 * (j : Int)))) _ h' (by omega) (by omega) hu (clG_in h0)
    refine ⟨en, hh, ?_, e2, fun P k p => e3 P k (hP P k p)⟩
    unfold s_loop
    rw [fdC_ev, Option.bind_some]
    dsimp only
    rw [decide_eq_true (show 8 * (j : Int) ≥ 0 by omega)]
    refine (if_neg (by decide)).trans ?_
    rw [hb, Option.bind_some]
    refine (if_pos (Or.inl rfl)).trans ?_
    dsimp only
    rw [fdP_ev, Option.bind_some]
    refine (if_pos rfl).trans ?_
    dsimp only
    rw [j32_8 (by omega)]
    exact e1
theorem lqM {v o w sr : Int} {g : XS × Nat × Nat} (hr : j_rf g.1 o.toNat 1 = some sr) (hl : j_len g.1 sr.toNat = 1000) (hne : sr.toNat ≠ o.toNat) : ∀ (j fuel : Nat) (s4 m : Int) (h : XH), j ≤ 8 → j + 1 ≤ fuel → h o.toNat 2 = m → 0 ≤ m ∧ m ≤ 1000 →
    ∃ en hh, s_loop (evE xs L ck F cW fdC) (evS xs L ck F K cW fmB) (evS xs L ck F K cW fdP) fuel [o, v, w, 8 * (j : Int) - 8, s4] (g, h) = some (0, [], en, (g, hh)) ∧ hh o.toNat 2 = fcl v j m ∧ ∀ P, KpM o.toNat sr.toNat P → P h → P hh
  | 0, fuel, s4, m, h, _, hf, hm, _ => by
    obtain ⟨f, rfl⟩ : ∃ f, fuel = f + 1 := ⟨fuel - 1, by omega⟩
    refine ⟨[o, v, w, 8 * ((0 : Nat) : Int) - 8, s4], h, ?_, hm, fun _ _ k => k⟩
    unfold s_loop
    rw [fdC_ev, Option.bind_some]
    exact if_pos rfl
  | j + 1, fuel, s4, m, h, hj, hf, hm, h0 => by
    obtain ⟨f, rfl⟩ : ∃ f, fuel = f + 1 := ⟨fuel - 1, by omega⟩
    have ek : 8 * ((j + 1 : Nat) : Int) - 8 = 8 * (j : Int) := by omega
    rw [ek]
    obtain ⟨h', hb, hu, hP⟩ : ∃ h', evS xs L ck F K cW fmB [o, v, w, 8 * (j : Int), s4] (g, h) = some (0, [], [o, v, w, 8 * (j : Int), sgM v (8 * (j : Int))], (g, h')) ∧ h' o.toNat 2 = clG m (sgC v (8 * (j : Int))) ∧ ∀ P, KpM o.toNat sr.toNat P → P h → P h' := by
      rw [sg_all v j (by omega)]
      by_cases h1 : m < 1000
      · refine ⟨_, itM (xs := xs) (L := L) (ck := ck) (F := F) (K := K) (cW := cW) (v := v) (w := w) (k := 8 * (j : Int)) (s4 := s4) (st := (g, h)) hr hl hm h0.1 h1 hne, ?_, fun P k p => k _ _ _ (iop_in _ _ _) p⟩
        rw [clG_lt h1]
        exact (upM_m h0.1 h1 hm).1
      · refine ⟨h, itM1 (st := (g, h)) hm h1, ?_, fun P k p => p⟩
        rw [clG_ge h1]
        exact hm
    obtain ⟨en, hh, e1, e2, e3⟩ := lqM hr hl hne j f (sgM v (8 * (j : Int))) _ h' (by omega) (by omega) hu (clG_in h0)
    refine ⟨en, hh, ?_, e2, fun P k p => e3 P k (hP P k p)⟩
    unfold s_loop
    rw [fdC_ev, Option.bind_some]
    dsimp only
    rw [decide_eq_true (show 8 * (j : Int) ≥ 0 by omega)]
    refine (if_neg (by decide)).trans ?_
    rw [hb, Option.bind_some]
    refine (if_pos (Or.inl rfl)).trans ?_
    dsimp only
    rw [fdP_ev, Option.bind_some]
    refine (if_pos rfl).trans ?_
    dsimp only
    rw [j32_8 (by omega)]
    exact e1
theorem aqA {n : Nat} (hK : 9 ≤ K) {o v sr m : Int} {g : XS × Nat × Nat} {h : XH} (hr : j_rf g.1 o.toNat 0 = some sr) (hl : j_len g.1 sr.toNat = 1000) (hne : sr.toNat ≠ o.toNat) (hm : h o.toNat 1 = m) (h0 : 0 ≤ m ∧ m ≤ 1000) :
    ∃ hh, evF xs L ck K cW g_M (n + 1) 62 [o, v] (g, h) = some (1, [], (g, hh)) ∧ hh o.toNat 1 = fcl v 8 m ∧ ∀ P, KpA o.toNat sr.toNat P → P h → P hh := by
  obtain ⟨en, hh, e1, e2, e3⟩ := lqA (xs := xs) (L := L) (K := K) (ck := ck) (cW := cW) (F := evF xs L ck K cW g_M n) (v := v) (w := 0) hr hl hne 8 K 0 0 m h (by omega) hK hm h0
  refine ⟨hh, ?_, e2, e3⟩
  rw [evF_s, gm_a]
  have k1 : evS xs L ck (evF xs L ck K cW g_M n) K cW bb_62 [o, v, 0, 0, 0, 0] (g, h) = some (1, [], en, (g, hh)) := by
    rw [fd_a, es_2, es_17, es_20, es_2, es_3, es_12, ee_1]
    unfold s_seq
    dsimp only
    simp only [Option.bind_some, if_true]
    have e4 : [o, v, 0, 0, 0, 0].set (sx_n (sv 3)) (j_hd [if sx_n z0 = 0 then (sx_n (sv 56) : Int) else -(sx_n (sv 56) : Int)]) = [o, v, 0, 8 * ((8 : Nat) : Int) - 8, 0, 0] := rfl
    rw [e4, e1]
    rfl
  show (evS xs L ck (evF xs L ck K cW g_M n) K cW bb_62 [o, v, 0, 0, 0, 0] (g, h)).bind _ = _
  rw [k1, Option.bind_some]
  exact if_pos chk_self
theorem aqM {n : Nat} (hK : 9 ≤ K) {o v sr m : Int} {g : XS × Nat × Nat} {h : XH} (hr : j_rf g.1 o.toNat 1 = some sr) (hl : j_len g.1 sr.toNat = 1000) (hne : sr.toNat ≠ o.toNat) (hm : h o.toNat 2 = m) (h0 : 0 ≤ m ∧ m ≤ 1000) :
    ∃ hh, evF xs L ck K cW g_M (n + 1) 184 [o, v] (g, h) = some (1, [], (g, hh)) ∧ hh o.toNat 2 = fcl v 8 m ∧ ∀ P, KpM o.toNat sr.toNat P → P h → P hh := by
  obtain ⟨en, hh, e1, e2, e3⟩ := lqM (xs := xs) (L := L) (K := K) (ck := ck) (cW := cW) (F := evF xs L ck K cW g_M n) (v := v) (w := 0) hr hl hne 8 K 0 m h (by omega) hK hm h0
  refine ⟨hh, ?_, e2, e3⟩
  rw [evF_s, gm_m]
  have k1 : evS xs L ck (evF xs L ck K cW g_M n) K cW bb_184 [o, v, 0, 0, 0] (g, h) = some (1, [], en, (g, hh)) := by
    rw [fd_m, es_2, es_17, es_20, es_2, es_3, es_12, ee_1]
    unfold s_seq
    dsimp only
    simp only [Option.bind_some, if_true]
    have e4 : [o, v, 0, 0, 0].set (sx_n (sv 3)) (j_hd [if sx_n z0 = 0 then (sx_n (sv 56) : Int) else -(sx_n (sv 56) : Int)]) = [o, v, 0, 8 * ((8 : Nat) : Int) - 8, 0] := rfl
    rw [e4, e1]
    rfl
  show (evS xs L ck (evF xs L ck K cW g_M n) K cW bb_184 [o, v, 0, 0, 0] (g, h)).bind _ = _
  rw [k1, Option.bind_some]
  exact if_pos chk_self
/-- the tape's length after a feed -/
def fclT (m a b c : Int) : Int := fcl c 8 (fcl b 8 (fcl a 8 m))
theorem fqA {n : Nat} (hK : 9 ≤ K) {x rr o sr m a b c : Int} {g : XS × Nat × Nat} {h : XH} (hx1 : j_rf g.1 x.toNat 0 = some rr) (hx2 : j_rf g.1 rr.toNat 0 = some o) (hr : j_rf g.1 o.toNat 0 = some sr) (hl : j_len g.1 sr.toNat = 1000) (hne : sr.toNat ≠ o.toNat) (hm : h o.toNat 1 = m) (h0 : 0 ≤ m ∧ m ≤ 1000) :
    ∃ hh, evF xs L ck K cW g_M (n + 2) 1 [x, a, b, c] (g, h) = some (1, [fclT m a b c], (g, hh)) ∧ hh o.toNat 1 = fclT m a b c ∧ ∀ P, KpA o.toNat sr.toNat P → P h → P hh := by
  obtain ⟨h2, e1, m1, f1⟩ := aqA (xs := xs) (L := L) (ck := ck) (cW := cW) (n := n) (v := a) hK hr hl hne hm h0
  obtain ⟨h3, e2, m2, f2⟩ := aqA (xs := xs) (L := L) (ck := ck) (cW := cW) (n := n) (v := b) hK hr hl hne m1 (fcl_in 8 h0)
  obtain ⟨h4, e3, m3, f3⟩ := aqA (xs := xs) (L := L) (ck := ck) (cW := cW) (n := n) (v := c) hK hr hl hne m2 (fcl_in 8 (fcl_in 8 h0))
  have m4 : h4 o.toNat 1 = fclT m a b c := m3
  refine ⟨h4, ?_, m4, fun P k p => f3 P k (f2 P k (f1 P k p))⟩
  rw [evF_s, gm_f]
  have k1 : evS xs L ck (evF xs L ck K cW g_M (n + 1)) K cW bb_1 [x, a, 0, b, 0, c, 0] (g, h) = some (1, [fclT m a b c], [x, a, 0, b, 0, c, 0], (g, h4)) := by
    generalize evF xs L ck K cW g_M (n + 1) = F at e1 e2 e3 ⊢
    unfold bb_1
    simp only [es_2, es_9, es_16, ee_32, ee_30, ee_31, ee_5, ee_4, ee_3, s_seq, n_call, Option.bind_some, j_hd, List.headD_cons, n_sv, n_z0, List.getD_cons_zero, List.getD_cons_succ, hx1, hx2, List.cons_append, List.nil_append, e1, e2, e3, if_true, m4]
  show (evS xs L ck (evF xs L ck K cW g_M (n + 1)) K cW bb_1 [x, a, 0, b, 0, c, 0] (g, h)).bind _ = _
  rw [k1, Option.bind_some]
  exact if_pos chk_self
theorem fqM {n : Nat} (hK : 9 ≤ K) {o sr m a b c : Int} {g : XS × Nat × Nat} {h : XH} (hr : j_rf g.1 o.toNat 1 = some sr) (hl : j_len g.1 sr.toNat = 1000) (hne : sr.toNat ≠ o.toNat) (hm : h o.toNat 2 = m) (h0 : 0 ≤ m ∧ m ≤ 1000) :
    ∃ hh, evF xs L ck K cW g_M (n + 2) 183 [o, a, b, c] (g, h) = some (1, [fclT m a b c], (g, hh)) ∧ hh o.toNat 2 = fclT m a b c ∧ ∀ P, KpM o.toNat sr.toNat P → P (j_up h o.toNat 0 0) → P hh := by
  have hm0 : j_up h o.toNat 0 ((0 : Nat) : Int) o.toNat 2 = m := by rw [up_ne (fun z => absurd z.2 (by decide)), hm]
  obtain ⟨h2, e1, m1, f1⟩ := aqM (xs := xs) (L := L) (ck := ck) (cW := cW) (n := n) (v := a) hK hr hl hne hm0 h0
  obtain ⟨h3, e2, m2, f2⟩ := aqM (xs := xs) (L := L) (ck := ck) (cW := cW) (n := n) (v := b) hK hr hl hne m1 (fcl_in 8 h0)
  obtain ⟨h4, e3, m3, f3⟩ := aqM (xs := xs) (L := L) (ck := ck) (cW := cW) (n := n) (v := c) hK hr hl hne m2 (fcl_in 8 (fcl_in 8 h0))
  have m4 : h4 o.toNat 2 = fclT m a b c := m3
  refine ⟨h4, ?_, m4, fun P k p => f3 P k (f2 P k (f1 P k p))⟩
  rw [evF_s, gm_g]
  have k1 : evS xs L ck (evF xs L ck K cW g_M (n + 1)) K cW bb_183 [o, a, 0, b, 0, c, 0] (g, h) = some (1, [fclT m a b c], [o, a, 0, b, 0, c, 0], (g, h4)) := by
    generalize evF xs L ck K cW g_M (n + 1) = F at e1 e2 e3 ⊢
    unfold bb_183
    simp only [es_2, es_5, es_9, es_16, s_putf, ee_32, ee_30, ee_31, ee_5, ee_4, ee_3, ee_1, s_seq, n_call, Option.bind_some, j_hd, List.headD_cons, n_sv, n_z0, List.getD_cons_zero, List.getD_cons_succ, List.cons_append, List.nil_append, if_true, e1, e2, e3, m4]
  show (evS xs L ck (evF xs L ck K cW g_M (n + 1)) K cW bb_183 [o, a, 0, b, 0, c, 0] (g, h)).bind _ = _
  rw [k1, Option.bind_some]
  exact if_pos chk_self
end TAPE
end
section
/-! ===== grid, work and feed, as the law sees them: the class's side ===== -/
section CLS6
variable {xs : Nat → Int} {L K c d n : Nat} {F : XP}
theorem gm_2 : g_M 2 = (0, 2, [10], [1], bb_2) := rfl
theorem gm_4 : g_M 4 = (0, 2, [10], [1], bb_4) := rfl
theorem gm_61 : g_M 61 = (0, 1, [19], [], bb_61) := rfl
theorem cy_21 : c_ty g_fk a_g3 2 1 = 1 := by decide +kernel
theorem cy_3 : ∀ j, c_ty g_fk a_g3 3 j = 1 := by
  obtain ⟨c', h, e⟩ : ∃ c', a_g3[3]? = some c' ∧ c'.1 = 8 := by
    have h : (match a_g3[3]? with | some c' => decide (c'.1 = 8) | none => false) = true := by decide +kernel
    split at h
    · exact ⟨_, by assumption, of_decide_eq_true h⟩
    · cases h
  exact fun j => (ty_arr h j).2.2 e
theorem ro_21 : g_ro 2 1 = true := by decide
theorem ro_ge {o k : Nat} (h : 182 ≤ o) : g_ro o k = true := by
  unfold g_ro
  rw [Bool.or_eq_true, Bool.or_eq_true]
  exact Or.inl (Or.inr (Nat.ble_eq.mpr h))
theorem ro_t {k : Nat} : g_ro 3 k = true := by
  unfold g_ro
  rw [Bool.or_eq_true]
  exact Or.inr rfl
theorem clr_ok {ck : Nat → List Nat} {cW : Nat → Nat → Int} {o : Int} {st : XT} : evF xs L ck K cW g_M (n + 1) 61 [o] st = some (1, [], (st.1, j_up st.2 o.toNat 1 0)) := by
  rw [evF_s, gm_61]
  have k1 : evS xs L ck (evF xs L ck K cW g_M n) K cW bb_61 [o] st = some (1, [], [o], (st.1, j_up st.2 o.toNat 1 0)) := by
    generalize evF xs L ck K cW g_M n = F
    rfl
  show (evS xs L ck (evF xs L ck K cW g_M n) K cW bb_61 [o] st).bind _ = _
  rw [k1, Option.bind_some]
  exact if_pos chk_self
theorem root_ty : TV (fun _ => 0) a_g3 10 0 := by
  have h : (match a_g3[0]? with | some c' => decide (c'.1 = 10) | none => false) = true := by decide +kernel
  split at h
  · rename_i c' hc
    exact TV.ref (by decide) (by decide) ⟨Int.le_refl _, c', hc, of_decide_eq_true h⟩
  · cases h
theorem fld_ty {k kd : Nat} (hk : (g_fk 0)[k]? = some kd) (h6 : 6 ≤ kd) (h7 : kd < 100) : ∃ q : Int, j_rf a_g3 (0 : Int).toNat k = some q ∧ TV (fun _ => 0) a_g3 kd q := by
  obtain ⟨q, hq, q0, c', hc, he⟩ := ref_at (ci := 0) (k := k) root_ty (by decide) hk h6 h7
  exact ⟨q, hq, TV.ref h6 h7 ⟨q0, c', hc, he⟩⟩
theorem ht_clr {h : XH} (hH : HT g_fk a_g3 h) : HT g_fk a_g3 (j_up h (2 : Int).toNat 1 0) := hH.up (fun _ => in_0) (fun e => absurd (cy_21.symm.trans e) (by decide)) (fun e => absurd (cy_21.symm.trans e) (by decide))
/-- what a call of the class leaves -/
def KeptC (h h' : XH) : Prop := ∀ o k, 182 ≤ o → h' o k = h o k
theorem FR.kp {h h' : XH} (a : FR g_ro h h') : KeptC h h' := fun o k e => a o k (ro_ge e)
theorem KeptC.tr {h h1 h2 : XH} (a : KeptC h h1) (b : KeptC h1 h2) : KeptC h h2 := fun o k e => (b o k e).trans (a o k e)
theorem kp_clr {h : XH} : KeptC h (j_up h (2 : Int).toNat 1 0) := fun o k e => up_ne (fun z => by have := z.1; rw [show (2 : Int).toNat = 2 from rfl] at this; omega)
theorem grid_ok (hK : 4294967300 ≤ K) (hn : 5 < n) {h : XH} (hH : HT g_fk a_g3 h) : ∃ v h', evF xs L g_ck K g_cW g_M (n + 1) 2 [0] ((a_g3, c, d), h) = some (1, [v], ((a_g3, c, d), h')) ∧ HT g_fk a_g3 h' ∧ h' 2 1 = 0 ∧ KeptC h h' := by
  obtain ⟨q1, hq1, t1⟩ := fld_ty (k := 1) (kd := 15) rfl (by decide) (by decide)
  obtain ⟨q2, hq2, t2⟩ := fld_ty (k := 2) (kd := 15) rfl (by decide) (by decide)
  obtain ⟨q0, hq0, t0⟩ := fld_ty (k := 0) (kd := 16) rfl (by decide) (by decide)
  have e01 : q0 = 1 := Option.some.inj (hq0.symm.trans fg_1)
  subst e01
  obtain ⟨r1, h1, a1, a2, a3, a4⟩ := (g_cls (xs := xs) (L := L) (c := c) (d := d) hK n 119 (Nat.lt_of_le_of_lt (show g_dp 119 ≤ 5 by decide) hn) (by decide)).2 (by decide) [1, q2] h hH ⟨t0, t2, trivial⟩
  obtain ⟨v, rfl, hv⟩ := VL.one (t := 1) a4
  have h61 : ∀ st : XT, evF xs L g_ck K g_cW g_M n 61 [2] st = some (1, [], (st.1, j_up st.2 (2 : Int).toNat 1 0)) := fun st => by
    obtain ⟨m, rfl⟩ : ∃ m, n = m + 1 := ⟨n - 1, by omega⟩
    exact clr_ok
  have b2 := ht_clr a2
  have b3 : KeptC h (j_up h1 (2 : Int).toNat 1 0) := a3.kp.tr kp_clr
  have b4 : j_up h1 (2 : Int).toNat 1 0 2 1 = 0 := up_eq
  generalize hh2 : j_up h1 (2 : Int).toNat 1 0 = h2 at b2 b3 b4
  obtain ⟨r3, h3, c1, c2, c3, c4⟩ := (g_cls (xs := xs) (L := L) (c := c) (d := d) hK n 97 (Nat.lt_of_le_of_lt (show g_dp 97 ≤ 5 by decide) hn) (by decide)).2 (by decide) [q1, q2] h2 b2 ⟨t1, t2, trivial⟩
  obtain ⟨r4, h4, d1, d2, d3, d4⟩ := (g_cls (xs := xs) (L := L) (c := c) (d := d) hK n 3 (Nat.lt_of_le_of_lt (show g_dp 3 ≤ 5 by decide) hn) (by decide)).2 (by decide) [0] h3 c2 ⟨root_ty, trivial⟩
  refine ⟨v, if v = 0 then h4 else h2, ?_, ?_, ?_, ?_⟩
  · rw [evF_s, gm_2]
    have k1 : evS xs L g_ck (evF xs L g_ck K g_cW g_M n) K g_cW bb_2 [0, 0] ((a_g3, c, d), h) = some (1, [v], [0, v], ((a_g3, c, d), if v = 0 then h4 else h2)) := by
      generalize evF xs L g_ck K g_cW g_M n = F at a1 h61 c1 d1 ⊢
      unfold bb_2
      simp only [es_2, es_3, es_9, es_10, es_20, es_16, ee_32, ee_30, ee_31, ee_21, ee_5, ee_3, s_seq, s_if, n_call, n_cmp, Option.bind_some, j_hd, List.headD_cons, n_sv, n_z0, List.getD_cons_zero, List.getD_cons_succ, List.set_cons_succ, List.set_cons_zero, hq0, hq1, hq2, fg_2, List.cons_append, List.nil_append, a1, h61, hh2, if_true, j_cmp]
      by_cases hv0 : v = 0
      · subst hv0
        simp [j_b, c1, d1, h61, hh2]
      · simp [j_b, hv0, h61, hh2]
    show (evS xs L g_ck (evF xs L g_ck K g_cW g_M n) K g_cW bb_2 [0, 0] ((a_g3, c, d), h)).bind _ = _
    rw [k1, Option.bind_some]
    exact if_pos chk_self
  · split
    · exact d2
    · exact b2
  · split
    · rw [d3 2 1 ro_21, c3 2 1 ro_21]
      exact b4
    · exact b4
  · split
    · exact b3.tr (c3.kp.tr d3.kp)
    · exact b3
theorem work_ok (hK : 4294967300 ≤ K) (hn : 5 < n) {h : XH} (hH : HT g_fk a_g3 h) : ∃ v h', evF xs L g_ck K g_cW g_M (n + 1) 4 [0] ((a_g3, c, d), h) = some (1, [v], ((a_g3, c, d), h')) ∧ HT g_fk a_g3 h' ∧ h' 2 1 = 0 ∧ KeptC h h' := by
  obtain ⟨q1, hq1, t1⟩ := fld_ty (k := 1) (kd := 15) rfl (by decide) (by decide)
  obtain ⟨q3, hq3, t3⟩ := fld_ty (k := 3) (kd := 13) rfl (by decide) (by decide)
  obtain ⟨q4, hq4, t4⟩ := fld_ty (k := 4) (kd := 13) rfl (by decide) (by decide)
  obtain ⟨q0, hq0, t0⟩ := fld_ty (k := 0) (kd := 16) rfl (by decide) (by decide)
  have e01 : q0 = 1 := Option.some.inj (hq0.symm.trans fg_1)
  subst e01
  obtain ⟨r1, h1, a1, a2, a3, a4⟩ := (g_cls (xs := xs) (L := L) (c := c) (d := d) hK n 120 (Nat.lt_of_le_of_lt (show g_dp 120 ≤ 5 by decide) hn) (by decide)).2 (by decide) [1, q1, q4] h hH ⟨t0, t1, t4, trivial⟩
  obtain ⟨v, rfl, hv⟩ := VL.one (t := 1) a4
  have h61 : ∀ st : XT, evF xs L g_ck K g_cW g_M n 61 [2] st = some (1, [], (st.1, j_up st.2 (2 : Int).toNat 1 0)) := fun st => by
    obtain ⟨m, rfl⟩ : ∃ m, n = m + 1 := ⟨n - 1, by omega⟩
    exact clr_ok
  have b2 := ht_clr a2
  have b3 : KeptC h (j_up h1 (2 : Int).toNat 1 0) := a3.kp.tr kp_clr
  have b4 : j_up h1 (2 : Int).toNat 1 0 2 1 = 0 := up_eq
  generalize hh2 : j_up h1 (2 : Int).toNat 1 0 = h2 at b2 b3 b4
  obtain ⟨r3, h3, c1, c2, c3, c4⟩ := (g_cls (xs := xs) (L := L) (c := c) (d := d) hK n 117 (Nat.lt_of_le_of_lt (show g_dp 117 ≤ 5 by decide) hn) (by decide)).2 (by decide) [q3, q4] h2 b2 ⟨t3, t4, trivial⟩
  refine ⟨v, if v = 0 then h3 else h2, ?_, ?_, ?_, ?_⟩
  · rw [evF_s, gm_4]
    have k1 : evS xs L g_ck (evF xs L g_ck K g_cW g_M n) K g_cW bb_4 [0, 0] ((a_g3, c, d), h) = some (1, [v], [0, v], ((a_g3, c, d), if v = 0 then h3 else h2)) := by
      generalize evF xs L g_ck K g_cW g_M n = F at a1 h61 c1 ⊢
      unfold bb_4
      simp only [es_2, es_3, es_9, es_10, es_20, es_16, ee_32, ee_30, ee_31, ee_21, ee_5, ee_3, s_seq, s_if, n_call, n_cmp, Option.bind_some, j_hd, List.headD_cons, n_sv, n_z0, List.getD_cons_zero, List.getD_cons_succ, List.set_cons_succ, List.set_cons_zero, hq0, hq1, hq3, hq4, fg_2, List.cons_append, List.nil_append, a1, h61, hh2, if_true, j_cmp]
      by_cases hv0 : v = 0
      · subst hv0
        simp [j_b, c1, h61, hh2]
      · simp [j_b, hv0, h61, hh2]
    show (evS xs L g_ck (evF xs L g_ck K g_cW g_M n) K g_cW bb_4 [0, 0] ((a_g3, c, d), h)).bind _ = _
    rw [k1, Option.bind_some]
    exact if_pos chk_self
  · split
    · exact c2
    · exact b2
  · split
    · rw [c3 2 1 ro_21]
      exact b4
    · exact b4
  · split
    · exact b3.tr c3.kp
    · exact b3
end CLS6
end
section
/-! ===== feed, as the law sees it: both sides ===== -/
section FEED7
variable {xs : Nat → Int} {L K c d n : Nat} {F : XP}
theorem kd_ty {q kd : Nat} (h : (match a_g3[q]? with | some c' => decide (c'.1 = kd) | none => false) = true) : ∃ c', a_g3[q]? = some c' ∧ c'.1 = kd := by
  split at h
  · exact ⟨_, by assumption, of_decide_eq_true h⟩
  · cases h
theorem cy_183 : ∀ j, c_ty g_fk a_g3 183 j = 1 := by
  obtain ⟨c', h, e⟩ := kd_ty (q := 183) (kd := 6) (by decide +kernel)
  exact fun j => (ty_arr h j).1 e
theorem in_byC (s : Int) : InI (byC s) := by
  unfold byC
  exact ⟨Int32.le_toInt _, by have := Int32.toInt_lt ((Int32.ofInt (j_un 4 s)).toInt8.toInt32); omega⟩
theorem kpA_HT : KpA 2 3 (HT g_fk a_g3) := fun h m s hH => by
  unfold upA
  split
  · exact (up_i cy_3 hH (in_byC s)).up (fun _ => iop_in _ _ _) (fun e => absurd (cy_21.symm.trans e) (by decide)) (fun e => absurd (cy_21.symm.trans e) (by decide))
  · exact hH
theorem cy_r : ∀ k, k < 4 → c_ty g_fk a_g3 182 k ≠ 2 ∧ c_ty g_fk a_g3 182 k ≠ 100 := by decide +kernel
theorem kpM_HT : KpM 182 183 (HT g_fk a_g3) := fun h m s hs hH => by
  unfold upM
  split
  · exact (up_i cy_183 hH hs).up (fun _ => iop_in _ _ _) (fun e => absurd e (cy_r 2 (by decide)).1) (fun e => absurd e (cy_r 2 (by decide)).2)
  · exact hH
/-- what class and reference are known to be before and after each call of the law -/
def Lnk (h : XH) : Prop := HT g_fk a_g3 h ∧ 0 ≤ h 2 1 ∧ h 2 1 ≤ 1000 ∧ h 182 2 = h 2 1
theorem feed_ok (hK : 4294967300 ≤ K) {h : XH} {a b e : Int} (hL : Lnk h) : ∃ v h1 h2, evF xs L g_ck K g_cW g_M (n + 2) 1 [0, a, b, e] ((a_g3, c, d), h) = some (1, [v], ((a_g3, c, d), h1)) ∧ evF xs L g_ck K g_cW g_M (n + 2) 183 [182, a, b, e] ((a_g3, c, d), h1) = some (1, [v], ((a_g3, c, d), h2)) ∧ Lnk h2 := by
  obtain ⟨hH, m0, m1, hm⟩ := hL
  obtain ⟨h1, e1, e2, e3⟩ := fqA (xs := xs) (L := L) (ck := g_ck) (cW := g_cW) (K := K) (n := n) (a := a) (b := b) (c := e) (g := (a_g3, c, d)) (h := h) (by omega) fg_1 fg_2 fg_3 fg_4 (by decide) rfl ⟨m0, m1⟩
  have k1 : HT g_fk a_g3 h1 := e3 _ kpA_HT hH
  have k2 : h1 182 2 = h 2 1 := e3 (fun h' => h' 182 2 = h 2 1) (fun h' m s p => by
    unfold upA
    split
    · rw [up_ne (fun z => absurd z.1 (by decide)), up_ne (fun z => absurd z.1 (by decide))]
      exact p
    · exact p) hm
  obtain ⟨h2, f1, f2, f3⟩ := fqM (xs := xs) (L := L) (ck := g_ck) (cW := g_cW) (K := K) (n := n) (a := a) (b := b) (c := e) (g := (a_g3, c, d)) (h := h1) (by omega) fg_5 fg_6 (by decide) k2 ⟨m0, m1⟩
  have z1 : HT g_fk a_g3 (j_up h1 (182 : Int).toNat 0 0) := k1.up (fun _ => in_0) (fun e => absurd e (cy_r 0 (by decide)).1) (fun e => absurd e (cy_r 0 (by decide)).2)
  have k3 : HT g_fk a_g3 h2 := f3 _ kpM_HT z1
  have e2' : h1 2 1 = fclT (h 2 1) a b e := e2
  have k4 : h2 2 1 = fclT (h 2 1) a b e := f3 (fun h' => h' 2 1 = fclT (h 2 1) a b e) (fun h' m s _ p => by
    unfold upM
    split
    · rw [up_ne (fun z => absurd z.1 (by decide)), up_ne (fun z => absurd z.1 (by decide))]
      exact p
    · exact p) ((up_ne (fun z => absurd z.1 (by decide))).trans e2')
  have hin : 0 ≤ fclT (h 2 1) a b e ∧ fclT (h 2 1) a b e ≤ 1000 := fcl_in 8 (fcl_in 8 (fcl_in 8 ⟨m0, m1⟩))
  exact ⟨_, h1, h2, e1, f1, k3, k4.symm ▸ hin.1, k4.symm ▸ hin.2, f2.trans k4.symm⟩
/-- a call of the class that is neither feed nor grid nor work keeps the link and the reference's cells -/
theorem cls_lnk (hK : 4294967300 ≤ K) {f : Nat} (hd : g_dp f < n) (hd2 : g_dp f < 99999) {h : XH} {av : List Int} (hL : Lnk h) (hv : VL (fun _ => 0) a_g3 ((g_T 0).2.1 f) av) : ∃ cc r g' h', evF xs L g_ck K g_cW g_M n f av ((a_g3, c, d), h) = some (cc, r, (g', h')) ∧ Lnk h' ∧ KeptC h h' ∧ ((cc = 1 ∧ g' = (a_g3, c, d) ∧ VL (fun _ => 0) a_g3 ((g_T 0).2.2.1 f) r) ∨ (cc = 4 ∧ g_THR f = true ∧ g' = (a_g3, c + 1, d + 6))) := by
  obtain ⟨hH, m0, m1, hm⟩ := hL
  obtain ⟨k1, k2⟩ := g_cls (xs := xs) (L := L) (c := c) (d := d) hK n f hd hd2
  obtain ⟨cc, r, g', h', e1, e2, e3, e4⟩ := k1 av h hH hv
  refine ⟨cc, r, g', h', e1, ⟨e2, ?_, ?_, ?_⟩, e3.kp, ?_⟩
  · rw [e3 2 1 ro_21]; exact m0
  · rw [e3 2 1 ro_21]; exact m1
  · rw [e3 2 1 ro_21, e3.kp 182 2 (Nat.le_refl _)]; exact hm
  · rcases e4 with e4 | ⟨e4, e5⟩
    · exact Or.inl e4
    · refine Or.inr ⟨e4, ?_, e5⟩
      cases hx : g_THR f with
      | true => rfl
      | false =>
        obtain ⟨r2, h2, q1, -⟩ := k2 hx av h hH hv
        rw [e1] at q1
        have : cc = 1 := congrArg Prod.fst (Option.some.inj q1)
        omega
end FEED7
end
section
/-! ===== the tape: what feed writes, in both ===== -/
section TAPE2
variable {xs : Nat → Int} {L K : Nat} {ck : Nat → List Nat} {F : XP} {cW : Nat → Nat → Int}
def upB (X : Nat → Int) (m s : Int) : Nat → Int := if rdB s = 1 ∧ m < 1000 then fun k => if k = m.toNat then s else X k else X
/-- what lies in the tape when the last j of a number's eight signs are added -/
def fcB (v : Int) : Nat → Int → (Nat → Int) → Nat → Int
  | 0, _, X => X
  | j + 1, m, X => fcB v j (clG m (sgC v (8 * (j : Int)))) (upB X m (sgC v (8 * (j : Int))))
theorem byC_ok : (List.range 127).all (fun n => decide (byC (n : Int) = (n : Int))) = true := by decide +kernel
theorem rdB_b {s : Int} (h : rdB s = 1) : 0 ≤ s ∧ s ≤ 126 := by
  unfold rdB j_b at h
  by_cases t1 : s = 10
  · omega
  · by_cases t2 : 32 ≤ s ∧ s ≤ 126
    · omega
    · have t3 : (decide (s = 10) || (decide (32 ≤ s) && decide (s ≤ 126))) = false := by
        rw [decide_eq_false t1, Bool.false_or, Bool.and_eq_false_iff, decide_eq_false_iff_not, decide_eq_false_iff_not]
        omega
      rw [t3] at h
      cases h
theorem byC_id {s : Int} (h : rdB s = 1) : byC s = s := by
  obtain ⟨a, b⟩ := rdB_b h
  have k := List.all_eq_true.mp byC_ok s.toNat (List.mem_range.mpr (by omega))
  have e : ((s.toNat : Nat) : Int) = s := by omega
  have k2 := of_decide_eq_true k
  rw [e] at k2
  exact k2
theorem upA_B {h : XH} {o sr : Nat} {m s : Int} (h1 : m < 1000) (hne : sr ≠ o) : upA h o sr m s sr = upB (h sr) m s := by
  unfold upA upB
  rcases rdB_01 s with e | e
  · rw [e]
    rfl
  · rw [if_pos e, if_pos ⟨e, h1⟩, byC_id e]
    funext k
    rw [up_ne (fun z => hne z.1)]
    by_cases y : k = m.toNat
    · rw [if_pos y, y, up_eq]
    · rw [if_neg y, up_ne (fun z => y z.2)]
theorem upM_B {h : XH} {o sr : Nat} {m s : Int} (h1 : m < 1000) (hne : sr ≠ o) : upM h o sr m s sr = upB (h sr) m s := by
  unfold upM upB
  rcases rdB_01 s with e | e
  · rw [e]
    rfl
  · rw [if_pos e, if_pos ⟨e, h1⟩]
    funext k
    rw [up_ne (fun z => hne z.1)]
    by_cases y : k = m.toNat
    · rw [if_pos y, y, up_eq]
    · rw [if_neg y, up_ne (fun z => y z.2)]
theorem upB_ge {X : Nat → Int} {m s : Int} (h1 : ¬ m < 1000) : upB X m s = X := if_neg (fun z => h1 z.2)
theorem lqA2 {v o w sr : Int} {g : XS × Nat × Nat} (hr : j_rf g.1 o.toNat 0 = some sr) (hl : j_len g.1 sr.toNat = 1000) (hne : sr.toNat ≠ o.toNat) : ∀ (j fuel : Nat) (s4 s5 m : Int) (h : XH), j ≤ 8 → j + 1 ≤ fuel → h o.toNat 1 = m → 0 ≤ m ∧ m ≤ 1000 →
    ∃ en hh, s_loop (evE xs L ck F cW fdC) (evS xs L ck F K cW fdB) (evS xs L ck F K cW fdP) fuel [o, v, w, 8 * (j : Int) - 8, s4, s5] (g, h) = some (0, [], en, (g, hh)) ∧ hh o.toNat 1 = fcl v j m ∧ hh sr.toNat = fcB v j m (h sr.toNat)
  | 0, fuel, s4, s5, m, h, _, hf, hm, _ => by
    obtain ⟨f, rfl⟩ : ∃ f, fuel = f + 1 := ⟨fuel - 1, by omega⟩
    refine ⟨[o, v, w, 8 * ((0 : Nat) : Int) - 8, s4, s5], h, ?_, hm, rfl⟩
    unfold s_loop
    rw [fdC_ev, Option.bind_some]
    exact if_pos rfl
  | j + 1, fuel, s4, s5, m, h, hj, hf, hm, h0 => by
    obtain ⟨f, rfl⟩ : ∃ f, fuel = f + 1 := ⟨fuel - 1, by omega⟩
    have ek : 8 * ((j + 1 : Nat) : Int) - 8 = 8 * (j : Int) := by omega
    rw [ek]
    obtain ⟨h', hb, hu, hP⟩ : ∃ h', evS xs L ck F K cW fdB [o, v, w, 8 * (j : Int), s4, s5] (g, h) = some (0, [], [o, v, w, 8 * (j : Int), sgC v (8 * (j : Int)), rdB (sgC v (8 * (j : Int)))], (g, h')) ∧ h' o.toNat 1 = clG m (sgC v (8 * (j : Int))) ∧ h' sr.toNat = upB (h sr.toNat) m (sgC v (8 * (j : Int))) := by
      by_cases h1 : m < 1000
      · refine ⟨_, itA (xs := xs) (L := L) (ck := ck) (F := F) (K := K) (cW := cW) (v := v) (w := w) (k := 8 * (j : Int)) (s4 := s4) (s5 := s5) (st := (g, h)) hr hl hm h0.1 h1 hne, ?_, upA_B h1 hne⟩
        rw [clG_lt h1]
        exact (upA_m h0.1 h1 hm).1
      · refine ⟨h, itA1 (st := (g, h)) hr hl hm h0.1 h1, ?_, (upB_ge h1).symm⟩
        rw [clG_ge h1]
        exact hm
    obtain ⟨en, hh, e1, e2, e3⟩ := lqA2 hr hl hne j f (sgC v (8 * (j : Int))) (rdB (sgC v (8 * (j : Int)))) _ h' (by omega) (by omega) hu (clG_in h0)
    refine ⟨en, hh, ?_, e2, ?_⟩
    · unfold s_loop
      rw [fdC_ev, Option.bind_some]
      dsimp only
      rw [decide_eq_true (show 8 * (j : Int) ≥ 0 by omega)]
      refine (if_neg (by decide)).trans ?_
      rw [hb, Option.bind_some]
      refine (if_pos (Or.inl rfl)).trans ?_
      dsimp only
      rw [fdP_ev, Option.bind_some]
      refine (if_pos rfl).trans ?_
      dsimp only
      rw [j32_8 (by omega)]
      exact e1
    · rw [e3, hP]
      rfl
theorem lqM2 {v o w sr : Int} {g : XS × Nat × Nat} (hr : j_rf g.1 o.toNat 1 = some sr) (hl : j_len g.1 sr.toNat = 1000) (hne : sr.toNat ≠ o.toNat) : ∀ (j fuel : Nat) (s4 m : Int) (h : XH), j ≤ 8 → j + 1 ≤ fuel → h o.toNat 2 = m → 0 ≤ m ∧ m ≤ 1000 →
    ∃ en hh, s_loop (evE xs L ck F cW fdC) (evS xs L ck F K cW fmB) (evS xs L ck F K cW fdP) fuel [o, v, w, 8 * (j : Int) - 8, s4] (g, h) = some (0, [], en, (g, hh)) ∧ hh o.toNat 2 = fcl v j m ∧ hh sr.toNat = fcB v j m (h sr.toNat)
  | 0, fuel, s4, m, h, _, hf, hm, _ => by
    obtain ⟨f, rfl⟩ : ∃ f, fuel = f + 1 := ⟨fuel - 1, by omega⟩
    refine ⟨[o, v, w, 8 * ((0 : Nat) : Int) - 8, s4], h, ?_, hm, rfl⟩
    unfold s_loop
    rw [fdC_ev, Option.bind_some]
    exact if_pos rfl
  | j + 1, fuel, s4, m, h, hj, hf, hm, h0 => by
    obtain ⟨f, rfl⟩ : ∃ f, fuel = f + 1 := ⟨fuel - 1, by omega⟩
    have ek : 8 * ((j + 1 : Nat) : Int) - 8 = 8 * (j : Int) := by omega
    rw [ek]
    obtain ⟨h', hb, hu, hP⟩ : ∃ h', evS xs L ck F K cW fmB [o, v, w, 8 * (j : Int), s4] (g, h) = some (0, [], [o, v, w, 8 * (j : Int), sgM v (8 * (j : Int))], (g, h')) ∧ h' o.toNat 2 = clG m (sgC v (8 * (j : Int))) ∧ h' sr.toNat = upB (h sr.toNat) m (sgC v (8 * (j : Int))) := by
      rw [sg_all v j (by omega)]
      by_cases h1 : m < 1000
      · refine ⟨_, itM (xs := xs) (L := L) (ck := ck) (F := F) (K := K) (cW := cW) (v := v) (w := w) (k := 8 * (j : Int)) (s4 := s4) (st := (g, h)) hr hl hm h0.1 h1 hne, ?_, upM_B h1 hne⟩
        rw [clG_lt h1]
        exact (upM_m h0.1 h1 hm).1
      · refine ⟨h, itM1 (st := (g, h)) hm h1, ?_, (upB_ge h1).symm⟩
        rw [clG_ge h1]
        exact hm
    obtain ⟨en, hh, e1, e2, e3⟩ := lqM2 hr hl hne j f (sgM v (8 * (j : Int))) _ h' (by omega) (by omega) hu (clG_in h0)
    refine ⟨en, hh, ?_, e2, ?_⟩
    · unfold s_loop
      rw [fdC_ev, Option.bind_some]
      dsimp only
      rw [decide_eq_true (show 8 * (j : Int) ≥ 0 by omega)]
      refine (if_neg (by decide)).trans ?_
      rw [hb, Option.bind_some]
      refine (if_pos (Or.inl rfl)).trans ?_
      dsimp only
      rw [fdP_ev, Option.bind_some]
      refine (if_pos rfl).trans ?_
      dsimp only
      rw [j32_8 (by omega)]
      exact e1
    · rw [e3, hP]
      rfl
theorem aqA2 {n : Nat} (hK : 9 ≤ K) {o v sr m : Int} {g : XS × Nat × Nat} {h : XH} (hr : j_rf g.1 o.toNat 0 = some sr) (hl : j_len g.1 sr.toNat = 1000) (hne : sr.toNat ≠ o.toNat) (hm : h o.toNat 1 = m) (h0 : 0 ≤ m ∧ m ≤ 1000) :
    ∃ hh, evF xs L ck K cW g_M (n + 1) 62 [o, v] (g, h) = some (1, [], (g, hh)) ∧ hh o.toNat 1 = fcl v 8 m ∧ hh sr.toNat = fcB v 8 m (h sr.toNat) := by
  obtain ⟨en, hh, e1, e2, e3⟩ := lqA2 (xs := xs) (L := L) (K := K) (ck := ck) (cW := cW) (F := evF xs L ck K cW g_M n) (v := v) (w := 0) hr hl hne 8 K 0 0 m h (by omega) hK hm h0
  refine ⟨hh, ?_, e2, e3⟩
  rw [evF_s, gm_a]
  have k1 : evS xs L ck (evF xs L ck K cW g_M n) K cW bb_62 [o, v, 0, 0, 0, 0] (g, h) = some (1, [], en, (g, hh)) := by
    rw [fd_a, es_2, es_17, es_20, es_2, es_3, es_12, ee_1]
    unfold s_seq
    dsimp only
    simp only [Option.bind_some, if_true]
    have e4 : [o, v, 0, 0, 0, 0].set (sx_n (sv 3)) (j_hd [if sx_n z0 = 0 then (sx_n (sv 56) : Int) else -(sx_n (sv 56) : Int)]) = [o, v, 0, 8 * ((8 : Nat) : Int) - 8, 0, 0] := rfl
    rw [e4, e1]
    rfl
  show (evS xs L ck (evF xs L ck K cW g_M n) K cW bb_62 [o, v, 0, 0, 0, 0] (g, h)).bind _ = _
  rw [k1, Option.bind_some]
  exact if_pos chk_self
theorem aqM2 {n : Nat} (hK : 9 ≤ K) {o v sr m : Int} {g : XS × Nat × Nat} {h : XH} (hr : j_rf g.1 o.toNat 1 = some sr) (hl : j_len g.1 sr.toNat = 1000) (hne : sr.toNat ≠ o.toNat) (hm : h o.toNat 2 = m) (h0 : 0 ≤ m ∧ m ≤ 1000) :
    ∃ hh, evF xs L ck K cW g_M (n + 1) 184 [o, v] (g, h) = some (1, [], (g, hh)) ∧ hh o.toNat 2 = fcl v 8 m ∧ hh sr.toNat = fcB v 8 m (h sr.toNat) := by
  obtain ⟨en, hh, e1, e2, e3⟩ := lqM2 (xs := xs) (L := L) (K := K) (ck := ck) (cW := cW) (F := evF xs L ck K cW g_M n) (v := v) (w := 0) hr hl hne 8 K 0 m h (by omega) hK hm h0
  refine ⟨hh, ?_, e2, e3⟩
  rw [evF_s, gm_m]
  have k1 : evS xs L ck (evF xs L ck K cW g_M n) K cW bb_184 [o, v, 0, 0, 0] (g, h) = some (1, [], en, (g, hh)) := by
    rw [fd_m, es_2, es_17, es_20, es_2, es_3, es_12, ee_1]
    unfold s_seq
    dsimp only
    simp only [Option.bind_some, if_true]
    have e4 : [o, v, 0, 0, 0].set (sx_n (sv 3)) (j_hd [if sx_n z0 = 0 then (sx_n (sv 56) : Int) else -(sx_n (sv 56) : Int)]) = [o, v, 0, 8 * ((8 : Nat) : Int) - 8, 0] := rfl
    rw [e4, e1]
    rfl
  show (evS xs L ck (evF xs L ck K cW g_M n) K cW bb_184 [o, v, 0, 0, 0] (g, h)).bind _ = _
  rw [k1, Option.bind_some]
  exact if_pos chk_self
/-- what lies in the tape after a feed -/
def fcT (m a b c : Int) (X : Nat → Int) : Nat → Int := fcB c 8 (fcl b 8 (fcl a 8 m)) (fcB b 8 (fcl a 8 m) (fcB a 8 m X))
theorem fqA2 {n : Nat} (hK : 9 ≤ K) {x rr o sr m a b c : Int} {g : XS × Nat × Nat} {h : XH} (hx1 : j_rf g.1 x.toNat 0 = some rr) (hx2 : j_rf g.1 rr.toNat 0 = some o) (hr : j_rf g.1 o.toNat 0 = some sr) (hl : j_len g.1 sr.toNat = 1000) (hne : sr.toNat ≠ o.toNat) (hm : h o.toNat 1 = m) (h0 : 0 ≤ m ∧ m ≤ 1000) :
    ∃ hh, evF xs L ck K cW g_M (n + 2) 1 [x, a, b, c] (g, h) = some (1, [fclT m a b c], (g, hh)) ∧ hh sr.toNat = fcT m a b c (h sr.toNat) := by
  obtain ⟨h2, e1, m1, f1⟩ := aqA2 (xs := xs) (L := L) (ck := ck) (cW := cW) (n := n) (v := a) hK hr hl hne hm h0
  obtain ⟨h3, e2, m2, f2⟩ := aqA2 (xs := xs) (L := L) (ck := ck) (cW := cW) (n := n) (v := b) hK hr hl hne m1 (fcl_in 8 h0)
  obtain ⟨h4, e3, m3, f3⟩ := aqA2 (xs := xs) (L := L) (ck := ck) (cW := cW) (n := n) (v := c) hK hr hl hne m2 (fcl_in 8 (fcl_in 8 h0))
  have m4 : h4 o.toNat 1 = fclT m a b c := m3
  refine ⟨h4, ?_, ?_⟩
  · rw [evF_s, gm_f]
    have k1 : evS xs L ck (evF xs L ck K cW g_M (n + 1)) K cW bb_1 [x, a, 0, b, 0, c, 0] (g, h) = some (1, [fclT m a b c], [x, a, 0, b, 0, c, 0], (g, h4)) := by
      generalize evF xs L ck K cW g_M (n + 1) = F at e1 e2 e3 ⊢
      unfold bb_1
      simp only [es_2, es_9, es_16, ee_32, ee_30, ee_31, ee_5, ee_4, ee_3, s_seq, n_call, Option.bind_some, j_hd, List.headD_cons, n_sv, n_z0, List.getD_cons_zero, List.getD_cons_succ, hx1, hx2, List.cons_append, List.nil_append, e1, e2, e3, if_true, m4]
    show (evS xs L ck (evF xs L ck K cW g_M (n + 1)) K cW bb_1 [x, a, 0, b, 0, c, 0] (g, h)).bind _ = _
    rw [k1, Option.bind_some]
    exact if_pos chk_self
  · rw [f3, f2, f1]
    rfl
theorem fqM2 {n : Nat} (hK : 9 ≤ K) {o sr m a b c : Int} {g : XS × Nat × Nat} {h : XH} (hr : j_rf g.1 o.toNat 1 = some sr) (hl : j_len g.1 sr.toNat = 1000) (hne : sr.toNat ≠ o.toNat) (hm : h o.toNat 2 = m) (h0 : 0 ≤ m ∧ m ≤ 1000) :
    ∃ hh, evF xs L ck K cW g_M (n + 2) 183 [o, a, b, c] (g, h) = some (1, [fclT m a b c], (g, hh)) ∧ hh sr.toNat = fcT m a b c (h sr.toNat) := by
  have hm0 : j_up h o.toNat 0 ((0 : Nat) : Int) o.toNat 2 = m := by rw [up_ne (fun z => absurd z.2 (by decide)), hm]
  obtain ⟨h2, e1, m1, f1⟩ := aqM2 (xs := xs) (L := L) (ck := ck) (cW := cW) (n := n) (v := a) hK hr hl hne hm0 h0
  obtain ⟨h3, e2, m2, f2⟩ := aqM2 (xs := xs) (L := L) (ck := ck) (cW := cW) (n := n) (v := b) hK hr hl hne m1 (fcl_in 8 h0)
  obtain ⟨h4, e3, m3, f3⟩ := aqM2 (xs := xs) (L := L) (ck := ck) (cW := cW) (n := n) (v := c) hK hr hl hne m2 (fcl_in 8 (fcl_in 8 h0))
  have m4 : h4 o.toNat 2 = fclT m a b c := m3
  refine ⟨h4, ?_, ?_⟩
  · rw [evF_s, gm_g]
    have k1 : evS xs L ck (evF xs L ck K cW g_M (n + 1)) K cW bb_183 [o, a, 0, b, 0, c, 0] (g, h) = some (1, [fclT m a b c], [o, a, 0, b, 0, c, 0], (g, h4)) := by
      generalize evF xs L ck K cW g_M (n + 1) = F at e1 e2 e3 ⊢
      unfold bb_183
      simp only [es_2, es_5, es_9, es_16, s_putf, ee_32, ee_30, ee_31, ee_5, ee_4, ee_3, ee_1, s_seq, n_call, Option.bind_some, j_hd, List.headD_cons, n_sv, n_z0, List.getD_cons_zero, List.getD_cons_succ, List.cons_append, List.nil_append, if_true, e1, e2, e3, m4]
    show (evS xs L ck (evF xs L ck K cW g_M (n + 1)) K cW bb_183 [o, a, 0, b, 0, c, 0] (g, h)).bind _ = _
    rw [k1, Option.bind_some]
    exact if_pos chk_self
  · have e0 : j_up h o.toNat 0 ((0 : Nat) : Int) sr.toNat = h sr.toNat := funext fun k => up_ne (fun z => hne z.1)
    rw [f3, f2, f1, e0]
    rfl
/-- what is below the length is the same in both, and readable -/
def SmB (m : Int) (X Y : Nat → Int) : Prop := ∀ k : Nat, (k : Int) < m → X k = Y k ∧ 0 ≤ X k ∧ X k ≤ 127
theorem upB_sm {m s : Int} {X Y : Nat → Int} (h0 : 0 ≤ m) (h : SmB m X Y) : SmB (clG m s) (upB X m s) (upB Y m s) := by
  intro k hk
  unfold clG at hk
  unfold upB
  by_cases y : rdB s = 1 ∧ m < 1000
  · rw [if_pos y] at hk ⊢
    rw [if_pos y]
    by_cases z : k = m.toNat
    · rw [if_pos z, if_pos z]
      have := rdB_b y.1
      omega
    · rw [if_neg z, if_neg z]
      exact h k (by omega)
  · rw [if_neg y] at hk ⊢
    rw [if_neg y]
    exact h k hk
theorem fcB_sm {v : Int} : ∀ (j : Nat) {m : Int} {X Y : Nat → Int}, 0 ≤ m ∧ m ≤ 1000 → SmB m X Y → SmB (fcl v j m) (fcB v j m X) (fcB v j m Y)
  | 0, _, _, _, _, h => h
  | j + 1, _, _, _, h0, h => fcB_sm j (clG_in h0) (upB_sm h0.1 h)
theorem fcT_sm {m a b c : Int} {X Y : Nat → Int} (h0 : 0 ≤ m ∧ m ≤ 1000) (h : SmB m X Y) : SmB (fclT m a b c) (fcT m a b c X) (fcT m a b c Y) := fcB_sm 8 (fcl_in 8 (fcl_in 8 h0)) (fcB_sm 8 (fcl_in 8 h0) (fcB_sm 8 h0 h))
end TAPE2
end
section
/-! ===== a fourth reading_w: intervals, for_w the reference_w; what a number_w is_w known_w to be ===== -/
/-- tag_w, low_w, high_w: tag_w 1 an int within_w, 2 a long within_w, 3 a block's base (429 j, j below_w 12) and a number_w within_w, 4 the number_w low_w itself_w, 5 a told_w meter, 6 a told_w class, 7 how many_w meters are told_w, 8 how many_w classes; else nothing_w -/
abbrev IT : Type := Nat × Int × Int
def IV (P : Int × Int) : IT → Int → Prop
  | (1, l, h), v => l ≤ v ∧ v ≤ h ∧ InI v
  | (2, l, h), v => l ≤ v ∧ v ≤ h ∧ InL v
  | (3, l, h), v => InI v ∧ ∃ j : Nat, j < 12 ∧ 429 * (j : Int) + l ≤ v ∧ v ≤ 429 * (j : Int) + h
  | (4, l, _), v => v = l
  | (5, _, _), v => 0 ≤ v ∧ v < P.1 ∧ P.1 ≤ 6
  | (6, _, _), v => 0 ≤ v ∧ v < P.2 ∧ P.2 ≤ 4
  | (7, _, _), v => v = P.1 ∧ 0 ≤ v ∧ v ≤ 6
  | (8, _, _), v => v = P.2 ∧ 0 ≤ v ∧ v ≤ 4
  | _, _ => True
def iT : IT := (1, -2147483648, 2147483647)
def iL : IT := (2, -9223372036854775808, 9223372036854775807)
/-- as_w an int within_w -/
def i_wd : IT → IT
  | (5, _, _) => (1, 0, 5)
  | (6, _, _) => (1, 0, 3)
  | (7, _, _) => (1, 0, 6)
  | (8, _, _) => (1, 0, 4)
  | t => t
section IVS
variable {P : Int × Int} {v w : Int} {a b t u : IT}
theorem IV.top (h : InI v) : IV P iT v := ⟨h.1, by have := h.2; omega, h⟩
theorem IV.topL (h : InL v) : IV P iL v := ⟨h.1, by have := h.2; omega, h⟩
theorem IV.wd : ∀ {t : IT}, IV P t v → IV P (i_wd t) v
  | (0, _, _), h => h
  | (1, _, _), h => h
  | (2, _, _), h => h
  | (3, _, _), h => h
  | (4, _, _), h => h
  | (5, _, _), h => ⟨h.1, by have := h.2; omega, by have := h.1; omega, by have := h.2; omega⟩
  | (6, _, _), h => ⟨h.1, by have := h.2; omega, by have := h.1; omega, by have := h.2; omega⟩
  | (7, _, _), h => ⟨h.2.1, h.2.2, by have := h.2; omega, by have := h.2; omega⟩
  | (8, _, _), h => ⟨h.2.1, h.2.2, by have := h.2; omega, by have := h.2; omega⟩
  | (_ + 9, _, _), h => h
def i_sub1 (a b : IT) : Bool := a.1 == b.1 && (Nat.ble 5 a.1 || (a.1 == 4 && decide (a.2.1 = b.2.1)) || (a.1 != 4 && decide (b.2.1 ≤ a.2.1) && decide (a.2.2 ≤ b.2.2)))
theorem IV.sub1 (h : i_sub1 a b = true) (hv : IV P a v) : IV P b v := by
  obtain ⟨ta, la, ha_w⟩ := a
  obtain ⟨tb, lb, hb_w⟩ := b
  simp only [i_sub1, Bool.or_eq_true, Bool.and_eq_true, beq_iff_eq, bne_iff_ne, decide_eq_true_eq, Nat.ble_eq] at h
  obtain ⟨rfl, h⟩ := h
  match ta, h, hv with
  | 0, _, _ => trivial
  | 1, h, hv =>
    have h1 : lb ≤ la ∧ ha_w ≤ hb_w := by omega
    obtain ⟨k1_w, k2, k3⟩ := hv
    exact ⟨by omega, by omega, k3⟩
  | 2, h, hv =>
    have h1 : lb ≤ la ∧ ha_w ≤ hb_w := by omega
    obtain ⟨k1_w, k2, k3⟩ := hv
    exact ⟨by omega, by omega, k3⟩
  | 3, h, hv =>
    have h1 : lb ≤ la ∧ ha_w ≤ hb_w := by omega
    obtain ⟨k1_w, j, k2, k3, k4⟩ := hv
    exact ⟨k1_w, j, k2, by omega, by omega⟩
  | 4, h, hv =>
    have h1 : la = lb := by omega
    exact Eq.trans hv h1
  | 5, _, hv => exact hv
  | 6, _, hv => exact hv
  | 7, _, hv => exact hv
  | 8, _, hv => exact hv
  | _ + 9, _, _ => trivial
/-- a block's base, told_w as_w a number_w -/
def i_base (a b : IT) : Bool := b.1 == 3 && a.1 == 1 && decide (a.2.1 = a.2.2) && decide (0 ≤ a.2.1) && decide (a.2.1 < 5148) && decide (a.2.1 % 429 = 0) && decide (b.2.1 ≤ 0) && decide (0 ≤ b.2.2)
theorem IV.base (h : i_base a b = true) (hv : IV P a v) : IV P b v := by
  obtain ⟨ta, la, ha_w⟩ := a
  obtain ⟨tb, lb, hb_w⟩ := b
  simp only [i_base, Bool.and_eq_true, beq_iff_eq, decide_eq_true_eq] at h
  obtain ⟨⟨⟨⟨⟨⟨⟨rfl, rfl⟩, rfl⟩, h1⟩, h2⟩, h3⟩, h4⟩, h5⟩ := h
  obtain ⟨k1_w, k2, k3⟩ := hv
  exact ⟨k3, (la / 429).toNat, by omega, by omega, by omega⟩
def i_sub (a b : IT) : Bool := b.1 == 0 || i_sub1 a b || i_sub1 (i_wd a) b || i_base a b
theorem IV.z {l h : Int} : IV P (0, l, h) v := trivial
theorem IV.sub (h : i_sub a b = true) (hv : IV P a v) : IV P b v := by
  simp only [i_sub, Bool.or_eq_true, beq_iff_eq] at h
  rcases h with ((h | h) | h) | h
  · obtain ⟨tb, lb, hb_w⟩ := b
    dsimp only at h
    subst h
    exact IV.z
  · exact IV.sub1 h hv
  · exact IV.sub1 h hv.wd
  · exact IV.base h hv
/-- one that holds_w both_w -/
def i_lub0 (a b : IT) : IT := bif (a.1 == b.1) && (a.1 == 1 || a.1 == 2 || a.1 == 3) then (a.1, min a.2.1 b.2.1, max a.2.2 b.2.2) else (0, 0, 0)
def i_lub (a b : IT) : IT := bif i_sub a b then b else bif i_sub b a then a else i_lub0 (i_wd a) (i_wd b)
theorem lub0_l (hv : IV P a v) : IV P (i_lub0 a b) v := by
  unfold i_lub0
  cases h3 : (a.1 == b.1) && (a.1 == 1 || a.1 == 2 || a.1 == 3) with
  | false => exact IV.z
  | true =>
    obtain ⟨ta, la, ha_w⟩ := a
    obtain ⟨tb, lb, hb_w⟩ := b
    simp only [Bool.and_eq_true, Bool.or_eq_true, beq_iff_eq] at h3
    refine IV.sub1 ?_ hv
    have h4 : ta ≠ 4 := by omega
    simp [cond, i_sub1, h4, Int.min_le_left, Int.le_max_left]
theorem lub0_r (hv : IV P b v) : IV P (i_lub0 a b) v := by
  unfold i_lub0
  cases h3 : (a.1 == b.1) && (a.1 == 1 || a.1 == 2 || a.1 == 3) with
  | false => exact IV.z
  | true =>
    obtain ⟨ta, la, ha_w⟩ := a
    obtain ⟨tb, lb, hb_w⟩ := b
    simp only [Bool.and_eq_true, Bool.or_eq_true, beq_iff_eq] at h3
    refine IV.sub1 ?_ hv
    obtain ⟨rfl, h3⟩ := h3
    have h4 : ta ≠ 4 := by omega
    simp [cond, i_sub1, h4, Int.min_le_right, Int.le_max_right]
theorem ilub_l (hv : IV P a v) : IV P (i_lub a b) v := by
  unfold i_lub
  cases h : i_sub a b with
  | true => exact IV.sub h hv
  | false =>
    cases h2 : i_sub b a with
    | true => exact hv
    | false => exact lub0_l hv.wd
theorem ilub_r (hv : IV P b v) : IV P (i_lub a b) v := by
  unfold i_lub
  cases h : i_sub a b with
  | true => exact hv
  | false =>
    cases h2 : i_sub b a with
    | true => exact IV.sub h2 hv
    | false => exact lub0_r hv.wd
/-- a wider_w one: a bound_w that moved is_w given up -/
def i_wid (a b : IT) : IT := bif i_sub b a then a else bif (i_wd a).1 == 1 && (i_wd b).1 == 1 then (1, (if (i_wd a).2.1 ≤ (i_wd b).2.1 then (i_wd a).2.1 else -2147483648), (if (i_wd b).2.2 ≤ (i_wd a).2.2 then (i_wd a).2.2 else 2147483647)) else (0, 0, 0)
theorem wid_l (hv : IV P a v) : IV P (i_wid a b) v := by
  unfold i_wid
  cases h : i_sub b a with
  | true => exact hv
  | false =>
    cases h2 : (i_wd a).1 == 1 && (i_wd b).1 == 1 with
    | false => exact IV.z
    | true =>
      have h3 := hv.wd
      generalize i_wd a = a' at h2 h3 ⊢
      obtain ⟨ta, la, ha_w⟩ := a'
      simp only [Bool.and_eq_true, beq_iff_eq] at h2
      obtain ⟨rfl, -⟩ := h2
      obtain ⟨k1_w, k2, k3⟩ := h3
      have k4 := k3
      unfold InI at k4
      refine ⟨?_, ?_, k3⟩
      · dsimp only
        split <;> omega
      · dsimp only
        split <;> omega
/-- an int that was worked out, if it stays_w an int -/
def i_clip (l h : Int) : IT := if -2147483648 ≤ l ∧ h < 2147483648 then (1, l, h) else iT
theorem i_j32 {l h : Int} (a : l ≤ v) (b : v ≤ h) : IV P (i_clip l h) (j32 v) := by
  unfold i_clip
  split
  · rename_i k
    have hv : InI v := ⟨Int.le_trans k.1 a, by omega⟩
    rw [j32_in hv]
    exact ⟨a, b, hv⟩
  · exact IV.top (in_j32 _)
/-- an int within_w, as_w it is_w -/
def i_is (t : IT) : Bool := (i_wd t).1 == 1
theorem IV.int (h : i_is t = true) (hv : IV P t v) : (i_wd t).2.1 ≤ v ∧ v ≤ (i_wd t).2.2 ∧ InI v := by
  have h3 := hv.wd
  unfold i_is at h
  generalize i_wd t = a' at h h3 ⊢
  obtain ⟨ta, la, ha_w⟩ := a'
  rw [beq_iff_eq] at h
  dsimp only at h
  subst h
  exact h3
/-- int operations -/
def i_op (op_w : Nat) (a b : IT) : IT :=
  let a' := i_wd a
  let b' := i_wd b
  bif a'.1 == 1 && b'.1 == 1 then (match op_w with
    | 0 => i_clip (a'.2.1 + b'.2.1) (a'.2.2 + b'.2.2)
    | 1 => i_clip (a'.2.1 - b'.2.2) (a'.2.2 - b'.2.1)
    | 2 => if a'.2.1 = a'.2.2 ∧ 0 ≤ a'.2.1 then i_clip (a'.2.1 * b'.2.1) (a'.2.1 * b'.2.2) else iT
    | _ => iT)
  else bif a'.1 == 3 && b'.1 == 1 && op_w == 0 then (if -100000 ≤ a'.2.1 + b'.2.1 ∧ a'.2.2 + b'.2.2 ≤ 100000 then (3, a'.2.1 + b'.2.1, a'.2.2 + b'.2.2) else iT)
  else iT
theorem i_op_ok {op_w : Nat} (ha_w : IV P a v) (hb_w : IV P b w) : IV P (i_op op_w a b) (j_iop op_w v w) := by
  have ha2 := ha_w.wd
  have hb2 := hb_w.wd
  unfold i_op
  dsimp only
  generalize i_wd a = a' at ha2 ⊢
  generalize i_wd b = b' at hb2 ⊢
  obtain ⟨ta, la, xa⟩ := a'
  obtain ⟨tb, lb, xb⟩ := b'
  dsimp only
  have top : IV P iT (j_iop op_w v w) := IV.top (iop_in _ _ _)
  cases h1 : ta == 1 && tb == 1 with
  | true =>
    simp only [Bool.and_eq_true, beq_iff_eq] at h1
    obtain ⟨rfl, rfl⟩ := h1
    obtain ⟨a1_w, a2, a3⟩ := ha2
    obtain ⟨b1, b2, b3⟩ := hb2
    simp only [cond_true]
    split
    · exact i_j32 (by omega) (by omega)
    · exact i_j32 (by omega) (by omega)
    · split
      · rename_i k
        have e : v = la := by omega
        subst e
        exact i_j32 (Int.mul_le_mul_of_nonneg_left b1 k.2) (Int.mul_le_mul_of_nonneg_left b2 k.2)
      · exact IV.top (iop_in _ _ _)
    · exact top
  | false =>
    cases h2 : ta == 3 && tb == 1 && op_w == 0 with
    | false => exact top
    | true =>
      simp only [Bool.and_eq_true, beq_iff_eq] at h2
      obtain ⟨⟨rfl, rfl⟩, rfl⟩ := h2
      show IV P (if -100000 ≤ la + lb ∧ xa + xb ≤ 100000 then (3, la + lb, xa + xb) else iT) _
      split
      · rename_i k
        obtain ⟨-, j, aj, a1_w, a2⟩ := ha2
        obtain ⟨b1, b2, -⟩ := hb2
        have hv : InI (v + w) := ⟨by omega, by omega⟩
        show IV P _ (j32 (v + w))
        rw [j32_in hv]
        exact ⟨hv, j, aj, by omega, by omega⟩
      · exact top
def i_neg (a : IT) : IT := bif (i_wd a).1 == 1 then i_clip (-(i_wd a).2.2) (-(i_wd a).2.1) else iT
theorem i_neg_ok (ha_w : IV P a v) : IV P (i_neg a) (j_un 0 v) := by
  unfold i_neg
  cases h : (i_wd a).1 == 1 with
  | true =>
    obtain ⟨a1_w, a2, -⟩ := IV.int h ha_w
    exact i_j32 (by omega) (by omega)
  | false => exact IV.top (in_j32 _)
/-- division: none where the divisor may_w be 0 -/
def i_div (op_w : Nat) (a b : IT) : Option IT :=
  let a' := i_wd a
  let b' := i_wd b
  if b'.2.1 ≤ 0 ∧ 0 ≤ b'.2.2 then none
  else bif Nat.blt op_w 2 then (bif a'.1 == 1 && b'.1 == 1 then (if 0 ≤ a'.2.1 ∧ 0 < b'.2.1 then some (1, 0, if op_w = 0 then a'.2.2 else min a'.2.2 (b'.2.2 - 1)) else some iT) else none)
  else bif a'.1 == 2 && b'.1 == 2 then (if op_w = 3 ∧ 0 ≤ a'.2.1 ∧ 0 < b'.2.1 then some (2, 0, b'.2.2 - 1) else some iL) else none
theorem emod_bd {v w : Int} (hv : 0 ≤ v) (hw : 0 < w) : v.tmod w = v % w ∧ 0 ≤ v % w ∧ v % w < w ∧ v % w ≤ v := by
  have e : v.tmod w = v % w := Int.tmod_eq_emod_of_nonneg hv
  have e1_w : 0 ≤ v % w := Int.emod_nonneg _ (by omega)
  have e2_w : v % w < w := Int.emod_lt_of_pos _ hw
  refine ⟨e, e1_w, e2_w, ?_⟩
  have k1_w := Int.natAbs_tmod v w
  have k2 := Nat.mod_le v.natAbs w.natAbs
  rw [e] at k1_w
  omega
theorem ediv_bd {v w : Int} (hv : 0 ≤ v) (hw : 0 < w) : v.tdiv w = v / w ∧ 0 ≤ v / w ∧ v / w ≤ v := by
  refine ⟨Int.tdiv_eq_ediv_of_nonneg hv, Int.ediv_nonneg hv (by omega), ?_⟩
  exact Int.ediv_le_self _ hv
theorem i_div_ok {op_w : Nat} (h : i_div op_w a b = some t) (ha_w : IV P a v) (hb_w : IV P b w) : w ≠ 0 ∧ IV P t (j_div op_w v w) := by
  have ha2 := ha_w.wd
  have hb2 := hb_w.wd
  unfold i_div at h
  dsimp only at h
  generalize i_wd a = a' at ha2 h
  generalize i_wd b = b' at hb2 h
  obtain ⟨ta, la, xa⟩ := a'
  obtain ⟨tb, lb, xb⟩ := b'
  dsimp only at h
  split at h
  · cases h
  · rename_i h0
    cases h1 : Nat.blt op_w 2 with
    | true =>
      rw [h1] at h
      cases h2 : ta == 1 && tb == 1 with
      | false => rw [h2] at h; cases h
      | true =>
        rw [h2] at h
        simp only [Bool.and_eq_true, beq_iff_eq] at h2
        obtain ⟨rfl, rfl⟩ := h2
        obtain ⟨a1_w, a2, a3⟩ := ha2
        obtain ⟨b1, b2, b3⟩ := hb2
        have hw : w ≠ 0 := by omega
        refine ⟨hw, ?_⟩
        have hop : op_w = 0 ∨ op_w = 1 := by
          rw [Nat.blt_eq] at h1
          omega
        have top : IV P iT (j_div op_w v w) := by
          rcases hop with rfl | rfl
          · exact IV.top (in_j32 _)
          · exact IV.top (tmod_i a3)
        have h' : (if 0 ≤ la ∧ 0 < lb then some ((1, 0, if op_w = 0 then xa else min xa (xb - 1)) : IT) else some iT) = some t := h
        split at h'
        · rename_i k
          cases h'
          have hv0 : 0 ≤ v := by omega
          have hw0 : 0 < w := by omega
          unfold InI at a3
          rcases hop with rfl | rfl
          · obtain ⟨e1_w, e2_w, e3_w⟩ := ediv_bd hv0 hw0
            show IV P (1, 0, xa) (j32 (v.tdiv w))
            rw [e1_w, j32_in ⟨by omega, by omega⟩]
            exact ⟨e2_w, by omega, by omega, by omega⟩
          · obtain ⟨e1_w, e2_w, e3_w, e4_w⟩ := emod_bd hv0 hw0
            show IV P (1, 0, min xa (xb - 1)) (v.tmod w)
            rw [e1_w]
            exact ⟨e2_w, by omega, by omega, by omega⟩
        · cases h'
          exact top
    | false =>
      rw [h1] at h
      cases h2 : ta == 2 && tb == 2 with
      | false => rw [h2] at h; cases h
      | true =>
        rw [h2] at h
        simp only [Bool.and_eq_true, beq_iff_eq] at h2
        obtain ⟨rfl, rfl⟩ := h2
        obtain ⟨a1_w, a2, a3⟩ := ha2
        obtain ⟨b1, b2, b3⟩ := hb2
        have hw : w ≠ 0 := by omega
        refine ⟨hw, ?_⟩
        have hop : 2 ≤ op_w := by
          have h3 : ¬ op_w < 2 := by
            intro h3
            rw [← Nat.blt_eq, h1] at h3
            cases h3
          omega
        have top : IV P iL (j_div op_w v w) := by
          match op_w, hop with
          | 2, _ => exact IV.topL (in_i64 _)
          | n + 3, _ => exact IV.topL (tmod_l a3)
        have h' : (if op_w = 3 ∧ 0 ≤ la ∧ 0 < lb then some ((2, 0, xb - 1) : IT) else some iL) = some t := h
        split at h'
        · rename_i k
          cases h'
          obtain ⟨rfl, k1_w, k2⟩ := k
          obtain ⟨e1_w, e2_w, e3_w, e4_w⟩ := emod_bd (v := v) (w := w) (by omega) (by omega)
          show IV P (2, 0, xb - 1) (v.tmod w)
          rw [e1_w]
          unfold InL at a3
          exact ⟨e2_w, by omega, by omega, by omega⟩
        · cases h'
          exact top
/-- int to long -/
def i_i2l (a : IT) : Option IT := bif (i_wd a).1 == 1 then some (2, (i_wd a).2.1, (i_wd a).2.2) else none
theorem i_i2l_ok (h : i_i2l a = some t) (ha_w : IV P a v) : IV P t v := by
  unfold i_i2l at h
  cases h1 : (i_wd a).1 == 1 with
  | false => rw [h1] at h; cases h
  | true =>
    rw [h1] at h
    cases h
    obtain ⟨a1_w, a2, a3⟩ := IV.int h1 ha_w
    unfold InI at a3
    exact ⟨a1_w, a2, by unfold InL; omega⟩
/-- what a comparison says_w of its left side_w -/
def i_cut (t : IT) (l h : Int) : IT := bif t.1 == 1 then (1, max t.2.1 l, min t.2.2 h) else t
theorem i_cut_ok {l h : Int} (a : IV P t v) (b : l ≤ v) (c : v ≤ h) : IV P (i_cut t l h) v := by
  obtain ⟨tt, lt, ht⟩ := t
  unfold i_cut
  cases k : tt == 1 with
  | false => exact a
  | true =>
    rw [beq_iff_eq] at k
    subst k
    obtain ⟨k1_w, k2, k3⟩ := a
    exact ⟨Int.max_le.mpr ⟨k1_w, b⟩, Int.le_min.mpr ⟨k2, c⟩, k3⟩
def i_ref (op_w : Nat) (t u : IT) : IT :=
  bif t.1 == 1 && op_w == 2 && u.1 == 7 && decide (0 ≤ t.2.1) then (5, 0, 0)
  else bif t.1 == 1 && op_w == 2 && u.1 == 8 && decide (0 ≤ t.2.1) then (6, 0, 0)
  else bif (i_wd u).1 == 1 && t.1 == 1 then (match op_w with
  | 0 => i_cut t (i_wd u).2.1 (i_wd u).2.2
  | 1 => if (i_wd u).2.1 = (i_wd u).2.2 ∧ t.2.1 = (i_wd u).2.1 then i_cut t (t.2.1 + 1) t.2.2 else t
  | 2 => i_cut t t.2.1 ((i_wd u).2.2 - 1)
  | 3 => i_cut t (i_wd u).2.1 t.2.2
  | 4 => i_cut t ((i_wd u).2.1 + 1) t.2.2
  | 5 => i_cut t t.2.1 (i_wd u).2.2
  | _ => t) else t
theorem i_ref_ok {op_w : Nat} (a : IV P t v) (b : IV P u w) (h : j_cmp op_w v w = true) : IV P (i_ref op_w t u) v := by
  unfold i_ref
  cases h1 : t.1 == 1 && op_w == 2 && u.1 == 7 && decide (0 ≤ t.2.1) with
  | true =>
    obtain ⟨tt, lt, ht⟩ := t
    obtain ⟨tu, lu, hu⟩ := u
    simp only [Bool.and_eq_true, beq_iff_eq, decide_eq_true_eq] at h1
    obtain ⟨⟨⟨rfl, rfl⟩, rfl⟩, h1⟩ := h1
    have h2 : v < w := of_decide_eq_true h
    obtain ⟨b1, b2, b3⟩ := b
    have a1_w : lt ≤ v := a.1
    exact ⟨by omega, by omega, by omega⟩
  | false =>
    cases h2 : t.1 == 1 && op_w == 2 && u.1 == 8 && decide (0 ≤ t.2.1) with
    | true =>
      obtain ⟨tt, lt, ht⟩ := t
      obtain ⟨tu, lu, hu⟩ := u
      simp only [Bool.and_eq_true, beq_iff_eq, decide_eq_true_eq] at h2
      obtain ⟨⟨⟨rfl, rfl⟩, rfl⟩, h2⟩ := h2
      have h3 : v < w := of_decide_eq_true h
      obtain ⟨b1, b2, b3⟩ := b
      have a1_w : lt ≤ v := a.1
      exact ⟨by omega, by omega, by omega⟩
    | false =>
      cases h3 : (i_wd u).1 == 1 && t.1 == 1 with
      | false => exact a
      | true =>
        simp only [Bool.and_eq_true, beq_iff_eq] at h3
        obtain ⟨b1, b2, -⟩ := IV.int (t := u) (by unfold i_is; rw [beq_iff_eq]; exact h3.1) b
        have a1_w : t.2.1 ≤ v ∧ v ≤ t.2.2 := by
          obtain ⟨tt, lt, ht⟩ := t
          obtain ⟨-, h4⟩ := h3
          dsimp only at h4
          subst h4
          exact ⟨a.1, a.2.1⟩
        simp only [cond_true, cond_false]
        split
        · have e : v = w := of_decide_eq_true h
          exact i_cut_ok a (by omega) (by omega)
        · have e : v ≠ w := of_decide_eq_true h
          split
          · exact i_cut_ok a (by omega) (by omega)
          · exact a
        · have e : v < w := of_decide_eq_true h
          exact i_cut_ok a a1_w.1 (by omega)
        · have e : v ≥ w := of_decide_eq_true h
          exact i_cut_ok a (by omega) a1_w.2
        · have e : v > w := of_decide_eq_true h
          exact i_cut_ok a (by omega) a1_w.2
        · have e : v ≤ w := of_decide_eq_true h
          exact i_cut_ok a a1_w.1 (by omega)
        · exact a
end IVS
def i_not (op_w : Nat) : Nat := match op_w with
  | 0 => 1
  | 1 => 0
  | 2 => 3
  | 3 => 2
  | 4 => 5
  | 5 => 4
  | _ => 99
theorem i_not_ok {op_w : Nat} {v w : Int} (h : j_cmp op_w v w = false) (ho : op_w < 6) : j_cmp (i_not op_w) v w = true := by
  match op_w, ho with
  | 0, _ => exact decide_eq_true (of_decide_eq_false h)
  | 1, _ => exact decide_eq_true (Decidable.of_not_not (of_decide_eq_false h))
  | 2, _ => exact decide_eq_true (by have := of_decide_eq_false h; omega)
  | 3, _ => exact decide_eq_true (by have := of_decide_eq_false h; omega)
  | 4, _ => exact decide_eq_true (by have := of_decide_eq_false h; omega)
  | 5, _ => exact decide_eq_true (by have := of_decide_eq_false h; omega)
/-- lists_w of numbers_w -/
def IL (P : Int × Int) : List IT → List Int → Prop
  | [], [] => True
  | t :: ts, v :: vs => IV P t v ∧ IL P ts vs
  | _, _ => False
def i_subs : List IT → List IT → Bool
  | [], [] => true
  | a :: x, b :: y => i_sub a b && i_subs x y
  | _, _ => false
def i_zip (f : IT → IT → IT) : List IT → List IT → List IT
  | a :: x, b :: y => f a b :: i_zip f x y
  | _, _ => []
section ILS
variable {P : Int × Int}
theorem IL.len : ∀ {ts : List IT} {vs : List Int}, IL P ts vs → vs.length = ts.length
  | [], [], _ => rfl
  | _ :: _, _ :: _, h => by rw [List.length_cons, List.length_cons, IL.len h.2]
  | [], _ :: _, h => h.elim
  | _ :: _, [], h => h.elim
theorem IL.sub : ∀ {x y : List IT} {vs : List Int}, i_subs x y = true → IL P x vs → IL P y vs
  | [], [], _, _, h => h
  | _ :: _, _ :: _, _ :: _, h, hv => ⟨IV.sub ((Bool.and_eq_true _ _).mp h).1 hv.1, IL.sub ((Bool.and_eq_true _ _).mp h).2 hv.2⟩
  | _ :: _, _ :: _, [], _, hv => hv.elim
  | [], _ :: _, _, h, _ => by cases h
  | _ :: _, [], _, h, _ => by cases h
theorem isubs_len : ∀ {x y : List IT}, i_subs x y = true → x.length = y.length
  | [], [], _ => rfl
  | _ :: _, _ :: _, h => by rw [List.length_cons, List.length_cons, isubs_len ((Bool.and_eq_true _ _).mp h).2]
  | [], _ :: _, h => by cases h
  | _ :: _, [], h => by cases h
theorem zip_l {f : IT → IT → IT} (hf : ∀ a b v, IV P a v → IV P (f a b) v) : ∀ {x y : List IT} {vs : List Int}, x.length = y.length → IL P x vs → IL P (i_zip f x y) vs
  | [], [], [], _, _ => trivial
  | _ :: _, _ :: _, _ :: _, h, hv => ⟨hf _ _ _ hv.1, zip_l hf (by simpa using h) hv.2⟩
  | [], _ :: _, _, h, _ => by simp at h
  | _ :: _, [], _, h, _ => by simp at h
  | [], [], _ :: _, _, hv => hv.elim
  | _ :: _, _ :: _, [], _, hv => hv.elim
theorem zip_r {f : IT → IT → IT} (hf : ∀ a b v, IV P b v → IV P (f a b) v) : ∀ {x y : List IT} {vs : List Int}, x.length = y.length → IL P y vs → IL P (i_zip f x y) vs
  | [], [], [], _, _ => trivial
  | _ :: _, _ :: _, _ :: _, h, hv => ⟨hf _ _ _ hv.1, zip_r hf (by simpa using h) hv.2⟩
  | [], _ :: _, _, h, _ => by simp at h
  | _ :: _, [], _, h, _ => by simp at h
  | [], [], _ :: _, _, hv => hv.elim
  | _ :: _, _ :: _, [], _, hv => hv.elim
theorem IL.at : ∀ {ts : List IT} {vs : List Int} (i : Nat), IL P ts vs → IV P (ts.getD i (0, 0, 0)) (vs.getD i 0)
  | [], [], _, _ => IV.z
  | t :: ts, v :: vs, 0, h => h.1
  | t :: ts, v :: vs, i + 1, h => IL.at (ts := ts) (vs := vs) i h.2
  | [], _ :: _, _, h => h.elim
  | _ :: _, [], _, h => h.elim
theorem IL.set {t : IT} {v : Int} : ∀ {ts : List IT} {vs : List Int} (i : Nat), IL P ts vs → IV P t v → IL P (ts.set i t) (vs.set i v)
  | [], [], _, _, _ => trivial
  | _ :: _, _ :: _, 0, h, ht => ⟨ht, h.2⟩
  | _ :: _, _ :: _, i + 1, h, ht => ⟨h.1, IL.set i h.2 ht⟩
  | [], _ :: _, _, h, _ => h.elim
  | _ :: _, [], _, h, _ => h.elim
/-- what is_w known_w anew_w of a number_w that stays_w -/
theorem IL.put {t : IT} : ∀ {ts : List IT} {vs : List Int} (i : Nat), IL P ts vs → IV P t (vs.getD i 0) → IL P (ts.set i t) vs
  | [], [], _, _, _ => trivial
  | _ :: _, _ :: _, 0, h, ht => ⟨ht, h.2⟩
  | _ :: _, _ :: _, i + 1, h, ht => ⟨h.1, IL.put i h.2 ht⟩
  | [], _ :: _, _, h, _ => h.elim
  | _ :: _, [], _, h, _ => h.elim
theorem IL.app : ∀ {x y : List IT} {v w : List Int}, IL P x v → IL P y w → IL P (x ++ y) (v ++ w)
  | [], _, [], _, _, h => h
  | _ :: _, _, _ :: _, _, h, h2 => ⟨h.1, IL.app h.2 h2⟩
  | [], _, _ :: _, _, h, _ => h.elim
  | _ :: _, _, [], _, h, _ => h.elim
theorem IL.one {t : IT} : ∀ {v : List Int}, IL P [t] v → ∃ x, v = [x] ∧ IV P t x
  | [x], h => ⟨x, rfl, h.1⟩
  | [], h => h.elim
  | _ :: _ :: _, h => h.2.elim
theorem IL.take : ∀ {x : List IT} {v : List Int} (n : Nat), IL P x v → IL P (x.take n) (v.take n)
  | _, _, 0, _ => trivial
  | [], [], _ + 1, _ => trivial
  | _ :: _, _ :: _, n + 1, h => ⟨h.1, IL.take n h.2⟩
  | [], _ :: _, _ + 1, h => h.elim
  | _ :: _, [], _ + 1, h => h.elim
theorem IL.rep : ∀ n, IL P (List.replicate n (0, 0, 0)) (List.replicate n 0)
  | 0 => trivial
  | n + 1 => ⟨IV.z, IL.rep n⟩
end ILS
end
section
/-! ===== the fourth reading_w: arrays_w by regions ===== -/
/-- an array: its length_w, the length_w of its blocks_w (0: none), its regions (in a block_w) with what lies there_w -/
abbrev RG : Type := Nat × Nat × List (Nat × Nat × IT)
def AInv (P : Int × Int) (a : RG) (f : Nat → Int) : Prop := ∀ r, r ∈ a.2.2 → ∀ i j : Nat, r.1 ≤ i → i < r.2.1 → j < 12 → IV P r.2.2 (f (a.2.1 * j + i))
def ar_cov (a : RG) : Bool := (List.range (if a.2.1 = 0 then a.1 else a.2.1)).all fun i => a.2.2.any fun r => decide (r.1 ≤ i) && decide (i < r.2.1)
def ar_hit (a : RG) (l h : Int) : List IT := (a.2.2.filter fun r => decide ((r.1 : Int) ≤ h) && decide (l < (r.2.1 : Int))).map (·.2.2)
def i_lubL : List IT → IT
  | [] => (0, 0, 0)
  | [t] => t
  | t :: u :: ts => i_lub t (i_lubL (u :: ts))
section ARS
variable {P : Int × Int} {a : RG}
theorem lubL_ok {v : Int} {t : IT} (hv : IV P t v) : ∀ {l : List IT}, t ∈ l → IV P (i_lubL l) v
  | [], h => (by cases h)
  | [u], h => by
    rw [List.mem_singleton] at h
    subst h
    exact hv
  | u :: w :: ts, h => by
    rcases List.mem_cons.mp h with rfl | h
    · exact ilub_l hv
    · exact ilub_r (lubL_ok hv h)
theorem ar_find (hc_w : ar_cov a = true) {i : Nat} (hi_w : i < (if a.2.1 = 0 then a.1 else a.2.1)) : ∃ r, r ∈ a.2.2 ∧ r.1 ≤ i ∧ i < r.2.1 := by
  have h := List.all_eq_true.mp hc_w i (List.mem_range.mpr hi_w)
  obtain ⟨r, hr, h2⟩ := List.any_eq_true.mp h
  simp only [Bool.and_eq_true, decide_eq_true_eq] at h2
  exact ⟨r, hr, h2⟩
theorem hit_mem {l h : Int} {r : Nat × Nat × IT} (hr : r ∈ a.2.2) {i : Nat} (h1 : r.1 ≤ i) (h2 : i < r.2.1) (h3 : l ≤ (i : Int)) (h4 : (i : Int) ≤ h) : r.2.2 ∈ ar_hit a l h := by
  refine List.mem_map.mpr ⟨r, List.mem_filter.mpr ⟨hr, ?_⟩, rfl⟩
  simp only [Bool.and_eq_true, decide_eq_true_eq]
  omega
/-- a cell_w of a block_w -/
theorem ar_at {f : Nat → Int} (ha_w : AInv P a f) (hc_w : ar_cov a = true) {l h : Int} {i j : Nat} (hi_w : i < (if a.2.1 = 0 then a.1 else a.2.1)) (hj : j < 12) (h3 : l ≤ (i : Int)) (h4 : (i : Int) ≤ h) : IV P (i_lubL (ar_hit a l h)) (f (a.2.1 * j + i)) := by
  obtain ⟨r, hr, k1_w, k2⟩ := ar_find hc_w hi_w
  exact lubL_ok (ha_w r hr i j k1_w k2 hj) (hit_mem hr k1_w k2 h3 h4)
/-- the kind that a load_w has_w, if its place_w is_w in the array -/
def ar_ld0 (a : RG) (t : IT) : Option IT :=
  if t.1 = 1 ∧ 0 ≤ t.2.1 ∧ t.2.2 < a.1 then
    if a.2.1 = 0 then some (i_lubL (ar_hit a t.2.1 t.2.2))
    else if t.2.1 / a.2.1 = t.2.2 / a.2.1 ∧ a.1 ≤ 12 * a.2.1 then some (i_lubL (ar_hit a (t.2.1 % a.2.1) (t.2.2 % a.2.1))) else none
  else if t.1 = 3 ∧ a.2.1 = 429 ∧ a.1 = 5148 ∧ 0 ≤ t.2.1 ∧ t.2.2 < 429 then some (i_lubL (ar_hit a t.2.1 t.2.2)) else none
def ar_ld (a : RG) (t : IT) : Option IT := ar_ld0 a (i_wd t)
/-- where a place_w within_w lies: its block_w, its place_w there_w -/
theorem ar_place {t : IT} {u : IT} {v : Int} (h : ar_ld0 a t = some u) (hv : IV P t v) : 0 ≤ v ∧ v < a.1 ∧ ∃ (i j : Nat) (l x : Int), j < 12 ∧ v.toNat = a.2.1 * j + i ∧ i < (if a.2.1 = 0 then a.1 else a.2.1) ∧ l ≤ (i : Int) ∧ (i : Int) ≤ x ∧ u = i_lubL (ar_hit a l x) ∧
    ((t.1 = 1 ∧ a.2.1 = 0 ∧ l = t.2.1 ∧ x = t.2.2) ∨ (t.1 = 1 ∧ a.2.1 ≠ 0 ∧ l = t.2.1 % a.2.1 ∧ x = t.2.2 % a.2.1) ∨ (t.1 = 3 ∧ l = t.2.1 ∧ x = t.2.2)) := by
  obtain ⟨tt, lt, ht⟩ := t
  unfold ar_ld0 at h
  dsimp only at h ⊢
  split at h
  · rename_i k
    obtain ⟨rfl, k1_w, k2⟩ := k
    obtain ⟨v1_w, v2, -⟩ := hv
    have e : v = (v.toNat : Int) := by omega
    refine ⟨by omega, by omega, ?_⟩
    split at h
    · rename_i hp
      cases h
      exact ⟨v.toNat, 0, lt, ht, by decide, by rw [hp]; omega, by rw [if_pos hp]; omega, by omega, by omega, rfl, Or.inl ⟨rfl, hp, rfl, rfl⟩⟩
    · rename_i hp
      split at h
      · rename_i k
        cases h
        have hp0 : (0 : Int) < a.2.1 := by omega
        have q1_w : lt / (a.2.1 : Int) ≤ v / a.2.1 := Int.ediv_le_ediv hp0 v1_w
        have q2_w : v / (a.2.1 : Int) ≤ ht / a.2.1 := Int.ediv_le_ediv hp0 v2
        have q3_w : v / (a.2.1 : Int) = lt / a.2.1 := by omega
        have m1_w := Int.mul_ediv_add_emod v a.2.1
        have m2_w := Int.mul_ediv_add_emod lt a.2.1
        have m3_w := Int.mul_ediv_add_emod ht a.2.1
        rw [← k.1] at m3_w
        rw [q3_w] at m1_w
        have n1_w : v.toNat = a.2.1 * (v.toNat / a.2.1) + v.toNat % a.2.1 := (Nat.div_add_mod _ _).symm
        have n2_w : ((v.toNat % a.2.1 : Nat) : Int) = v % a.2.1 := by rw [Int.natCast_emod, ← e]
        have n3_w : v.toNat % a.2.1 < a.2.1 := Nat.mod_lt _ (by omega)
        have n4_w : v.toNat / a.2.1 < 12 := (Nat.div_lt_iff_lt_mul (by omega)).mpr (by omega)
        exact ⟨v.toNat % a.2.1, v.toNat / a.2.1, lt % a.2.1, ht % a.2.1, n4_w, n1_w, by rw [if_neg hp]; exact n3_w, by omega, by omega, rfl, Or.inr (Or.inl ⟨rfl, hp, rfl, rfl⟩)⟩
      · cases h
  · split at h
    · rename_i k
      cases h
      obtain ⟨rfl, kp, kl, k1_w, k2⟩ := k
      obtain ⟨-, j, hj, v1_w, v2⟩ := hv
      refine ⟨by omega, by omega, (v - 429 * (j : Int)).toNat, j, lt, ht, hj, by rw [kp]; omega, by rw [if_neg (by omega), kp]; omega, by omega, by omega, rfl, Or.inr (Or.inr ⟨rfl, rfl, rfl⟩)⟩
    · cases h
theorem ar_ld_ok {f : Nat → Int} (ha_w : AInv P a f) (hc_w : ar_cov a = true) {t u : IT} {v : Int} (h : ar_ld a t = some u) (hv : IV P t v) : 0 ≤ v ∧ v < a.1 ∧ IV P u (f v.toNat) := by
  obtain ⟨p1_w, p2_w, i, j, l, x, hj, e, hi_w, h1, h2, rfl, -⟩ := ar_place h hv.wd
  refine ⟨p1_w, p2_w, ?_⟩
  rw [e]
  exact ar_at ha_w hc_w hi_w hj h1 h2
/-- a store_w keeps_w an array, if what is_w stored_w fits_w all_w regions that it may_w hit_w -/
def ar_st (a : RG) (t w : IT) : Bool := (match ar_ld a t with
  | some _ => true
  | none => false) && a.2.2.all fun r => i_sub w r.2.2 || (if (i_wd t).1 = 1 ∧ a.2.1 ≠ 0 then decide ((i_wd t).2.2 % a.2.1 < (r.1 : Int)) || decide ((r.2.1 : Int) ≤ (i_wd t).2.1 % a.2.1)
    else decide ((i_wd t).2.2 < (r.1 : Int)) || decide ((r.2.1 : Int) ≤ (i_wd t).2.1))
/-- regions end within_w their block_w -/
def ar_ok (a : RG) : Bool := a.2.2.all fun r => Nat.ble r.2.1 (if a.2.1 = 0 then a.1 else a.2.1)
theorem ar_st_ok {f g : Nat → Int} (ha_w : AInv P a f) (hok : ar_ok a = true) {t w : IT} {v x : Int} (h : ar_st a t w = true) (hv : IV P t v) (hx : IV P w x) (hg : ∀ i, g i = if i = v.toNat then x else f i) : AInv P a g := by
  rw [ar_st, Bool.and_eq_true] at h
  obtain ⟨h0, h1⟩ := h
  cases hl : ar_ld a t with
  | none => rw [hl] at h0; cases h0
  | some u =>
    obtain ⟨p1_w, p2_w, i0, j0, l, y, hj0, e0, hi0_w, q1_w, q2_w, -, q3_w⟩ := ar_place hl hv.wd
    intro r hr i j k1_w k2 hj
    rw [hg]
    split
    · rename_i e
      have h2 := List.all_eq_true.mp h1 r hr
      rw [Bool.or_eq_true] at h2
      rcases h2 with h2 | h2
      · exact IV.sub h2 hx
      · exfalso
        have hr2 := List.all_eq_true.mp hok r hr
        rw [Nat.ble_eq] at hr2
        have hi_w : i = i0 := by
          rw [e0] at e
          by_cases hp : a.2.1 = 0
          · rw [hp, Nat.zero_mul, Nat.zero_mul] at e
            omega
          · rw [if_neg hp] at hi0_w hr2
            have e1_w : (a.2.1 * j0 + i0) % a.2.1 = (a.2.1 * j + i) % a.2.1 := by rw [e]
            rw [Nat.mul_add_mod, Nat.mul_add_mod, Nat.mod_eq_of_lt hi0_w, Nat.mod_eq_of_lt (show i < a.2.1 by omega)] at e1_w
            exact e1_w.symm
        subst hi_w
        rcases q3_w with ⟨z1, z2, rfl, rfl⟩ | ⟨z1, z2, rfl, rfl⟩ | ⟨z1, rfl, rfl⟩
        · rw [if_neg (by omega)] at h2
          simp only [Bool.or_eq_true, decide_eq_true_eq] at h2
          omega
        · rw [if_pos ⟨z1, z2⟩] at h2
          simp only [Bool.or_eq_true, decide_eq_true_eq] at h2
          omega
        · rw [if_neg (by omega)] at h2
          simp only [Bool.or_eq_true, decide_eq_true_eq] at h2
          omega
    · exact ha_w r hr i j k1_w k2 hj
end ARS
end
section
/-! ===== the fourth reading_w: what the reference's cells_w hold ===== -/
/-- tables_w: fields_w of the reference_w; its arrays' objects by field_w; arrays_w by object; which objects are written_w; what methods take, give, what a true answer_w says_w of what they took; which may_w be called_w -/
abbrev QT : Type := (Nat → IT) × (Nat → Nat) × (Nat → RG) × (Nat → Bool) × (Nat → List IT) × (Nat → List IT) × (Nat → List IT) × (Nat → Bool)
abbrev qF (T : QT) : Nat → IT := T.1
abbrev qO (T : QT) : Nat → Nat := T.2.1
abbrev qA (T : QT) : Nat → RG := T.2.2.1
abbrev qW (T : QT) : Nat → Bool := T.2.2.2.1
abbrev qP (T : QT) : Nat → List IT := T.2.2.2.2.1
abbrev qR (T : QT) : Nat → List IT := T.2.2.2.2.2.1
abbrev qU (T : QT) : Nat → List IT := T.2.2.2.2.2.2.1
abbrev qC (T : QT) : Nat → Bool := T.2.2.2.2.2.2.2
/-- the kind of an array's cells_w -/
def r_kd (q : Nat) : Nat := bif q == 203 then 0 else match a_g3[q]? with
  | some (6, _) => 1
  | some (7, _) => 2
  | some (9, _) => 100
  | _ => 0
/-- the last_w of some numbers_w -/
def j_ls (r : List Int) : Int := r.getLastD 0
def RI (P : Int × Int) (T : QT) (J : XH → Prop) (h : XH) : Prop := (∀ k, IV P (qF T k) (h 182 k)) ∧ (∀ q, 183 ≤ q → AInv P (qA T q) (h q)) ∧ J h
/-- cells_w that are not written_w -/
def KR (T : QT) (h h' : XH) : Prop := ∀ o k, qW T o = false → h' o k = h o k
def JS (T : QT) (J : XH → Prop) : Prop := ∀ h h', KR T h h' → J h → J h'
/-- what is_w said_w of the tables_w by themselves -/
def RTab (T : QT) : Prop := (∀ k, ((qF T k).1 = 1 → c_ty g_fk a_g3 182 k = 1) ∧ ((qF T k).1 = 2 → c_ty g_fk a_g3 182 k = 2)) ∧ (∀ k, qO T k ≠ 0 → j_rf a_g3 182 k = some (qO T k : Int)) ∧
  (∀ q, 183 ≤ q → q ≤ 202 → j_len a_g3 q = ((qA T q).1 : Int) ∧ ar_cov (qA T q) = true ∧ ar_ok (qA T q) = true ∧ (∀ k, c_ty g_fk a_g3 q k = r_kd q)) ∧ qW T 182 = true
section RIS
variable {P : Int × Int} {T : QT} {J : XH → Prop}
theorem KR.rf {h : XH} : KR T h h := fun _ _ _ => rfl
theorem KR.tr {h h1 h2 : XH} (a : KR T h h1) (b : KR T h1 h2) : KR T h h2 := fun o k e => (b o k e).trans (a o k e)
theorem KR.up {h : XH} {o k : Nat} {v : Int} (e : qW T o = true) : KR T h (j_up h o k v) := fun a b ha_w => up_ne (fun z => by
  rw [z.1, e] at ha_w
  cases ha_w)
theorem RI.fld {h : XH} {k : Nat} {v : Int} (hJ : JS T J) (hw : qW T 182 = true) (a : RI P T J h) (b : IV P (qF T k) v) : RI P T J (j_up h 182 k v) := by
  refine ⟨fun k' => ?_, fun q hq => ?_, hJ _ _ (KR.up hw) a.2.2⟩
  · by_cases e : k' = k
    · subst e
      rw [up_eq]
      exact b
    · rw [up_ne (fun z => e z.2)]
      exact a.1 k'
  · have e : j_up h 182 k v q = h q := funext fun i => up_ne (fun z => by omega)
    rw [e]
    exact a.2.1 q hq
theorem RI.arr {h : XH} {q : Nat} {i x : Int} {t w : IT} (hJ : JS T J) (hw : qW T q = true) (a : RI P T J h) (hq : 183 ≤ q) (hok : ar_ok (qA T q) = true) (hs : ar_st (qA T q) t w = true) (hi_w : IV P t i) (hx : IV P w x) : RI P T J (j_up h q i.toNat x) := by
  refine ⟨fun k' => ?_, fun q' hq' => ?_, hJ _ _ (KR.up hw) a.2.2⟩
  · rw [up_ne (fun z => by omega)]
    exact a.1 k'
  · by_cases e : q' = q
    · subst e
      refine ar_st_ok (a.2.1 q' hq') hok hs hi_w hx (fun j => ?_)
      by_cases ej : j = i.toNat
      · rw [ej, up_eq, if_pos rfl]
      · rw [up_ne (fun z => ej z.2), if_neg ej]
    · have e2_w : j_up h q i.toNat x q' = h q' := funext fun j => up_ne (fun z => e z.1)
      rw [e2_w]
      exact a.2.1 q' hq'
end RIS
/-- all_w that is_w kept -/
def QK (P : Int × Int) (T : QT) (J : XH → Prop) (h : XH) : Prop := HT g_fk a_g3 h ∧ RI P T J h
/-- what a method_w of the reference_w is_w known_w to do -/
def TotR (P : Int × Int) (T : QT) (J : XH → Prop) (g : Nat × Nat) (F : XP) (f : Nat) : Prop :=
  ∀ (av : List Int) (h : XH), QK P T J h → IL P (qP T f) av → ∃ r h', F f av ((a_g3, g), h) = some (1, r, ((a_g3, g), h')) ∧ QK P T J h' ∧ KR T h h' ∧ IL P (qR T f) r ∧ (j_ls r ≠ 0 → IL P (qU T f) av)
/-- what an expression is_w known_w to do: with what is_w known_w of the locals when its (last_w) number_w is_w 0 or_w not -/
def TotI (P : Int × Int) (T : QT) (J : XH → Prop) (g : Nat × Nat) (τ us τt τf : List IT) (A : XE) : Prop :=
  ∀ (en : List Int) (h : XH), QK P T J h → IL P τ en → ∃ r h', A en ((a_g3, g), h) = some (r, ((a_g3, g), h')) ∧ QK P T J h' ∧ KR T h h' ∧ IL P us r ∧ (j_ls r ≠ 0 → IL P τt en) ∧ (j_ls r = 0 → IL P τf en)
/-- within_w and mustBe -/
def TotW (g : Nat × Nat) (F : XP) : Prop := ∀ (v l u : Int) (h : XH), F 198 [v, l, u] ((a_g3, g), h) = some (1, [j_b (decide (l ≤ v) && decide (v ≤ u))], ((a_g3, g), h))
def TotB (P : Int × Int) (T : QT) (J : XH → Prop) (g : Nat × Nat) (F : XP) : Prop := ∀ (v : Int) (h : XH), (v = 0 ∨ v = 1) → QK P T J h → ∃ h', F 274 [182, v] ((a_g3, g), h) = some (1, [v], ((a_g3, g), h')) ∧ QK P T J h' ∧ KR T h h'
end
section
/-! ===== the fourth reading_w: expressions ===== -/
abbrev QO : Type := Option (List IT × List IT × List IT)
def q_one (x : QO) : Option (IT × List IT × List IT) := match x with
  | some ([t], y, z) => some (t, y, z)
  | _ => none
def q_arr (t : IT) : Bool := t.1 == 4 && decide (183 ≤ t.2.1) && decide (t.2.1 ≤ 202)
/-- a local by itself_w; arguments that begin with a local -/
def q_loc : SX → Option Nat
  | .op (.var 3) (.op (.var i) (.op _ _)) => some i
  | _ => none
def q_var : SX → Option (Nat × SX)
  | .op (.var 30) (.op a (.op b _)) => (q_loc a).map fun i => (i, b)
  | _ => none
def q_cut (τ : List IT) (a : SX) (op_w : Nat) (u : IT) : List IT := match q_loc a with
  | some i => τ.set i (i_ref op_w (τ.getD i (0, 0, 0)) u)
  | none => τ
def q_wth (τ : List IT) (a : SX) (l u : IT) : List IT := match q_var a with
  | some q => bif i_is l && i_is u then τ.set q.1 (i_cut (τ.getD q.1 (0, 0, 0)) (i_wd l).2.1 (i_wd u).2.2) else τ
  | none => τ
def q_tru : List IT → List IT → SX → List IT
  | [], τ, _ => τ
  | t :: ts, τ, a => match q_var a with
    | some q => q_tru ts (bif i_sub t (τ.getD q.1 (0, 0, 0)) then τ.set q.1 t else τ) q.2
    | none => τ
def q_bool : IT := (1, 0, 1)
def q_call (T : QT) (f : Nat) (a : SX) (τ : List IT) (x : List IT × List IT × List IT) : QO :=
  bif f == 274 then (match x.1 with
    | [r, u] => bif r.1 == 4 && decide (r.2.1 = 182) && i_sub u q_bool then some ([q_bool], x.2.1, x.2.2) else none
    | _ => none)
  else bif f == 198 then (match x.1 with
    | [_, l, u] => some ([q_bool], q_wth τ a l u, τ)
    | _ => none)
  else bif qC T f && i_subs x.1 (qP T f) then some (qR T f, q_tru (qU T f) τ a, τ) else none
def qN (T : QT) (t : Nat) (a b c : SX) (A B C : List IT → QO) (τ : List IT) : QO := match t with
  | 1 => match sx_n b with
    | 1 => bif okI (sx_c a b c) then some ([(1, sx_c a b c, sx_c a b c)], τ, τ) else none
    | 2 => bif okL (sx_c a b c) then some ([(2, sx_c a b c, sx_c a b c)], τ, τ) else none
    | _ => none
  | 3 => some ([τ.getD (sx_n a) (0, 0, 0)], τ, τ)
  | 4 => (q_one (A τ)).bind fun x => bif x.1.1 == 4 && decide (x.1.2.1 = 182) then some ([qF T (sx_n b)], τ, τ) else none
  | 5 => (q_one (A τ)).bind fun x => bif x.1.1 == 4 && decide (x.1.2.1 = 182) && !(qO T (sx_n b) == 0) then some ([(4, qO T (sx_n b), 0)], τ, τ) else none
  | 7 => (q_one (A τ)).bind fun x => (q_one (B τ)).bind fun y => bif q_arr x.1 && sx_n c == 0 then (ar_ld (qA T x.1.2.1.toNat) y.1).bind fun u => some ([u], τ, τ) else none
  | 10 => (q_one (A τ)).bind fun x => bif q_arr x.1 && sx_n c == 0 && okI ((qA T x.1.2.1.toNat).1 : Int) then some ([(1, (qA T x.1.2.1.toNat).1, (qA T x.1.2.1.toNat).1)], τ, τ) else none
  | 14 => (q_one (A τ)).bind fun x => (q_one (B τ)).bind fun y => some ([i_op (sx_n c) x.1 y.1], τ, τ)
  | 15 => (q_one (A τ)).bind fun _ => (q_one (B τ)).bind fun _ => some ([iL], τ, τ)
  | 16 => (q_one (A τ)).bind fun _ => (q_one (B τ)).bind fun _ => some ([iL], τ, τ)
  | 17 => (q_one (A τ)).bind fun x => (q_one (B τ)).bind fun y => (i_div (sx_n c) x.1 y.1).bind fun u => some ([u], τ, τ)
  | 18 => (q_one (A τ)).bind fun x => match sx_n c with
    | 0 => some ([i_neg x.1], τ, τ)
    | 1 => some ([iL], τ, τ)
    | 2 => (i_i2l x.1).bind fun u => some ([u], τ, τ)
    | _ => some ([iT], τ, τ)
  | 20 => (q_one (A τ)).bind fun _ => (q_one (B τ)).bind fun y => bif Nat.blt (sx_n c) 6 then some ([q_bool], q_cut τ a (sx_n c) y.1, q_cut τ a (i_not (sx_n c)) y.1) else none
  | 21 => (q_one (A τ)).bind fun _ => bif Nat.blt (sx_n c) 6 then some ([q_bool], q_cut τ a (sx_n c) (1, 0, 0), q_cut τ a (i_not (sx_n c)) (1, 0, 0)) else none
  | 22 => (q_one (A τ)).bind fun _ => (q_one (B τ)).bind fun _ => some ([q_bool], τ, τ)
  | 24 => A τ
  | 25 => (q_one (A τ)).bind fun x => (q_one (B x.2.1)).bind fun y => some ([q_bool], y.2.1, τ)
  | 26 => (q_one (A τ)).bind fun x => (q_one (B x.2.2)).bind fun y => some ([q_bool], τ, y.2.2)
  | 27 => (q_one (A τ)).bind fun x => some ([q_bool], x.2.2, x.2.1)
  | 28 => (q_one (A τ)).bind fun x => (q_one (B x.2.1)).bind fun y => (q_one (C x.2.2)).bind fun z => some ([i_lub y.1 z.1], τ, τ)
  | 30 => (q_one (A τ)).bind fun x => (B τ).bind fun y => match y.1 with
    | [] => some ([x.1], x.2.1, x.2.2)
    | u :: us => some (x.1 :: u :: us, y.2.1, y.2.2)
  | 31 => some ([], τ, τ)
  | 32 => (A τ).bind fun x => q_call T (sx_n b) a τ x
  | _ => none
def qE (T : QT) : SX → List IT → QO
  | .op (.var t) (.op a (.op b c)) => qN T t a b c (qE T a) (qE T b) (qE T c)
  | _ => fun _ => none
theorem q_one_s {x : QO} {y : IT × List IT × List IT} (h : q_one x = some y) : x = some ([y.1], y.2.1, y.2.2) := by
  unfold q_one at h
  split at h
  · cases h; rfl
  · cases h
theorem b_if {α : Type} {b : Bool} {x y : α} (h : (bif b then some x else none) = some y) : b = true ∧ x = y := by
  cases b with
  | true => exact ⟨rfl, Option.some.inj h⟩
  | false => cases h
theorem b_ifx {α : Type} {b : Bool} {x : Option α} {y : α} (h : (bif b then x else none) = some y) : b = true ∧ x = some y := by
  cases b with
  | true => exact ⟨rfl, h⟩
  | false => cases h
section QI
variable {xs : Nat → Int} {L : Nat} {ck : Nat → List Nat} {F : XP} {cW : Nat → Nat → Int} {P : Int × Int} {T : QT} {J : XH → Prop} {g : Nat × Nat} {τ τt τf bt bf ct cf_w us : List IT} {ta tb tc : IT} {A B C : XE} {a b c : SX}
theorem b01 {b : Bool} : IV P q_bool (j_b b) := by
  cases b
  · exact ⟨by decide, by decide, in_0⟩
  · exact ⟨by decide, by decide, by decide, by decide⟩
theorem b_ne {b : Bool} (h : j_b b ≠ 0) : b = true := by
  cases b
  · exact absurd rfl h
  · rfl
theorem b_eq {b : Bool} (h : j_b b = 0) : b = false := by
  cases b
  · rfl
  · cases h
/-- one number_w -/
theorem qi_one (hA : TotI P T J g τ [ta] τt τf A) {en : List Int} {h : XH} (hQ : QK P T J h) (hv : IL P τ en) : ∃ v h', A en ((a_g3, g), h) = some ([v], ((a_g3, g), h')) ∧ QK P T J h' ∧ KR T h h' ∧ IV P ta v ∧ (v ≠ 0 → IL P τt en) ∧ (v = 0 → IL P τf en) := by
  obtain ⟨r, h', e1_w, e2_w, e4_w, e5_w, e6_w, e7_w⟩ := hA en h hQ hv
  obtain ⟨v, rfl, hx⟩ := IL.one e5_w
  exact ⟨v, h', e1_w, e2_w, e4_w, hx, e6_w, e7_w⟩
/-- a number_w of what was worked out, with nothing_w known_w anew_w -/
theorem qi_un {f : Int → Int} {X : XE} (hX : ∀ en st, X en st = (A en st).bind fun x => some ([f (j_hd x.1)], x.2)) (hA : TotI P T J g τ [ta] τt τf A) (hf : ∀ v, IV P ta v → IV P tc (f v)) : TotI P T J g τ [tc] τ τ X := fun en h hQ hv => by
  obtain ⟨v, h1, a1_w, a2, a4, a5, -⟩ := qi_one hA hQ hv
  refine ⟨[f v], h1, ?_, a2, a4, ⟨hf v a5, trivial⟩, fun _ => hv, fun _ => hv⟩
  rw [hX, a1_w]
  rfl
theorem qi_bin {op_w : Int → Int → Int} (hA : TotI P T J g τ [ta] τt τf A) (hB_w : TotI P T J g τ [tb] bt bf B) (hop : ∀ v w, IV P ta v → IV P tb w → IV P tc (op_w v w)) : TotI P T J g τ [tc] τ τ (n_bin op_w A B) := fun en h hQ hv => by
  obtain ⟨v, h1, a1_w, a2, a4, a5, -⟩ := qi_one hA hQ hv
  obtain ⟨w, h2, b1, b2, b4, b5, -⟩ := qi_one hB_w a2 hv
  refine ⟨[op_w v w], h2, ?_, b2, a4.tr b4, ⟨hop v w a5 b5, trivial⟩, fun _ => hv, fun _ => hv⟩
  unfold n_bin
  rw [a1_w, Option.bind_some, b1]
  rfl
theorem q_loc_ok {i : Nat} (h : q_loc a = some i) (en : List Int) (st : XT) : evE xs L ck F cW a en st = some ([en.getD i 0], st) := by
  unfold q_loc at h
  split at h
  · cases h
    rfl
  · cases h
theorem q_var_ok {q : Nat × SX} (h : q_var a = some q) (en : List Int) (st : XT) : evE xs L ck F cW a en st = (evE xs L ck F cW q.2 en st).bind fun y => some (en.getD q.1 0 :: y.1, y.2) := by
  unfold q_var at h
  split at h
  · obtain ⟨i, h1, h2⟩ := Option.map_eq_some_iff.mp h
    cases h2
    show (evE xs L ck F cW _ en st).bind _ = _
    rw [q_loc_ok h1, Option.bind_some]
    rfl
  · cases h
theorem q_cut_ok {op_w : Nat} {en : List Int} {st st' : XT} {v w : Int} {u : IT} (ha_w : evE xs L ck F cW a en st = some ([v], st')) (hv : IL P τ en) (hw : IV P u w) (hc_w : j_cmp op_w v w = true) : IL P (q_cut τ a op_w u) en := by
  unfold q_cut
  cases hq : q_loc a with
  | none => exact hv
  | some i =>
    have e2_w := (q_loc_ok (xs := xs) (L := L) (ck := ck) (F := F) (cW := cW) hq en st).symm.trans ha_w
    have e := (some_one e2_w).1
    refine IL.put i hv (i_ref_ok (IL.at i hv) hw ?_)
    rw [e]
    exact hc_w
theorem qi_cmp {op_w : Nat} (hop : op_w < 6) (hA : TotI P T J g τ [ta] τt τf (evE xs L ck F cW a)) (hB_w : TotI P T J g τ [tb] bt bf B) : TotI P T J g τ [q_bool] (q_cut τ a op_w tb) (q_cut τ a (i_not op_w) tb) (n_cmp (j_cmp op_w) (evE xs L ck F cW a) B) := fun en h hQ hv => by
  obtain ⟨v, h1, a1_w, a2, a4, a5, -⟩ := qi_one hA hQ hv
  obtain ⟨w, h2, b1, b2, b4, b5, -⟩ := qi_one hB_w a2 hv
  refine ⟨[j_b (j_cmp op_w v w)], h2, ?_, b2, a4.tr b4, ⟨b01, trivial⟩, fun k => q_cut_ok a1_w hv b5 (b_ne k), fun k => q_cut_ok a1_w hv b5 (i_not_ok (b_eq k) hop)⟩
  unfold n_cmp
  rw [a1_w, Option.bind_some, b1]
  rfl
theorem qi_cmp0 {op_w : Nat} (hop : op_w < 6) (hA : TotI P T J g τ [ta] τt τf (evE xs L ck F cW a)) {X : XE} (hX : ∀ en st, X en st = (evE xs L ck F cW a en st).bind fun x => some ([j_b (j_cmp op_w (j_hd x.1) 0)], x.2)) : TotI P T J g τ [q_bool] (q_cut τ a op_w (1, 0, 0)) (q_cut τ a (i_not op_w) (1, 0, 0)) X := fun en h hQ hv => by
  obtain ⟨v, h1, a1_w, a2, a4, a5, -⟩ := qi_one hA hQ hv
  have b5 : IV P (1, 0, 0) 0 := ⟨by decide, by decide, in_0⟩
  refine ⟨[j_b (j_cmp op_w v 0)], h1, ?_, a2, a4, ⟨b01, trivial⟩, fun k => q_cut_ok a1_w hv b5 (b_ne k), fun k => q_cut_ok a1_w hv b5 (i_not_ok (b_eq k) hop)⟩
  rw [hX, a1_w]
  rfl
theorem qi_cmpL {op_w : Int → Int → Bool} (hA : TotI P T J g τ [ta] τt τf A) (hB_w : TotI P T J g τ [tb] bt bf B) : TotI P T J g τ [q_bool] τ τ (n_cmp op_w A B) := fun en h hQ hv => by
  obtain ⟨v, h1, a1_w, a2, a4, a5, -⟩ := qi_one hA hQ hv
  obtain ⟨w, h2, b1, b2, b4, b5, -⟩ := qi_one hB_w a2 hv
  refine ⟨[j_b (op_w v w)], h2, ?_, b2, a4.tr b4, ⟨b01, trivial⟩, fun _ => hv, fun _ => hv⟩
  unfold n_cmp
  rw [a1_w, Option.bind_some, b1]
  rfl
theorem qi_nz (hB_w : TotI P T J g τ [tb] bt bf B) : TotI P T J g τ [q_bool] bt bf (n_nz B) := fun en h hQ hv => by
  obtain ⟨w, h2, b1, b2, b4, b5, b6, b7⟩ := qi_one hB_w hQ hv
  refine ⟨[j_b (decide (w ≠ 0))], h2, ?_, b2, b4, ⟨b01, trivial⟩, fun k => b6 (of_decide_eq_true (b_ne k)), fun k => b7 (Decidable.of_not_not (of_decide_eq_false (b_eq k)))⟩
  unfold n_nz
  rw [b1]
  rfl
theorem qi_not (hA : TotI P T J g τ [ta] τt τf A) {X : XE} (hX : ∀ en st, X en st = (A en st).bind fun x => some ([j_b (decide (j_hd x.1 = 0))], x.2)) : TotI P T J g τ [q_bool] τf τt X := fun en h hQ hv => by
  obtain ⟨v, h1, a1_w, a2, a4, a5, a6, a7⟩ := qi_one hA hQ hv
  refine ⟨[j_b (decide (v = 0))], h1, ?_, a2, a4, ⟨b01, trivial⟩, fun k => a7 (of_decide_eq_true (b_ne k)), fun k => a6 (of_decide_eq_false (b_eq k))⟩
  rw [hX, a1_w]
  rfl
/-- both_w: what each_w says_w, when true -/
theorem qi_and (hA : TotI P T J g τ [ta] τt τf A) (hB_w : TotI P T J g τt [tb] bt bf B) : TotI P T J g τ [q_bool] bt τ (n_ife A (n_nz B) (fun _ st => some ([0], st))) := fun en h hQ hv => by
  obtain ⟨v, h1, a1_w, a2, a4, a5, a6, a7⟩ := qi_one hA hQ hv
  unfold n_ife
  rw [a1_w, Option.bind_some]
  by_cases h0 : v = 0
  · refine ⟨[0], h1, if_pos h0, a2, a4, ⟨b01 (b := false), trivial⟩, fun k => absurd rfl k, fun _ => hv⟩
  · obtain ⟨w, h2, b1, b2, b4, b5, b6, b7⟩ := qi_one (qi_nz hB_w) a2 (a6 h0)
    exact ⟨[w], h2, (if_neg h0).trans b1, b2, a4.tr b4, ⟨b5, trivial⟩, b6, fun _ => hv⟩
/-- one of both_w: what each_w says_w, when false -/
theorem qi_or (hA : TotI P T J g τ [ta] τt τf A) (hB_w : TotI P T J g τf [tb] bt bf B) : TotI P T J g τ [q_bool] τ bf (n_ife A (fun _ st => some ([1], st)) (n_nz B)) := fun en h hQ hv => by
  obtain ⟨v, h1, a1_w, a2, a4, a5, a6, a7⟩ := qi_one hA hQ hv
  unfold n_ife
  rw [a1_w, Option.bind_some]
  by_cases h0 : v = 0
  · obtain ⟨w, h2, b1, b2, b4, b5, b6, b7⟩ := qi_one (qi_nz hB_w) a2 (a7 h0)
    exact ⟨[w], h2, (if_pos h0).trans b1, b2, a4.tr b4, ⟨b5, trivial⟩, fun _ => hv, b7⟩
  · exact ⟨[1], h1, if_neg h0, a2, a4, ⟨b01 (b := true), trivial⟩, fun _ => hv, fun k => absurd k (by decide)⟩
/-- one or_w the other_w -/
theorem qi_ife (hA : TotI P T J g τ [ta] τt τf A) (hB_w : TotI P T J g τt [tb] bt bf B) (hC : TotI P T J g τf [tc] ct cf_w C) : TotI P T J g τ [i_lub tb tc] τ τ (n_ife A B C) := fun en h hQ hv => by
  obtain ⟨v, h1, a1_w, a2, a4, a5, a6, a7⟩ := qi_one hA hQ hv
  unfold n_ife
  rw [a1_w, Option.bind_some]
  by_cases h0 : v = 0
  · obtain ⟨w, h2, b1, b2, b4, b5, -⟩ := qi_one hC a2 (a7 h0)
    exact ⟨[w], h2, (if_pos h0).trans b1, b2, a4.tr b4, ⟨ilub_r b5, trivial⟩, fun _ => hv, fun _ => hv⟩
  · obtain ⟨w, h2, b1, b2, b4, b5, -⟩ := qi_one hB_w a2 (a6 h0)
    exact ⟨[w], h2, (if_neg h0).trans b1, b2, a4.tr b4, ⟨ilub_l b5, trivial⟩, fun _ => hv, fun _ => hv⟩
theorem q_tru_ok : ∀ (ts : List IT) (τ : List IT) (a : SX) {en av : List Int} {st st' : XT}, evE xs L ck F cW a en st = some (av, st') → IL P ts av → IL P τ en → IL P (q_tru ts τ a) en
  | [], _, _, _, _, _, _, _, _, h => h
  | t :: ts, τ, a, en, av, st, st', he, hs, hv => by
    unfold q_tru
    cases hq : q_var a with
    | none => exact hv
    | some q =>
      rw [q_var_ok hq] at he
      obtain ⟨r, e3_w, e4_w⟩ := j_bd he
      cases e4_w
      refine q_tru_ok ts _ q.2 (st' := r.2) e3_w hs.2 ?_
      cases hc_w : i_sub t (τ.getD q.1 (0, 0, 0)) with
      | true => exact IL.put q.1 hv hs.1
      | false => exact hv
/-- a call; what a true answer_w says_w comes to the locals by what they are -/
theorem qi_call {f : Nat} (hF : TotR P T J g F f) {us : List IT} (hA : TotI P T J g τ us τt τf (evE xs L ck F cW a)) (hs : i_subs us (qP T f) = true) : TotI P T J g τ (qR T f) (q_tru (qU T f) τ a) τ (n_call F f (evE xs L ck F cW a)) := fun en h hQ hv => by
  obtain ⟨av, h1, a1_w, a2, a4, a5, -⟩ := hA en h hQ hv
  obtain ⟨r, h2, b1, b2, b4, b5, b6⟩ := hF av h1 a2 (IL.sub hs a5)
  refine ⟨r, h2, ?_, b2, a4.tr b4, b5, fun k => q_tru_ok _ τ a a1_w (b6 k) hv, fun _ => hv⟩
  unfold n_call
  rw [a1_w, Option.bind_some, b1]
  rfl
theorem q_wth_ok {en : List Int} {st st' : XT} {v l u : Int} {tl tu : IT} (ha_w : evE xs L ck F cW a en st = some ([v, l, u], st')) (hv : IL P τ en) (h1 : IV P tl l) (h2 : IV P tu u) (k1_w : l ≤ v) (k2 : v ≤ u) : IL P (q_wth τ a tl tu) en := by
  unfold q_wth
  cases hq : q_var a with
  | none => exact hv
  | some q =>
    rw [q_var_ok hq] at ha_w
    obtain ⟨r, e3_w, e4_w⟩ := j_bd ha_w
    have e5_w : en.getD q.1 0 = v := by
      have := congrArg Prod.fst (Option.some.inj e4_w)
      exact (List.cons.inj this).1
    cases hc_w : i_is tl && i_is tu with
    | false => exact hv
    | true =>
      rw [Bool.and_eq_true] at hc_w
      have q1_w := (IV.int hc_w.1 h1).1
      have q2_w := (IV.int hc_w.2 h2).2.1
      refine IL.put q.1 hv (i_cut_ok (IL.at q.1 hv) ?_ ?_)
      · rw [e5_w]; omega
      · rw [e5_w]; omega
theorem qi_wth {tv tl tu : IT} (hF : TotW g F) (hA : TotI P T J g τ [tv, tl, tu] τt τf (evE xs L ck F cW a)) : TotI P T J g τ [q_bool] (q_wth τ a tl tu) τ (n_call F 198 (evE xs L ck F cW a)) := fun en h hQ hv => by
  obtain ⟨av, h1, a1_w, a2, a4, a5, -⟩ := hA en h hQ hv
  match av, a5 with
  | [v, l, u], a5 =>
    refine ⟨[j_b (decide (l ≤ v) && decide (v ≤ u))], h1, ?_, a2, a4, ⟨b01, trivial⟩, fun k => ?_, fun _ => hv⟩
    · unfold n_call
      rw [a1_w, Option.bind_some]
      dsimp only
      rw [hF]
      rfl
    · have k2 := b_ne k
      rw [Bool.and_eq_true, decide_eq_true_eq, decide_eq_true_eq] at k2
      exact q_wth_ok a1_w hv a5.2.1 a5.2.2.1 k2.1 k2.2
theorem iv_bool {v : Int} (h : IV P q_bool v) : v = 0 ∨ v = 1 := by
  obtain ⟨h1, h2, -⟩ := h
  omega
theorem qi_mb {tu tr : IT} (hF : TotB P T J g F) (hA : TotI P T J g τ [tr, tu] τt τf A) (h4 : tr.1 = 4) (h5 : tr.2.1 = 182) (hs : i_sub tu q_bool = true) : TotI P T J g τ [q_bool] τt τf (n_call F 274 A) := fun en h hQ hv => by
  obtain ⟨av, h1, a1_w, a2, a4, a5, a6, a7⟩ := hA en h hQ hv
  match av, a5 with
  | [v, u], a5 =>
    obtain ⟨tt, tl, th⟩ := tr
    dsimp only at h4 h5
    subst h4 h5
    have e : v = 182 := a5.1
    subst e
    have hu := IV.sub hs a5.2.1
    obtain ⟨h2, b1, b2, b4⟩ := hF u h1 (iv_bool hu) a2
    refine ⟨[u], h2, ?_, b2, a4.tr b4, ⟨hu, trivial⟩, a6, a7⟩
    unfold n_call
    rw [a1_w, Option.bind_some]
    dsimp only
    rw [b1]
    rfl
theorem iv4 {t : IT} {v : Int} (h : t.1 = 4) (hv : IV P t v) : v = t.2.1 := by
  obtain ⟨tt, tl, th⟩ := t
  dsimp only at h
  subst h
  exact hv
theorem q_ok (hT_w : RTab T) (hF : ∀ f, qC T f = true → TotR P T J g F f) (hW : TotW g F) (hB_w : TotB P T J g F) : ∀ (t : SX) (τ us τt τf : List IT), qE T t τ = some (us, τt, τf) → TotI P T J g τ us τt τf (evE xs L ck F cW t)
  | .op (.var t) (.op a (.op b c)), τ, us, τt, τf, h => by
    have iA := fun {τ us x y} h => q_ok hT_w hF hW hB_w a τ us x y h
    have iB_w := fun {τ us x y} h => q_ok hT_w hF hW hB_w b τ us x y h
    have iC := fun {τ us x y} h => q_ok hT_w hF hW hB_w c τ us x y h
    have h : qN T t a b c (qE T a) (qE T b) (qE T c) τ = some (us, τt, τf) := h
    show TotI P T J g τ us τt τf (nodeE xs L ck F cW t a b c (evE xs L ck F cW a) (evE xs L ck F cW b) (evE xs L ck F cW c))
    unfold qN at h
    split at h
    · split at h
      · obtain ⟨h1, h⟩ := b_if h
        cases h
        exact fun en hh hQ hv => ⟨[sx_c a b c], hh, rfl, hQ, KR.rf, ⟨⟨Int.le_refl _, Int.le_refl _, okI_in h1⟩, trivial⟩, fun _ => hv, fun _ => hv⟩
      · obtain ⟨h1, h⟩ := b_if h
        cases h
        exact fun en hh hQ hv => ⟨[sx_c a b c], hh, rfl, hQ, KR.rf, ⟨⟨Int.le_refl _, Int.le_refl _, okL_in h1⟩, trivial⟩, fun _ => hv, fun _ => hv⟩
      · cases h
    · cases h
      exact fun en hh hQ hv => ⟨_, hh, rfl, hQ, KR.rf, ⟨IL.at _ hv, trivial⟩, fun _ => hv, fun _ => hv⟩
    · obtain ⟨x, h1, h⟩ := j_bd h
      obtain ⟨h2, h⟩ := b_if h
      cases h
      simp only [Bool.and_eq_true, beq_iff_eq, decide_eq_true_eq] at h2
      intro en hh hQ hv
      obtain ⟨v, h', a1_w, a2, a4, a5, -⟩ := qi_one (iA (q_one_s h1)) hQ hv
      have e := (iv4 h2.1 a5).trans h2.2
      subst e
      refine ⟨[h' 182 (sx_n b)], h', ?_, a2, a4, ⟨a2.2.1 _, trivial⟩, fun _ => hv, fun _ => hv⟩
      show (evE xs L ck F cW a en _).bind _ = _
      rw [a1_w]
      rfl
    · obtain ⟨x, h1, h⟩ := j_bd h
      obtain ⟨h2, h⟩ := b_if h
      cases h
      simp only [Bool.and_eq_true, beq_iff_eq, decide_eq_true_eq, Bool.not_eq_true', beq_eq_false_iff_ne] at h2
      intro en hh hQ hv
      obtain ⟨v, h', a1_w, a2, a4, a5, -⟩ := qi_one (iA (q_one_s h1)) hQ hv
      have e := (iv4 h2.1.1 a5).trans h2.1.2
      subst e
      refine ⟨[(qO T (sx_n b) : Int)], h', ?_, a2, a4, ⟨rfl, trivial⟩, fun _ => hv, fun _ => hv⟩
      show (evE xs L ck F cW a en _).bind _ = _
      rw [a1_w, Option.bind_some]
      show (j_rf a_g3 182 (sx_n b)).bind _ = _
      rw [hT_w.2.1 _ h2.2]
      rfl
    · obtain ⟨x, h1, h⟩ := j_bd h
      obtain ⟨y, h2, h⟩ := j_bd h
      obtain ⟨h3, h⟩ := b_ifx h
      obtain ⟨u, h4, h⟩ := j_bd h
      cases h
      simp only [q_arr, Bool.and_eq_true, beq_iff_eq, decide_eq_true_eq] at h3
      obtain ⟨⟨⟨h3, h5⟩, h6⟩, h7⟩ := h3
      intro en hh hQ hv
      obtain ⟨v, ha_w, a1_w, a2, a4, a5, -⟩ := qi_one (iA (q_one_s h1)) hQ hv
      obtain ⟨w, hb_w, b1, b2, b4, b5, -⟩ := qi_one (iB_w (q_one_s h2)) a2 hv
      have e := iv4 h3 a5
      obtain ⟨k1_w, k2, k3, -⟩ := hT_w.2.2.1 x.1.2.1.toNat (by omega) (by omega)
      obtain ⟨w0_w, w1_w, w2_w⟩ := ar_ld_ok (b2.2.2.1 x.1.2.1.toNat (by omega)) k2 h4 b5
      refine ⟨[hb_w x.1.2.1.toNat w.toNat], hb_w, ?_, b2, a4.tr b4, ⟨w2_w, trivial⟩, fun _ => hv, fun _ => hv⟩
      show n_aload xs L (sx_n c) _ _ en _ = _
      unfold n_aload
      rw [a1_w, Option.bind_some, b1, Option.bind_some, h7, e]
      exact if_pos ⟨w0_w, by
        show w < j_len a_g3 x.1.2.1.toNat
        rw [k1_w]
        exact w1_w⟩
    · obtain ⟨x, h1, h⟩ := j_bd h
      obtain ⟨h3, h⟩ := b_if h
      cases h
      simp only [q_arr, Bool.and_eq_true, beq_iff_eq, decide_eq_true_eq] at h3
      obtain ⟨⟨⟨⟨h3, h5⟩, h6⟩, h7⟩, h8⟩ := h3
      intro en hh hQ hv
      obtain ⟨v, ha_w, a1_w, a2, a4, a5, -⟩ := qi_one (iA (q_one_s h1)) hQ hv
      have e := iv4 h3 a5
      obtain ⟨k1_w, k2, k3, -⟩ := hT_w.2.2.1 x.1.2.1.toNat (by omega) (by omega)
      refine ⟨[((qA T x.1.2.1.toNat).1 : Int)], ha_w, ?_, a2, a4, ⟨⟨Int.le_refl _, Int.le_refl _, okI_in h8⟩, trivial⟩, fun _ => hv, fun _ => hv⟩
      show n_alen L (sx_n c) _ en _ = _
      unfold n_alen
      rw [a1_w, Option.bind_some, h7, e]
      show some ([j_len a_g3 x.1.2.1.toNat], _) = _
      rw [k1_w]
    · obtain ⟨x, h1, h⟩ := j_bd h
      obtain ⟨y, h2, h⟩ := j_bd h
      cases h
      exact qi_bin (iA (q_one_s h1)) (iB_w (q_one_s h2)) (fun v w => i_op_ok)
    · obtain ⟨x, h1, h⟩ := j_bd h
      obtain ⟨y, h2, h⟩ := j_bd h
      cases h
      exact qi_bin (iA (q_one_s h1)) (iB_w (q_one_s h2)) (fun v w _ _ => IV.topL (lop_in _ _ _))
    · obtain ⟨x, h1, h⟩ := j_bd h
      obtain ⟨y, h2, h⟩ := j_bd h
      cases h
      exact qi_bin (iA (q_one_s h1)) (iB_w (q_one_s h2)) (fun v w _ _ => IV.topL (lsh_in _ _ _))
    · obtain ⟨x, h1, h⟩ := j_bd h
      obtain ⟨y, h2, h⟩ := j_bd h
      obtain ⟨u, h3, h⟩ := j_bd h
      cases h
      intro en hh hQ hv
      obtain ⟨v, ha_w, a1_w, a2, a4, a5, -⟩ := qi_one (iA (q_one_s h1)) hQ hv
      obtain ⟨w, hb_w, b1, b2, b4, b5, -⟩ := qi_one (iB_w (q_one_s h2)) a2 hv
      obtain ⟨k1_w, k2⟩ := i_div_ok h3 a5 b5
      refine ⟨[j_div (sx_n c) v w], hb_w, ?_, b2, a4.tr b4, ⟨k2, trivial⟩, fun _ => hv, fun _ => hv⟩
      show (evE xs L ck F cW a en _).bind _ = _
      rw [a1_w, Option.bind_some]
      show (evE xs L ck F cW b en _).bind _ = _
      rw [b1, Option.bind_some]
      exact if_neg k1_w
    · obtain ⟨x, h1, h⟩ := j_bd h
      have hA := iA (q_one_s h1)
      have hX : ∀ en st, nodeE xs L ck F cW 18 a b c (evE xs L ck F cW a) (evE xs L ck F cW b) (evE xs L ck F cW c) en st = (evE xs L ck F cW a en st).bind fun x => some ([j_un (sx_n c) (j_hd x.1)], x.2) := fun _ _ => rfl
      split at h
      · rename_i hc_w
        cases h
        exact qi_un hX hA (fun v k => by rw [hc_w]; exact i_neg_ok k)
      · rename_i hc_w
        cases h
        exact qi_un hX hA (fun v k => by rw [hc_w]; exact IV.topL (in_i64 _))
      · rename_i hc_w
        obtain ⟨u, h3, h⟩ := j_bd h
        cases h
        exact qi_un hX hA (fun v k => by rw [hc_w]; exact i_i2l_ok h3 k)
      · rename_i hc0 hc1 hc2
        cases h
        refine qi_un hX hA (fun v k => IV.top ?_)
        generalize sx_n c = m at hc0 hc1 hc2 ⊢
        match m, hc0, hc1, hc2 with
        | 0, h0, _, _ => exact absurd rfl h0
        | 1, _, h0, _ => exact absurd rfl h0
        | 2, _, _, h0 => exact absurd rfl h0
        | 3, _, _, _ => exact in_j32 _
        | n + 4, _, _, _ => exact in_i32 _
    · obtain ⟨x, h1, h⟩ := j_bd h
      obtain ⟨y, h2, h⟩ := j_bd h
      obtain ⟨h3, h⟩ := b_if h
      cases h
      rw [Nat.blt_eq] at h3
      exact qi_cmp h3 (iA (q_one_s h1)) (iB_w (q_one_s h2))
    · obtain ⟨x, h1, h⟩ := j_bd h
      obtain ⟨h3, h⟩ := b_if h
      cases h
      rw [Nat.blt_eq] at h3
      exact qi_cmp0 h3 (iA (q_one_s h1)) (fun _ _ => rfl)
    · obtain ⟨x, h1, h⟩ := j_bd h
      obtain ⟨y, h2, h⟩ := j_bd h
      cases h
      exact qi_cmpL (iA (q_one_s h1)) (iB_w (q_one_s h2))
    · exact iA h
    · obtain ⟨x, h1, h⟩ := j_bd h
      obtain ⟨y, h2, h⟩ := j_bd h
      cases h
      exact qi_and (iA (q_one_s h1)) (iB_w (q_one_s h2))
    · obtain ⟨x, h1, h⟩ := j_bd h
      obtain ⟨y, h2, h⟩ := j_bd h
      cases h
      exact qi_or (iA (q_one_s h1)) (iB_w (q_one_s h2))
    · obtain ⟨x, h1, h⟩ := j_bd h
      cases h
      exact qi_not (iA (q_one_s h1)) (fun _ _ => rfl)
    · obtain ⟨x, h1, h⟩ := j_bd h
      obtain ⟨y, h2, h⟩ := j_bd h
      obtain ⟨z, h3, h⟩ := j_bd h
      cases h
      exact qi_ife (iA (q_one_s h1)) (iB_w (q_one_s h2)) (iC (q_one_s h3))
    · obtain ⟨x, h1, h⟩ := j_bd h
      obtain ⟨y, h2, h⟩ := j_bd h
      intro en hh hQ hv
      obtain ⟨v, ha_w, a1_w, a2, a4, a5, a6, a7⟩ := qi_one (iA (q_one_s h1)) hQ hv
      obtain ⟨w, hb_w, b1, b2, b4, b5, b6, b7⟩ := (iB_w h2) en ha_w a2 hv
      have e0 : nodeE xs L ck F cW 30 a b c (evE xs L ck F cW a) (evE xs L ck F cW b) (evE xs L ck F cW c) en ((a_g3, g), hh) = some ([v] ++ w, ((a_g3, g), hb_w)) := by
        show (evE xs L ck F cW a en _).bind _ = _
        rw [a1_w, Option.bind_some]
        show (evE xs L ck F cW b en _).bind _ = _
        rw [b1]
        rfl
      refine ⟨[v] ++ w, hb_w, e0, b2, a4.tr b4, ?_⟩
      match y, h, b5, b6, b7 with
      | ([], y2, y3), h, b5, b6, b7 =>
        cases h
        match w, b5 with
        | [], _ => exact ⟨⟨a5, trivial⟩, a6, a7⟩
      | (u :: us', y2, y3), h, b5, b6, b7 =>
        cases h
        match w, b5, b6, b7 with
        | w0_w :: ws_w, b5, b6, b7 => exact ⟨⟨a5, b5⟩, b6, b7⟩
    · cases h
      exact fun en hh hQ hv => ⟨[], hh, rfl, hQ, KR.rf, trivial, fun _ => hv, fun _ => hv⟩
    · obtain ⟨⟨vs, yt, yf⟩, h1, h⟩ := j_bd h
      unfold q_call at h
      dsimp only at h
      cases k1_w : sx_n b == 274 with
      | true =>
        rw [k1_w, cond_true] at h
        match vs, h1, h with
        | [r, u], h1, h =>
          obtain ⟨h3, h⟩ := b_if (x := ([q_bool], yt, yf)) h
          cases h
          simp only [Bool.and_eq_true, beq_iff_eq, decide_eq_true_eq] at h3 k1_w
          show TotI P T J g τ _ _ _ (n_call F (sx_n b) _)
          rw [k1_w]
          exact qi_mb hB_w (iA h1) h3.1.1 h3.1.2 h3.2
        | [], _, h => cases h
        | [_], _, h => cases h
        | _ :: _ :: _ :: _, _, h => cases h
      | false =>
        rw [k1_w, cond_false] at h
        cases k2 : sx_n b == 198 with
        | true =>
          rw [k2, cond_true] at h
          match vs, h1, h with
          | [v, l, u], h1, h =>
            cases h
            rw [beq_iff_eq] at k2
            show TotI P T J g τ _ _ _ (n_call F (sx_n b) _)
            rw [k2]
            exact qi_wth hW (iA h1)
          | [], _, h => cases h
          | [_], _, h => cases h
          | [_, _], _, h => cases h
          | _ :: _ :: _ :: _ :: _, _, h => cases h
        | false =>
          rw [k2, cond_false] at h
          obtain ⟨h3, h⟩ := b_if h
          cases h
          rw [Bool.and_eq_true] at h3
          exact qi_call (hF _ h3.1) (iA h1) h3.2
    · cases h
  | .var _, _, _, _, _, h => by cases h
  | .op (.op _ _) _, _, _, _, _, h => by cases h
  | .op (.var _) (.var _), _, _, _, _, h => by cases h
  | .op (.var _) (.op _ (.var _)), _, _, _, _, h => by cases h
end QI
end
section
/-! ===== locals that a statement doesn't write_w ===== -/
/-- as_w a statement, as_w cases -/
def nw2 (i : Nat) : SX → Bool × Bool
  | .op (.var t) (.op a (.op b c)) => (match t with
    | 1 => true
    | 2 => (nw2 i a).1 && (nw2 i b).1
    | 3 => !(sx_n a == i)
    | 4 => !(sx_n a == i)
    | 5 => true
    | 6 => true
    | 7 => true
    | 8 => true
    | 9 => true
    | 10 => (nw2 i b).1
    | 11 => (nw2 i b).1 && (nw2 i c).1
    | 12 => (nw2 i b).1 && (nw2 i c).1
    | 13 => (nw2 i b).1
    | 14 => true
    | 15 => true
    | 16 => true
    | 17 => true
    | 18 => true
    | 19 => (nw2 i b).2
    | 20 => (nw2 i a).1
    | 23 => true
    | 27 => true
    | 28 => (nw2 i b).1
    | _ => false, match t with
    | 25 => (nw2 i b).1 && (nw2 i c).2
    | 26 => (nw2 i a).1
    | _ => false)
  | _ => (false, false)
def nw (i : Nat) (t : SX) : Bool := (nw2 i t).1
/-- local i stays_w -/
def KpL (i : Nat) (A : XR) : Prop := ∀ en st c vs en' st', A en st = some (c, vs, en', st') → en'.getD i 0 = en.getD i 0
/-- local i of the rest stays_w -/
def KtL (i : Nat) (A : XR) : Prop := ∀ v en st c vs en' st', A (v :: en) st = some (c, vs, en', st') → en'.getD i 0 = en.getD i 0
theorem set_ne {l : List Int} {i j : Nat} {v : Int} (h : j ≠ i) : (l.set j v).getD i 0 = l.getD i 0 := by
  rw [List.getD_eq_getElem?_getD, List.getD_eq_getElem?_getD, List.getElem?_set_ne h]
section KEEP
variable {xs : Nat → Int} {L K : Nat} {ck : Nat → List Nat} {F : XP} {cW : Nat → Nat → Int} {i : Nat}
theorem kp_same {A : XR} (h : ∀ en st c vs en' st', A en st = some (c, vs, en', st') → en' = en) : KpL i A := fun en st c vs en' st' e => by rw [h _ _ _ _ _ _ e]
theorem kp_c (k : Nat) : KpL i (fun en st => some (k, [], en, st)) := fun en st c vs en' st' e => by cases e; rfl
theorem kp_seq {A B : XR} (hA : KpL i A) (hB_w : KpL i B) : KpL i (s_seq A B) := fun en st c vs en' st' e => by
  unfold s_seq at e
  obtain ⟨⟨c1_w, v1_w, en1, st1_w⟩, e1_w, e2_w⟩ := j_bd e
  dsimp only at e2_w
  have h1 := hA _ _ _ _ _ _ e1_w
  split at e2_w
  · exact (hB_w _ _ _ _ _ _ e2_w).trans h1
  · cases e2_w
    exact h1
theorem kp_if {X : XE} {A B : XR} (hA : KpL i A) (hB_w : KpL i B) : KpL i (s_if X A B) := fun en st c vs en' st' e => by
  unfold s_if at e
  obtain ⟨x, -, e2_w⟩ := j_bd e
  split at e2_w
  · exact hB_w _ _ _ _ _ _ e2_w
  · exact hA _ _ _ _ _ _ e2_w
theorem kp_loop {X : XE} {A B : XR} (hA : KpL i A) (hB_w : KpL i B) : ∀ k, KpL i (s_loop X A B k)
  | 0 => fun en st c vs en' st' e => by cases e
  | k + 1 => fun en st c vs en' st' e => by
    unfold s_loop at e
    obtain ⟨x, -, e2_w⟩ := j_bd e
    split at e2_w
    · cases e2_w; rfl
    · obtain ⟨⟨c1_w, v1_w, en1, st1_w⟩, e3_w, e4_w⟩ := j_bd e2_w
      have h1 := hA _ _ _ _ _ _ e3_w
      dsimp only at e4_w
      split at e4_w
      · obtain ⟨⟨c2, v2, en2, st2_w⟩, e5_w, e6_w⟩ := j_bd e4_w
        have h2 := hB_w _ _ _ _ _ _ e5_w
        dsimp only at e6_w
        split at e6_w
        · exact ((kp_loop hA hB_w k) _ _ _ _ _ _ e6_w).trans (h2.trans h1)
        · cases e6_w
      · split at e4_w
        · cases e4_w; exact h1
        · cases e4_w; exact h1
theorem kp_do {X : XE} {A : XR} (hA : KpL i A) : ∀ k, KpL i (s_do A X k)
  | 0 => fun en st c vs en' st' e => by cases e
  | k + 1 => fun en st c vs en' st' e => by
    unfold s_do at e
    obtain ⟨⟨c1_w, v1_w, en1, st1_w⟩, e3_w, e4_w⟩ := j_bd e
    have h1 := hA _ _ _ _ _ _ e3_w
    dsimp only at e4_w
    split at e4_w
    · obtain ⟨x, -, e6_w⟩ := j_bd e4_w
      split at e6_w
      · cases e6_w; exact h1
      · exact ((kp_do hA k) _ _ _ _ _ _ e6_w).trans h1
    · split at e4_w
      · cases e4_w; exact h1
      · cases e4_w; exact h1
theorem kp_S : ∀ (t : SX), (∀ h : (nw2 i t).1 = true, KpL i (evS xs L ck F K cW t)) ∧ (∀ h : (nw2 i t).2 = true, KtL i (evS xs L ck F K cW t))
  | .op (.var t) (.op a (.op b c)) => by
    have iA := kp_S a
    have iB_w := kp_S b
    have iC := kp_S c
    have sm_w : ∀ {A : XR}, (∀ en st c vs en' st', A en st = some (c, vs, en', st') → en' = en) → KpL i A := fun h => kp_same h
    constructor
    · intro h
      show KpL i (nodeS xs L ck F K cW t a b c (evS xs L ck F K cW a) (evS xs L ck F K cW b) (evS xs L ck F K cW c))
      unfold nw2 at h
      dsimp only at h
      split at h
      · exact sm_w fun en st c vs en' st' e => by cases e; rfl
      · rw [Bool.and_eq_true] at h
        exact kp_seq (iA.1 h.1) (iB_w.1 h.2)
      · intro en st c vs en' st' e
        obtain ⟨x, -, e2_w⟩ := j_bd (show ((evE xs L ck F cW b en st).bind fun x => some (0, [], en.set (sx_n a) (j_hd x.1), x.2)) = _ from e)
        cases e2_w
        exact set_ne (by simpa using h)
      · intro en st c vs en' st' e
        cases e
        exact set_ne (by simpa using h)
      · refine sm_w fun en st c vs en' st' e => ?_
        obtain ⟨x, -, e2_w⟩ := j_bd e
        obtain ⟨y, -, e3_w⟩ := j_bd e2_w
        cases e3_w; rfl
      · refine sm_w fun en st c vs en' st' e => ?_
        obtain ⟨x, -, e2_w⟩ := j_bd e
        obtain ⟨y, -, e3_w⟩ := j_bd e2_w
        cases e3_w; rfl
      · refine sm_w fun en st c' vs en' st' e => ?_
        match c, e with
        | .op (.var ty_w) v, e =>
          obtain ⟨x, -, e2_w⟩ := j_bd e
          obtain ⟨y, -, e3_w⟩ := j_bd e2_w
          obtain ⟨z, -, e4_w⟩ := j_bd e3_w
          obtain ⟨-, e5_w⟩ := j_if e4_w
          cases e5_w; rfl
        | .var _, e => cases e
        | .op (.op _ _) _, e => cases e
      · refine sm_w fun en st c' vs en' st' e => ?_
        match c, e with
        | .op (.var op_w) v, e =>
          obtain ⟨x, -, e2_w⟩ := j_bd e
          obtain ⟨y, -, e3_w⟩ := j_bd e2_w
          obtain ⟨-, e4_w⟩ := j_ifx e3_w
          obtain ⟨z, -, e5_w⟩ := j_bd e4_w
          obtain ⟨-, e6_w⟩ := j_if e5_w
          cases e6_w; rfl
        | .var _, e => cases e
        | .op (.op _ _) _, e => cases e
      · refine sm_w fun en st c vs en' st' e => ?_
        obtain ⟨x, -, e2_w⟩ := j_bd e
        cases e2_w; rfl
      · exact kp_if (iB_w.1 h) (kp_c _)
      · rw [Bool.and_eq_true] at h
        exact kp_if (iB_w.1 h.1) (iC.1 h.2)
      · rw [Bool.and_eq_true] at h
        exact kp_loop (iB_w.1 h.1) (iC.1 h.2) K
      · exact kp_do (iB_w.1 h) K
      · exact sm_w fun en st c vs en' st' e => by cases e; rfl
      · exact sm_w fun en st c vs en' st' e => by cases e; rfl
      · refine sm_w fun en st c vs en' st' e => ?_
        obtain ⟨x, -, e2_w⟩ := j_bd e
        cases e2_w; rfl
      · exact sm_w fun en st c vs en' st' e => by cases e; rfl
      · exact sm_w fun en st c vs en' st' e => by cases e; rfl
      · intro en st c vs en' st' e
        obtain ⟨x, -, e2_w⟩ := j_bd (show ((evE xs L ck F cW a en st).bind fun x => (evS xs L ck F K cW b (j_hd x.1 :: en) x.2).bind fun r => if r.1 = 2 then some (0, r.2) else some r) = _ from e)
        obtain ⟨⟨c1_w, v1_w, en1, st1_w⟩, e3_w, e4_w⟩ := j_bd e2_w
        have h1 := iB_w.2 h _ _ _ _ _ _ _ e3_w
        dsimp only at e4_w
        split at e4_w
        · cases e4_w; exact h1
        · cases e4_w; exact h1
      · exact iA.1 h
      · refine sm_w fun en st c vs en' st' e => ?_
        obtain ⟨x, -, e2_w⟩ := j_bd e
        obtain ⟨y, -, e3_w⟩ := j_bd e2_w
        obtain ⟨-, e4_w⟩ := j_if e3_w
        cases e4_w; rfl
      · refine sm_w fun en st c vs en' st' e => ?_
        obtain ⟨x, -, e2_w⟩ := j_bd e
        obtain ⟨-, e3_w⟩ := j_if e2_w
        cases e3_w; rfl
      · exact kp_if (iB_w.1 h) (kp_c _)
      · cases h
    · intro h
      show KtL i (nodeS xs L ck F K cW t a b c (evS xs L ck F K cW a) (evS xs L ck F K cW b) (evS xs L ck F K cW c))
      unfold nw2 at h
      dsimp only at h
      split at h
      · rw [Bool.and_eq_true] at h
        intro v en st c' vs en' st' e
        have e' : (if (sx_l a).any (fun n => decide ((v :: en).headD 0 = sx_z n)) then (evS xs L ck F K cW b (v :: en).tail st).bind fun r => if r.1 = 0 then none else some r else evS xs L ck F K cW c (v :: en) st) = some (c', vs, en', st') := e
        split at e'
        · obtain ⟨⟨c1_w, v1_w, en1, st1_w⟩, e3_w, e4_w⟩ := j_bd e'
          have h1 := iB_w.1 h.1 _ _ _ _ _ _ e3_w
          dsimp only at e4_w
          split at e4_w
          · cases e4_w
          · cases e4_w; exact h1
        · exact iC.2 h.2 _ _ _ _ _ _ _ e'
      · intro v en st c' vs en' st' e
        exact iA.1 h _ _ _ _ _ _ e
      · cases h
  | .var _ => ⟨fun h => (by cases h), fun h => (by cases h)⟩
  | .op (.op _ _) _ => ⟨fun h => (by cases h), fun h => (by cases h)⟩
  | .op (.var _) (.var _) => ⟨fun h => (by cases h), fun h => (by cases h)⟩
  | .op (.var _) (.op _ (.var _)) => ⟨fun h => (by cases h), fun h => (by cases h)⟩
end KEEP
end
section
/-! ===== the fourth reading_w: statements ===== -/
abbrev QTB : Type := Option (List IT) × Option (List IT) × Option (List IT)
def q_join (x y : Option (List IT)) : Option (Option (List IT)) := match x, y with
  | none, y => some y
  | some a, none => some (some a)
  | some a, some b => bif a.length == b.length then some (some (i_zip i_lub a b)) else none
def q_joins (x y : QTB) : Option QTB := (q_join x.1 y.1).bind fun a => (q_join x.2.1 y.2.1).bind fun b => (q_join x.2.2 y.2.2).bind fun c => some (a, b, c)
def q_lp (i : Nat) (u c3 : Bool) (A : List IT → QO) (B : List IT → Option QTB) : Nat → List IT → Option QTB
  | 0, _ => none
  | n + 1, τ => bif !(Nat.blt i τ.length && i_is (τ.getD i (0, 0, 0))) then none else (q_one (A τ)).bind fun x =>
    bif i_is (x.2.1.getD i (0, 0, 0)) && (bif u then decide ((i_wd (x.2.1.getD i (0, 0, 0))).2.2 < 2147483647) else decide (0 ≤ (i_wd (x.2.1.getD i (0, 0, 0))).2.1)) then
      (bif c3 then B x.2.1 else some (some x.2.1, none, none)).bind fun ob => (q_join ob.1 ob.2.2).bind fun e => (q_join (some x.2.2) ob.2.1).bind fun ex_w => match e with
        | none => some (ex_w, none, none)
        | some w => bif i_subs (w.set i (i_op 0 (x.2.1.getD i (0, 0, 0)) (bif u then (1, 1, 1) else (1, -1, -1)))) τ then some (ex_w, none, none)
          else bif τ.length == w.length then q_lp i u c3 A B n (i_zip (bif Nat.ble n 2 then i_wid else i_lub) τ (w.set i (i_op 0 (x.2.1.getD i (0, 0, 0)) (bif u then (1, 1, 1) else (1, -1, -1))))) else none
    else none
def q_head (i : Nat) (u : Bool) (τ : List IT) : List IT := τ.set i (bif u then (1, (i_wd (τ.getD i (0, 0, 0))).2.1, 2147483647) else (1, min (i_wd (τ.getD i (0, 0, 0))).2.1 (-1), (i_wd (τ.getD i (0, 0, 0))).2.2))
def q_kd (q : Nat) (w : IT) : Bool := match r_kd q with
  | 1 => i_is w
  | 2 => w.1 == 2
  | 100 => i_sub w q_bool
  | _ => false
def q_isThis (t : IT) : Bool := t.1 == 4 && decide (t.2.1 = 182)
def qSN (T : QT) (rt : List IT) (t : Nat) (a b c : SX) (A B C : (List IT → Option QTB) × (List IT → Option QTB)) : (List IT → Option QTB) × (List IT → Option QTB) :=
  (fun τ => match t with
  | 1 => some (some τ, none, none)
  | 22 => some (some τ, none, none)
  | 2 => (A.1 τ).bind fun o => match o.1 with
    | none => some o
    | some τ1 => (B.1 τ1).bind fun q => q_joins (none, o.2) q
  | 3 => (q_one (qE T b τ)).bind fun x => some (some (τ.set (sx_n a) x.1), none, none)
  | 4 => bif sx_n b == 1 then some (some (τ.set (sx_n a) (i_op 0 (τ.getD (sx_n a) (0, 0, 0)) (bif sx_n c == 0 then (1, 1, 1) else (1, -1, -1)))), none, none) else none
  | 5 => (q_one (qE T a τ)).bind fun x => (q_one (qE T b τ)).bind fun y => bif q_isThis x.1 && ((qF T (sx_n c)).1 == 1 || (qF T (sx_n c)).1 == 2) && i_sub y.1 (qF T (sx_n c)) then some (some τ, none, none) else none
  | 6 => (q_one (qE T a τ)).bind fun x => (q_one (qE T b τ)).bind fun y => bif q_isThis x.1 && (qF T (sx_n c / 16)).1 == 1 && i_sub (i_op (sx_n c % 16) (qF T (sx_n c / 16)) y.1) (qF T (sx_n c / 16)) then some (some τ, none, none) else none
  | 7 => match c with
    | .op (.var ty_w) v => (q_one (qE T a τ)).bind fun x => (q_one (qE T b τ)).bind fun y => (q_one (qE T v τ)).bind fun z => bif q_arr x.1 && qW T x.1.2.1.toNat && ar_st (qA T x.1.2.1.toNat) y.1 z.1 && q_kd x.1.2.1.toNat z.1 && !(ty_w == 8) && (!(ty_w == 9) || i_sub z.1 q_bool) then some (some τ, none, none) else none
    | _ => none
  | 8 => match c with
    | .op (.var op_w) v => (q_one (qE T a τ)).bind fun x => (q_one (qE T b τ)).bind fun y => (q_one (qE T v τ)).bind fun z => (ar_ld (qA T x.1.2.1.toNat) y.1).bind fun u => bif q_arr x.1 && qW T x.1.2.1.toNat && ar_st (qA T x.1.2.1.toNat) y.1 (i_op op_w u z.1) && r_kd x.1.2.1.toNat == 1 then some (some τ, none, none) else none
    | _ => none
  | 9 => (qE T a τ).bind fun _ => some (some τ, none, none)
  | 10 => (q_one (qE T a τ)).bind fun x => (B.1 x.2.1).bind fun o => q_joins o (some x.2.2, none, none)
  | 11 => (q_one (qE T a τ)).bind fun x => (B.1 x.2.1).bind fun o => (C.1 x.2.2).bind fun q => q_joins o q
  | 28 => (q_one (qE T a τ)).bind fun x => (B.1 x.2.1).bind fun o => q_joins o (none, some x.2.2, none)
  | 12 => match lp_step b c with
    | some (i, u, c3) => bif (!c3 || nw i b) && i_is (τ.getD i (0, 0, 0)) then q_lp i u c3 (qE T a) B.1 7 (q_head i u τ) else none
    | none => none
  | 14 => some (none, some τ, none)
  | 15 => some (none, none, some τ)
  | 16 => (qE T a τ).bind fun x => bif i_subs x.1 rt then some (none, none, none) else none
  | 27 => (qE T a τ).bind fun x => bif i_subs x.1 rt && i_subs x.1 [q_bool] then some (none, none, none) else none
  | 17 => bif rt.isEmpty then some (none, none, none) else none
  | 19 => (q_one (qE T a τ)).bind fun _ => (B.2 τ).bind fun o => (q_join o.1 o.2.1).bind fun e => some (e, none, o.2.2)
  | 20 => A.1 τ
  | _ => none,
  fun τ => match t with
  | 25 => (B.1 τ).bind fun o => bif o.1.isNone then (C.2 τ).bind fun q => q_joins o q else none
  | 26 => A.1 τ
  | _ => none)
def qS (T : QT) (rt : List IT) : SX → (List IT → Option QTB) × (List IT → Option QTB)
  | .op (.var t) (.op a (.op b c)) => qSN T rt t a b c (qS T rt a) (qS T rt b) (qS T rt c)
  | _ => (fun _ => none, fun _ => none)
/-- a method_w by itself_w; one that is_w a single answer_w may_w say_w what its truth says_w -/
def q_ret (T : QT) (f : Nat) (b : SX) (τ : List IT) : Bool := match b with
  | .op (.var 27) (.op a (.op _ _)) => (match qE T a τ with
    | some (us, τt, _) => i_subs us (qR T f) && i_subs us [q_bool] && i_subs (τt.take (qP T f).length) (qU T f)
    | none => false)
  | _ => false
def qM (T : QT) (M : Nat → XM) (f : Nat) : Bool :=
  let τ := j_pad (0, 0, 0) (M f).2.1 (qP T f)
  (M f).2.2.1.all (fun k => !(k == 2)) && (M f).2.2.1.length == (qP T f).length && Nat.ble (qP T f).length (M f).2.1 &&
  (q_ret T f (M f).2.2.2.2 τ || (i_subs (qP T f) (qU T f) && (match (qS T (qR T f) (M f).2.2.2.2).1 τ with
    | some (none, none, none) => true
    | _ => false)))
/-! ===== the fourth reading_w of statements is_w right ===== -/
def OutQ (P : Int × Int) (rt : List IT) (o : QTB) (c : Nat) (vals_w en' : List Int) : Prop :=
  (c = 0 ∧ ∃ τ', o.1 = some τ' ∧ IL P τ' en') ∨ (c = 1 ∧ IL P rt vals_w) ∨ (c = 2 ∧ ∃ τ', o.2.1 = some τ' ∧ IL P τ' en') ∨ (c = 3 ∧ ∃ τ', o.2.2 = some τ' ∧ IL P τ' en')
def TotQ (P : Int × Int) (T : QT) (J : XH → Prop) (g : Nat × Nat) (rt τ : List IT) (o : QTB) (A : XR) : Prop :=
  ∀ (en : List Int) (h : XH), QK P T J h → IL P τ en → ∃ c vals_w en' h', A en ((a_g3, g), h) = some (c, vals_w, en', ((a_g3, g), h')) ∧ QK P T J h' ∧ KR T h h' ∧ OutQ P rt o c vals_w en'
def TotK (P : Int × Int) (T : QT) (J : XH → Prop) (g : Nat × Nat) (rt τ : List IT) (o : QTB) (A : XR) : Prop :=
  ∀ (v : Int) (en : List Int) (h : XH), QK P T J h → IL P τ en → ∃ c vals_w en' h', A (v :: en) ((a_g3, g), h) = some (c, vals_w, en', ((a_g3, g), h')) ∧ QK P T J h' ∧ KR T h h' ∧ OutQ P rt o c vals_w en'
/-- what stands in x stands in y -/
def leJ (P : Int × Int) (x y : Option (List IT)) : Prop := ∀ τ, x = some τ → ∃ τ', y = some τ' ∧ ∀ en, IL P τ en → IL P τ' en
def leQ (P : Int × Int) (x y : QTB) : Prop := leJ P x.1 y.1 ∧ leJ P x.2.1 y.2.1 ∧ leJ P x.2.2 y.2.2
section QS_w
variable {xs : Nat → Int} {L K : Nat} {ck : Nat → List Nat} {F : XP} {cW : Nat → Nat → Int} {P : Int × Int} {T : QT} {J : XH → Prop} {g : Nat × Nat} {rt τ : List IT} {o q r : QTB}
theorem leJ.rf {x : Option (List IT)} : leJ P x x := fun τ e => ⟨τ, e, fun _ h => h⟩
theorem leJ.no {x : Option (List IT)} : leJ P none x := fun τ e => by cases e
theorem qjoin_l {x y z : Option (List IT)} (h : q_join x y = some z) : leJ P x z := by
  unfold q_join at h
  split at h
  · exact leJ.no
  · cases h; exact leJ.rf
  · obtain ⟨h1, h⟩ := b_if h
    cases h
    exact fun τ e => by cases e; exact ⟨_, rfl, fun en hv => zip_l (fun _ _ _ => ilub_l) (by simpa using h1) hv⟩
theorem qjoin_r {x y z : Option (List IT)} (h : q_join x y = some z) : leJ P y z := by
  unfold q_join at h
  split at h
  · cases h; exact leJ.rf
  · exact leJ.no
  · obtain ⟨h1, h⟩ := b_if h
    cases h
    exact fun τ e => by cases e; exact ⟨_, rfl, fun en hv => zip_r (fun _ _ _ => ilub_r) (by simpa using h1) hv⟩
theorem qjoins_l {x y z : QTB} (h : q_joins x y = some z) : leQ P x z := by
  obtain ⟨a, h1, h⟩ := j_bd h
  obtain ⟨b, h2, h⟩ := j_bd h
  obtain ⟨c, h3, h⟩ := j_bd h
  cases h
  exact ⟨qjoin_l h1, qjoin_l h2, qjoin_l h3⟩
theorem qjoins_r {x y z : QTB} (h : q_joins x y = some z) : leQ P y z := by
  obtain ⟨a, h1, h⟩ := j_bd h
  obtain ⟨b, h2, h⟩ := j_bd h
  obtain ⟨c, h3, h⟩ := j_bd h
  cases h
  exact ⟨qjoin_r h1, qjoin_r h2, qjoin_r h3⟩
theorem OutQ.mono {c : Nat} {vals_w en' : List Int} (hle : leQ P o q) (h : OutQ P rt o c vals_w en') : OutQ P rt q c vals_w en' := by
  rcases h with ⟨h1, τ, h3, h4⟩ | h | ⟨h1, τ, h3, h4⟩ | ⟨h1, τ, h3, h4⟩
  · obtain ⟨τ', e1_w, e2_w⟩ := hle.1 τ h3
    exact Or.inl ⟨h1, τ', e1_w, e2_w _ h4⟩
  · exact Or.inr (Or.inl h)
  · obtain ⟨τ', e1_w, e2_w⟩ := hle.2.1 τ h3
    exact Or.inr (Or.inr (Or.inl ⟨h1, τ', e1_w, e2_w _ h4⟩))
  · obtain ⟨τ', e1_w, e2_w⟩ := hle.2.2 τ h3
    exact Or.inr (Or.inr (Or.inr ⟨h1, τ', e1_w, e2_w _ h4⟩))
theorem qs_skip : TotQ P T J g rt τ (some τ, none, none) (fun en st => some (0, [], en, st)) := fun en h hQ hv => ⟨0, [], en, h, rfl, hQ, KR.rf, Or.inl ⟨rfl, τ, rfl, hv⟩⟩
theorem qs_brk : TotQ P T J g rt τ (none, some τ, none) (fun en st => some (2, [], en, st)) := fun en h hQ hv => ⟨2, [], en, h, rfl, hQ, KR.rf, Or.inr (Or.inr (Or.inl ⟨rfl, τ, rfl, hv⟩))⟩
theorem qs_cnt : TotQ P T J g rt τ (none, none, some τ) (fun en st => some (3, [], en, st)) := fun en h hQ hv => ⟨3, [], en, h, rfl, hQ, KR.rf, Or.inr (Or.inr (Or.inr ⟨rfl, τ, rfl, hv⟩))⟩
theorem qs_seq {A B : XR} (hA : TotQ P T J g rt τ o A) (hB_w : ∀ τ1, o.1 = some τ1 → TotQ P T J g rt τ1 q B) (hl : leQ P (none, o.2) r) (hr : o.1 ≠ none → leQ P q r) : TotQ P T J g rt τ r (s_seq A B) := by
  intro en h hQ hv
  obtain ⟨c, vals_w, en', h', e1_w, e2_w, e3_w, e4_w⟩ := hA en h hQ hv
  unfold s_seq
  rw [e1_w, Option.bind_some]
  dsimp only
  rcases e4_w with ⟨rfl, τ1, k1_w, k2⟩ | ⟨rfl, k⟩ | ⟨rfl, k⟩ | ⟨rfl, k⟩
  · rw [if_pos rfl]
    obtain ⟨c, vals_w, en2, h2, f1_w, f2_w, f3_w, f4_w⟩ := hB_w τ1 k1_w en' h' e2_w k2
    exact ⟨c, vals_w, en2, h2, f1_w, f2_w, e3_w.tr f3_w, f4_w.mono (hr (by rw [k1_w]; exact fun e => by cases e))⟩
  · exact ⟨1, vals_w, en', h', rfl, e2_w, e3_w, OutQ.mono hl (Or.inr (Or.inl ⟨rfl, k⟩))⟩
  · exact ⟨2, vals_w, en', h', rfl, e2_w, e3_w, OutQ.mono hl (Or.inr (Or.inr (Or.inl ⟨rfl, k⟩)))⟩
  · exact ⟨3, vals_w, en', h', rfl, e2_w, e3_w, OutQ.mono hl (Or.inr (Or.inr (Or.inr ⟨rfl, k⟩)))⟩
theorem qs_if {A : XE} {B C : XR} {t : IT} {τt τf : List IT} (hA : TotI P T J g τ [t] τt τf A) (hB_w : TotQ P T J g rt τt o B) (hC : TotQ P T J g rt τf q C) (h1 : leQ P o r) (h2 : leQ P q r) : TotQ P T J g rt τ r (s_if A B C) := by
  intro en h hQ hv
  obtain ⟨v, h', e1_w, e2_w, e3_w, e4_w, e5_w, e6_w⟩ := qi_one hA hQ hv
  unfold s_if
  rw [e1_w, Option.bind_some]
  dsimp only
  by_cases h0 : v = 0
  · rw [if_pos (show j_hd [v] = 0 from h0)]
    obtain ⟨c, vals_w, en2, h2', f1_w, f2_w, f3_w, f4_w⟩ := hC en h' e2_w (e6_w h0)
    exact ⟨c, vals_w, en2, h2', f1_w, f2_w, e3_w.tr f3_w, f4_w.mono h2⟩
  · rw [if_neg (show ¬ j_hd [v] = 0 from h0)]
    obtain ⟨c, vals_w, en2, h2', f1_w, f2_w, f3_w, f4_w⟩ := hB_w en h' e2_w (e5_w h0)
    exact ⟨c, vals_w, en2, h2', f1_w, f2_w, e3_w.tr f3_w, f4_w.mono h1⟩
theorem qs_sw {A : XE} {B : XR} {t : IT} {τt τf : List IT} {e : Option (List IT)} (hA : TotI P T J g τ [t] τt τf A) (hB_w : TotK P T J g rt τ o B) (hj : q_join o.1 o.2.1 = some e) : TotQ P T J g rt τ (e, none, o.2.2) (s_sw A B) := by
  intro en h hQ hv
  obtain ⟨v, h', e1_w, e2_w, e3_w, -, -, -⟩ := qi_one hA hQ hv
  obtain ⟨c, vals_w, en2, h2, f1_w, f2_w, f3_w, f4_w⟩ := hB_w v en h' e2_w hv
  unfold s_sw
  rw [e1_w, Option.bind_some]
  dsimp only
  rw [show j_hd [v] = v from rfl, f1_w, Option.bind_some]
  dsimp only
  rcases f4_w with ⟨rfl, τ1, k1_w, k2⟩ | ⟨rfl, k⟩ | ⟨rfl, τ1, k1_w, k2⟩ | ⟨rfl, k⟩
  · obtain ⟨τ2, j1, j2_w⟩ := qjoin_l (P := P) hj τ1 k1_w
    exact ⟨0, vals_w, en2, h2, rfl, f2_w, e3_w.tr f3_w, Or.inl ⟨rfl, τ2, j1, j2_w _ k2⟩⟩
  · exact ⟨1, vals_w, en2, h2, rfl, f2_w, e3_w.tr f3_w, Or.inr (Or.inl ⟨rfl, k⟩)⟩
  · obtain ⟨τ2, j1, j2_w⟩ := qjoin_r (P := P) hj τ1 k1_w
    exact ⟨0, vals_w, en2, h2, rfl, f2_w, e3_w.tr f3_w, Or.inl ⟨rfl, τ2, j1, j2_w _ k2⟩⟩
  · exact ⟨3, vals_w, en2, h2, rfl, f2_w, e3_w.tr f3_w, Or.inr (Or.inr (Or.inr ⟨rfl, k⟩))⟩
theorem qs_case {l : List Nat} {B C : XR} (hB_w : TotQ P T J g rt τ o B) (h0 : o.1 = none) (hC : TotK P T J g rt τ q C) (h1 : leQ P o r) (h2 : leQ P q r) : TotK P T J g rt τ r (fun en st => if l.any (fun n => decide (en.headD 0 = sx_z n)) then (B en.tail st).bind fun r => if r.1 = 0 then none else some r else C en st) := by
  intro v en h hQ hv
  dsimp only
  split
  · obtain ⟨c, vals_w, en2, h2', f1_w, f2_w, f3_w, f4_w⟩ := hB_w en h hQ hv
    have hc_w : c ≠ 0 := by
      rintro rfl
      rcases f4_w with ⟨-, τ1, k1_w, -⟩ | ⟨k, -⟩ | ⟨k, -⟩ | ⟨k, -⟩
      · rw [h0] at k1_w; cases k1_w
      · cases k
      · cases k
      · cases k
    refine ⟨c, vals_w, en2, h2', ?_, f2_w, f3_w, f4_w.mono h1⟩
    show ((B en ((a_g3, g), h)).bind _) = _
    rw [f1_w, Option.bind_some]
    exact if_neg hc_w
  · obtain ⟨c, vals_w, en2, h2', f1_w, f2_w, f3_w, f4_w⟩ := hC v en h hQ hv
    exact ⟨c, vals_w, en2, h2', f1_w, f2_w, f3_w, f4_w.mono h2⟩
/-- a loop_w whose head_w keeps_w what is_w known_w and whose counter_w goes_w its way_w -/
theorem qlp_run {i : Nat} {u : Bool} {τ1 : List IT} {x : Option (List IT)} {C'_w : XE} {B' P'_w : XR} (hin : ∀ en, IL P τ1 en → InI (en.getD i 0))
    (hC : ∀ en h, IL P τ1 en → QK P T J h → ∃ v h', C'_w en ((a_g3, g), h) = some ([v], ((a_g3, g), h')) ∧ QK P T J h' ∧ KR T h h' ∧ (v = 0 → ∃ τ', x = some τ' ∧ IL P τ' en) ∧
      (v ≠ 0 → (if u = true then en.getD i 0 < 2147483647 else 0 ≤ en.getD i 0) ∧ ∃ c vals_w en' h2, B' en ((a_g3, g), h') = some (c, vals_w, en', ((a_g3, g), h2)) ∧ QK P T J h2 ∧ KR T h' h2 ∧
      (((c = 0 ∨ c = 3) ∧ ∃ en2, P'_w en' ((a_g3, g), h2) = some (0, [], en2, ((a_g3, g), h2)) ∧ IL P τ1 en2 ∧ en2.getD i 0 = j32 (en.getD i 0 + dir u)) ∨ (c = 2 ∧ ∃ τ', x = some τ' ∧ IL P τ' en') ∨ (c = 1 ∧ IL P rt vals_w)))) :
    ∀ (k m : Nat) (en : List Int) (h : XH), IL P τ1 en → QK P T J h → mea u (en.getD i 0) ≤ m → m < k → ∃ c vals_w en' h', s_loop C'_w B' P'_w k en ((a_g3, g), h) = some (c, vals_w, en', ((a_g3, g), h')) ∧ QK P T J h' ∧ KR T h h' ∧ OutQ P rt (x, none, none) c vals_w en' := by
  intro k
  induction k with
  | zero => exact fun m en h _ _ _ hk => absurd hk (by omega)
  | succ k ih_w =>
    intro m en h hv hQ hm_w hk
    obtain ⟨v, h2, e1_w, e2_w, e3_w, e4_w, e5_w⟩ := hC en h hv hQ
    by_cases hv0 : v = 0
    · obtain ⟨τ', x1_w, x2_w⟩ := e4_w hv0
      refine ⟨0, [], en, h2, ?_, e2_w, e3_w, Or.inl ⟨rfl, τ', x1_w, x2_w⟩⟩
      unfold s_loop
      rw [e1_w, Option.bind_some]
      exact if_pos hv0
    · obtain ⟨e6_w, c, vals_w, en', h3, f1_w, f2_w, f3_w, f4_w⟩ := e5_w hv0
      have hs : s_loop C'_w B' P'_w (k + 1) en ((a_g3, g), h) = (if c = 0 ∨ c = 3 then (P'_w en' ((a_g3, g), h3)).bind fun q => if q.1 = 0 then s_loop C'_w B' P'_w k q.2.2.1 q.2.2.2 else none else if c = 2 then some (0, [], en', ((a_g3, g), h3)) else some (c, vals_w, en', ((a_g3, g), h3))) := by
        conv => lhs; unfold s_loop
        rw [e1_w, Option.bind_some]
        refine (if_neg hv0).trans ?_
        dsimp only
        rw [f1_w, Option.bind_some]
      rcases f4_w with ⟨hc_w, en2, p1_w, p2_w, p3_w⟩ | ⟨rfl, τ', p1_w, p2_w⟩ | ⟨rfl, p1_w⟩
      · have hml := mea_lt (hin en hv) e6_w
        cases m with
        | zero => exact absurd hml (by omega)
        | succ m =>
          obtain ⟨c9, v9, n9, h9, q1_w, q2_w, q3_w, q4_w⟩ := ih_w m en2 h3 p2_w f2_w (by rw [p3_w]; omega) (by omega)
          refine ⟨c9, v9, n9, h9, ?_, q2_w, (e3_w.tr f3_w).tr q3_w, q4_w⟩
          rw [hs, if_pos hc_w, p1_w, Option.bind_some]
          exact q1_w
      · refine ⟨0, [], en', h3, ?_, f2_w, e3_w.tr f3_w, Or.inl ⟨rfl, τ', p1_w, p2_w⟩⟩
        rw [hs]
        rfl
      · refine ⟨1, vals_w, en', h3, ?_, f2_w, e3_w.tr f3_w, Or.inr (Or.inl ⟨rfl, p1_w⟩)⟩
        rw [hs]
        rfl
theorem InI_of {t : IT} {v : Int} (h : i_is t = true) (hv : IV P t v) : InI v := (IV.int h hv).2.2
theorem IL_setD {i : Nat} {en : List Int} {l : List IT} (hi_w : i < l.length) (hv : IL P l en) (v : Int) : (en.set i v).getD i 0 = v := t_setD (by rw [IL.len hv]; exact hi_w)
theorem qlp_ok {i : Nat} {u c3 : Bool} {TA : List IT → QO} {TB : List IT → Option QTB} {C'_w : XE} {B' P'_w : XR} (hK_w : 4294967300 ≤ K)
    (hA : ∀ τ us τt τf, TA τ = some (us, τt, τf) → TotI P T J g τ us τt τf C'_w)
    (hB_w : c3 = true → ∀ τ o, TB τ = some o → TotQ P T J g rt τ o B')
    (hN_w : c3 = true → KpL i B')
    (hP : c3 = true → ∀ en st, P'_w en st = some (0, [], en.set i (j32 (en.getD i 0 + dir u)), st))
    (hB2 : c3 = false → ∀ en st, B' en st = some (0, [], en.set i (j32 (en.getD i 0 + dir u)), st))
    (hP2 : c3 = false → ∀ en st, P'_w en st = some (0, [], en, st)) : ∀ (n : Nat) (τ : List IT) (o : QTB), q_lp i u c3 TA TB n τ = some o → TotQ P T J g rt τ o (s_loop C'_w B' P'_w K)
  | 0, _, _, h => by cases h
  | n + 1, τ, o, h => by
    unfold q_lp at h
    obtain ⟨hi0_w, h⟩ : (Nat.blt i τ.length && i_is (τ.getD i (0, 0, 0))) = true ∧ _ = some o := by
      cases hb_w : Nat.blt i τ.length && i_is (τ.getD i (0, 0, 0)) with
      | true => rw [hb_w] at h; exact ⟨rfl, h⟩
      | false => rw [hb_w] at h; cases h
    rw [Bool.and_eq_true, Nat.blt_eq] at hi0_w
    obtain ⟨hi_w, hii⟩ := hi0_w
    obtain ⟨x, a1_w, h⟩ := j_bd h
    obtain ⟨a2, h⟩ := b_ifx h
    obtain ⟨ob, b1, h⟩ := j_bd h
    obtain ⟨e, b2, h⟩ := j_bd h
    obtain ⟨ex_w, b3, h⟩ := j_bd h
    rw [Bool.and_eq_true] at a2
    have hcond := hA _ _ _ _ (q_one_s a1_w)
    have hdir : ∀ v : Int, j_iop 0 v (dir u) = j32 (v + dir u) := fun _ => rfl
    have hdi : IV P (bif u then ((1, 1, 1) : IT) else (1, -1, -1)) (dir u) := by
      cases u
      · exact ⟨Int.le_refl _, Int.le_refl _, by decide, by decide⟩
      · exact ⟨Int.le_refl _, Int.le_refl _, by decide, by decide⟩
    have hin : ∀ en, IL P τ en → InI (en.getD i 0) := fun en hv => InI_of hii (IL.at i hv)
    have main_w : (∀ w, e = some w → i_subs (w.set i (i_op 0 (x.2.1.getD i (0, 0, 0)) (bif u then (1, 1, 1) else (1, -1, -1)))) τ = true) → TotQ P T J g rt τ (ex_w, none, none) (s_loop C'_w B' P'_w K) := by
      intro hw en h hQ hv
      refine qlp_run (x := ex_w) (u := u) (i := i) hin (fun en h hv hQ => ?_) K _ en h hv hQ (Nat.le_refl _) (Nat.lt_of_lt_of_le (mea_b (hin en hv)) hK_w)
      obtain ⟨v, h', e1_w, e2_w, e3_w, -, e5_w, e6_w⟩ := qi_one hcond hQ hv
      refine ⟨v, h', e1_w, e2_w, e3_w, fun h0 => ?_, fun h0 => ?_⟩
      · obtain ⟨τ', j1, j2_w⟩ := qjoin_l (P := P) b3 _ rfl
        exact ⟨τ', j1, j2_w _ (e6_w h0)⟩
      · have hvt := e5_w h0
        have hat := IL.at i hvt
        obtain ⟨w1_w, w2_w, w3_w⟩ := IV.int a2.1 hat
        refine ⟨?_, ?_⟩
        · cases u with
          | true =>
            have := a2.2
            simp only [cond_true, decide_eq_true_eq] at this
            rw [if_pos rfl]
            omega
          | false =>
            have := a2.2
            simp only [cond_false, decide_eq_true_eq] at this
            rw [if_neg (by decide)]
            omega
        · have back : ∀ (τ3 : List IT) (en1 : List Int), (ob.1 = some τ3 ∨ ob.2.2 = some τ3) → IL P τ3 en1 → en1.getD i 0 = en.getD i 0 → IL P τ (en1.set i (j32 (en1.getD i 0 + dir u))) ∧ (en1.set i (j32 (en1.getD i 0 + dir u))).getD i 0 = j32 (en.getD i 0 + dir u) := by
            intro τ3 en1 h3 hv3 heq
            obtain ⟨w, j1, j2_w⟩ : ∃ w, e = some w ∧ ∀ en, IL P τ3 en → IL P w en := by
              rcases h3 with h3 | h3
              · exact qjoin_l (P := P) b2 _ h3
              · exact qjoin_r (P := P) b2 _ h3
            have hs := hw w j1
            have hlen : w.length = τ.length := by
              have := isubs_len hs
              rwa [List.length_set] at this
            have hvw := j2_w _ hv3
            refine ⟨IL.sub hs (IL.set i hvw ?_), ?_⟩
            · rw [heq, ← hdir]
              exact i_op_ok hat hdi
            · rw [IL_setD (by omega) hvw, heq]
          cases c3 with
          | true =>
            have b1' : TB x.2.1 = some ob := b1
            obtain ⟨c, vals_w, en', h2, f1_w, f2_w, f3_w, f4_w⟩ := hB_w rfl _ _ b1' en h' e2_w hvt
            have hk := hN_w rfl _ _ _ _ _ _ f1_w
            refine ⟨c, vals_w, en', h2, f1_w, f2_w, f3_w, ?_⟩
            rcases f4_w with ⟨rfl, τ3, k1_w, k2⟩ | ⟨rfl, k⟩ | ⟨rfl, τ3, k1_w, k2⟩ | ⟨rfl, τ3, k1_w, k2⟩
            · obtain ⟨m1_w, m2_w⟩ := back τ3 en' (Or.inl k1_w) k2 hk
              exact Or.inl ⟨Or.inl rfl, _, hP rfl _ _, m1_w, m2_w⟩
            · exact Or.inr (Or.inr ⟨rfl, k⟩)
            · obtain ⟨τ', j1, j2_w⟩ := qjoin_r (P := P) b3 _ k1_w
              exact Or.inr (Or.inl ⟨rfl, τ', j1, j2_w _ k2⟩)
            · obtain ⟨m1_w, m2_w⟩ := back τ3 en' (Or.inr k1_w) k2 hk
              exact Or.inl ⟨Or.inr rfl, _, hP rfl _ _, m1_w, m2_w⟩
          | false =>
            have b1' : some (some x.2.1, none, none) = some ob := b1
            cases b1'
            obtain ⟨m1_w, m2_w⟩ := back x.2.1 en (Or.inl rfl) hvt rfl
            exact ⟨0, [], _, h', hB2 rfl _ _, e2_w, KR.rf, Or.inl ⟨Or.inl rfl, _, hP2 rfl _ _, m1_w, m2_w⟩⟩
    cases e with
    | none =>
      cases h
      exact main_w (fun w hw => by cases hw)
    | some w =>
      dsimp only at h
      cases hs : i_subs (w.set i (i_op 0 (x.2.1.getD i (0, 0, 0)) (bif u then (1, 1, 1) else (1, -1, -1)))) τ with
      | true =>
        rw [hs] at h
        cases h
        exact main_w (fun w' hw => by cases hw; exact hs)
      | false =>
        rw [hs, cond_false] at h
        obtain ⟨h1, h⟩ := b_ifx h
        have hlen : τ.length = (w.set i (i_op 0 (x.2.1.getD i (0, 0, 0)) (bif u then (1, 1, 1) else (1, -1, -1)))).length := by
          rw [List.length_set]
          simpa using h1
        have hz : ∀ (a b : IT) (v : Int), IV P a v → IV P ((bif Nat.ble n 2 then i_wid else i_lub) a b) v := fun a b v hv => by
          cases Nat.ble n 2
          · exact ilub_l hv
          · exact wid_l hv
        have ih_w := qlp_ok hK_w hA hB_w hN_w hP hB2 hP2 n _ _ h
        exact fun en h' hQ hv => ih_w en h' hQ (zip_l hz hlen hv)
end QS_w
end
section
/-! ===== the fourth reading_w: every statement, every method_w ===== -/
section QV
variable {xs : Nat → Int} {L K : Nat} {ck : Nat → List Nat} {F : XP} {cW : Nat → Nat → Int} {P : Int × Int} {T : QT} {J : XH → Prop} {g : Nat × Nat} {rt : List IT}
theorem this_eq {t : IT} {v : Int} (h : q_isThis t = true) (hv : IV P t v) : v = 182 := by
  simp only [q_isThis, Bool.and_eq_true, beq_iff_eq, decide_eq_true_eq] at h
  rw [iv4 h.1 hv, h.2]
theorem fld_HT (hT_w : RTab T) {h : XH} {k : Nat} {v : Int} (hH : HT g_fk a_g3 h) (hk : (qF T k).1 = 1 ∨ (qF T k).1 = 2) (hv : IV P (qF T k) v) : HT g_fk a_g3 (j_up h 182 k v) := by
  obtain ⟨c1_w, c2⟩ := hT_w.1 k
  generalize qF T k = t at hk hv c1_w c2
  obtain ⟨tt, l, u⟩ := t
  dsimp only at hk c1_w c2
  rcases hk with rfl | rfl
  · refine hH.up (fun _ => hv.2.2) (fun e => absurd ((c1_w rfl).symm.trans e) (by decide)) (fun e => absurd ((c1_w rfl).symm.trans e) (by decide))
  · refine hH.up (fun e => absurd ((c2 rfl).symm.trans e) (by decide)) (fun _ => hv.2.2) (fun e => absurd ((c2 rfl).symm.trans e) (by decide))
theorem arr_HT {h : XH} {q i : Nat} {w : IT} {v : Int} (hH : HT g_fk a_g3 h) (hc_w : ∀ k, c_ty g_fk a_g3 q k = r_kd q) (hk : q_kd q w = true) (hv : IV P w v) : HT g_fk a_g3 (j_up h q i v) := by
  unfold q_kd at hk
  split at hk
  · rename_i e
    refine hH.up (fun _ => InI_of hk hv) (fun e2_w => absurd ((hc_w i).symm.trans e2_w) (by rw [e]; decide)) (fun e2_w => absurd ((hc_w i).symm.trans e2_w) (by rw [e]; decide))
  · rename_i e
    obtain ⟨tt, l, u⟩ := w
    rw [beq_iff_eq] at hk
    dsimp only at hk
    subst hk
    refine hH.up (fun e2_w => absurd ((hc_w i).symm.trans e2_w) (by rw [e]; decide)) (fun _ => hv.2.2) (fun e2_w => absurd ((hc_w i).symm.trans e2_w) (by rw [e]; decide))
  · rename_i e
    refine hH.up (fun e2_w => absurd ((hc_w i).symm.trans e2_w) (by rw [e]; decide)) (fun e2_w => absurd ((hc_w i).symm.trans e2_w) (by rw [e]; decide)) (fun _ => iv_bool (IV.sub hk hv))
  · cases hk
theorem and1 {v : Int} (h : v = 0 ∨ v = 1) : (Int32.ofInt v &&& 1).toInt = v := by
  rcases h with rfl | rfl <;> decide
theorem ty_val (ty_w : Nat) (v : Int) : ty_w ≠ 8 → (ty_w = 9 → v = 0 ∨ v = 1) → (match ty_w with
  | 8 => ((Int32.ofInt v).toInt8.toInt32).toInt
  | 9 => (Int32.ofInt v &&& 1).toInt
  | _ => v) = v := by
  intro h8 h9
  match ty_w, h8, h9 with
  | 8, h8, _ => exact absurd rfl h8
  | 9, _, h9 => exact and1 (h9 rfl)
  | 0, _, _ => rfl
  | 1, _, _ => rfl
  | 2, _, _ => rfl
  | 3, _, _ => rfl
  | 4, _, _ => rfl
  | 5, _, _ => rfl
  | 6, _, _ => rfl
  | 7, _, _ => rfl
  | n + 10, _, _ => rfl
theorem qS_ok (hT_w : RTab T) (hJ : JS T J) (hF : ∀ f, qC T f = true → TotR P T J g F f) (hW : TotW g F) (hB_w : TotB P T J g F) (hK_w : 4294967300 ≤ K) : ∀ (t : SX),
    (∀ τ o, (qS T rt t).1 τ = some o → TotQ P T J g rt τ o (evS xs L ck F K cW t)) ∧ (∀ τ o, (qS T rt t).2 τ = some o → TotK P T J g rt τ o (evS xs L ck F K cW t))
  | .op (.var t) (.op a (.op b c)) => by
    have iA := qS_ok hT_w hJ hF hW hB_w hK_w a
    have iB_w := qS_ok hT_w hJ hF hW hB_w hK_w b
    have iC := qS_ok hT_w hJ hF hW hB_w hK_w c
    have e := fun t τ us τt τf h => q_ok (xs := xs) (L := L) (ck := ck) (cW := cW) hT_w hF hW hB_w t τ us τt τf h
    have e1_w : ∀ (t : SX) τ x, q_one (qE T t τ) = some x → TotI P T J g τ [x.1] x.2.1 x.2.2 (evE xs L ck F cW t) := fun t τ x h => e t τ _ _ _ (q_one_s h)
    constructor
    · intro τ o h
      show TotQ P T J g rt τ o (nodeS xs L ck F K cW t a b c (evS xs L ck F K cW a) (evS xs L ck F K cW b) (evS xs L ck F K cW c))
      have h : (qSN T rt t a b c (qS T rt a) (qS T rt b) (qS T rt c)).1 τ = some o := h
      unfold qSN at h
      dsimp only at h
      split at h
      · cases h; exact qs_skip
      · cases h; exact qs_skip
      · obtain ⟨o1, h1, h⟩ := j_bd h
        have hA := iA.1 τ o1 h1
        split at h
        · rename_i hn
          cases h
          exact qs_seq (q := o) hA (fun τ1 k => by rw [hn] at k; cases k) ⟨leJ.no, leJ.rf, leJ.rf⟩ (fun k => absurd hn k)
        · rename_i τ1 hn
          obtain ⟨q, h2, h⟩ := j_bd h
          exact qs_seq hA (fun τ2 k => by rw [hn] at k; cases k; exact iB_w.1 τ1 q h2) (qjoins_l h) (fun _ => qjoins_r h)
      · obtain ⟨x, h1, h⟩ := j_bd h
        cases h
        intro en hh hQ hv
        obtain ⟨v, h', f1_w, f2_w, f3_w, f4_w, -⟩ := qi_one (e1_w b τ x h1) hQ hv
        refine ⟨0, [], en.set (sx_n a) v, h', ?_, f2_w, f3_w, Or.inl ⟨rfl, _, rfl, IL.set (sx_n a) hv f4_w⟩⟩
        show (evE xs L ck F cW b en _).bind _ = _
        rw [f1_w]
        rfl
      · obtain ⟨h1, h⟩ := b_if h
        cases h
        rw [beq_iff_eq] at h1
        intro en hh hQ hv
        refine ⟨0, [], _, hh, rfl, hQ, KR.rf, Or.inl ⟨rfl, _, rfl, IL.set (sx_n a) hv ?_⟩⟩
        rw [h1]
        by_cases hc_w : sx_n c = 0
        · rw [if_pos hc_w, show (sx_n c == 0) = true from by rw [beq_iff_eq]; exact hc_w]
          exact i_op_ok (op_w := 0) (IL.at _ hv) (b := (1, 1, 1)) ⟨Int.le_refl _, Int.le_refl _, by decide, by decide⟩
        · rw [if_neg hc_w, show (sx_n c == 0) = false from by rw [beq_eq_false_iff_ne]; exact hc_w]
          exact i_op_ok (op_w := 0) (IL.at _ hv) (b := (1, -1, -1)) ⟨Int.le_refl _, Int.le_refl _, by decide, by decide⟩
      · obtain ⟨x, h1, h⟩ := j_bd h
        obtain ⟨y, h2, h⟩ := j_bd h
        obtain ⟨h3, h⟩ := b_if h
        cases h
        simp only [Bool.and_eq_true, Bool.or_eq_true, beq_iff_eq] at h3
        intro en hh hQ hv
        obtain ⟨v, ha_w, a1_w, a2, a3, a4, -⟩ := qi_one (e1_w a τ x h1) hQ hv
        obtain ⟨w, hb_w, b1, b2, b3, b4, -⟩ := qi_one (e1_w b τ y h2) a2 hv
        have ev_w := this_eq h3.1.1 a4
        subst ev_w
        have hw := IV.sub h3.2 b4
        refine ⟨0, [], en, j_up hb_w 182 (sx_n c) w, ?_, ⟨fld_HT hT_w b2.1 h3.1.2 hw, RI.fld hJ hT_w.2.2.2 b2.2 hw⟩, (a3.tr b3).tr (KR.up hT_w.2.2.2), Or.inl ⟨rfl, _, rfl, hv⟩⟩
        show s_putf _ _ _ en _ = _
        unfold s_putf
        rw [a1_w, Option.bind_some, b1]
        rfl
      · obtain ⟨x, h1, h⟩ := j_bd h
        obtain ⟨y, h2, h⟩ := j_bd h
        obtain ⟨h3, h⟩ := b_if h
        cases h
        simp only [Bool.and_eq_true, beq_iff_eq] at h3
        intro en hh hQ hv
        obtain ⟨v, ha_w, a1_w, a2, a3, a4, -⟩ := qi_one (e1_w a τ x h1) hQ hv
        obtain ⟨w, hb_w, b1, b2, b3, b4, -⟩ := qi_one (e1_w b τ y h2) a2 hv
        have ev_w := this_eq h3.1.1 a4
        subst ev_w
        have hw := IV.sub h3.2 (i_op_ok (op_w := sx_n c % 16) (a2.2.1 (sx_n c / 16)) b4)
        refine ⟨0, [], en, j_up hb_w 182 (sx_n c / 16) (j_iop (sx_n c % 16) (ha_w 182 (sx_n c / 16)) w), ?_, ⟨fld_HT hT_w b2.1 (Or.inl h3.1.2) hw, RI.fld hJ hT_w.2.2.2 b2.2 hw⟩, (a3.tr b3).tr (KR.up hT_w.2.2.2), Or.inl ⟨rfl, _, rfl, hv⟩⟩
        show s_putfC _ _ _ _ en _ = _
        unfold s_putfC
        rw [a1_w, Option.bind_some, b1]
        rfl
      · match c, h with
        | .op (.var ty_w) v, h =>
          obtain ⟨x, h1, h⟩ := j_bd h
          obtain ⟨y, h2, h⟩ := j_bd h
          obtain ⟨z, h3, h⟩ := j_bd h
          obtain ⟨h4, h⟩ := b_if h
          cases h
          simp only [q_arr, Bool.and_eq_true, Bool.or_eq_true, Bool.not_eq_true', beq_iff_eq, beq_eq_false_iff_ne, decide_eq_true_eq] at h4
          obtain ⟨⟨⟨⟨⟨⟨⟨q1_w, q2_w⟩, q3_w⟩, q4_w⟩, q5_w⟩, q6_w⟩, q7_w⟩, q8_w⟩ := h4
          intro en hh hQ hv
          obtain ⟨va, ha_w, a1_w, a2, a3, a4, -⟩ := qi_one (e1_w a τ x h1) hQ hv
          obtain ⟨vb, hb_w, b1, b2, b3, b4, -⟩ := qi_one (e1_w b τ y h2) a2 hv
          obtain ⟨vc, hc_w, c1_w, c2, c3, c4, -⟩ := qi_one (e1_w v τ z h3) b2 hv
          have ev_w := iv4 q1_w a4
          obtain ⟨k1_w, k2, k3, k4⟩ := hT_w.2.2.1 x.1.2.1.toNat (by omega) (by omega)
          have hst : (match ar_ld (qA T x.1.2.1.toNat) y.1 with
            | some _ => true
            | none => false) = true := by
            unfold ar_st at q5_w
            rw [Bool.and_eq_true] at q5_w
            exact q5_w.1
          cases hl : ar_ld (qA T x.1.2.1.toNat) y.1 with
          | none => rw [hl] at hst; cases hst
          | some u =>
            obtain ⟨i0, i1_w, -⟩ := ar_ld_ok (c2.2.2.1 x.1.2.1.toNat (by omega)) k2 hl b4
            refine ⟨0, [], en, j_up hc_w x.1.2.1.toNat vb.toNat vc, ?_, ⟨arr_HT c2.1 k4 q6_w c4, RI.arr hJ q4_w c2.2 (by omega) k3 q5_w b4 c4⟩, ((a3.tr b3).tr c3).tr (KR.up q4_w), Or.inl ⟨rfl, _, rfl, hv⟩⟩
            show s_ast ty_w _ _ _ en _ = _
            unfold s_ast
            rw [a1_w, Option.bind_some, b1, Option.bind_some, c1_w, Option.bind_some]
            have e3_w : (j_hd [va]).toNat = x.1.2.1.toNat := by rw [← ev_w]; rfl
            dsimp only
            rw [if_pos ⟨i0, by
              show vb < j_len a_g3 (j_hd [va]).toNat
              rw [e3_w, k1_w]
              exact i1_w⟩, e3_w]
            exact congrArg (fun z => some (0, ([] : List Int), en, ((a_g3, g), j_up hc_w x.1.2.1.toNat vb.toNat z))) (ty_val ty_w vc q7_w (fun k => iv_bool (IV.sub (q8_w.resolve_left (fun k2 => k2 k)) c4)))
        | .var _, h => cases h
        | .op (.op _ _) _, h => cases h
      · match c, h with
        | .op (.var op_w) v, h =>
          obtain ⟨x, h1, h⟩ := j_bd h
          obtain ⟨y, h2, h⟩ := j_bd h
          obtain ⟨z, h3, h⟩ := j_bd h
          obtain ⟨u, h5, h⟩ := j_bd h
          obtain ⟨h4, h⟩ := b_if h
          cases h
          simp only [q_arr, Bool.and_eq_true, beq_iff_eq, decide_eq_true_eq] at h4
          obtain ⟨⟨⟨⟨⟨q1_w, q2_w⟩, q3_w⟩, q4_w⟩, q5_w⟩, q6_w⟩ := h4
          intro en hh hQ hv
          obtain ⟨va, ha_w, a1_w, a2, a3, a4, -⟩ := qi_one (e1_w a τ x h1) hQ hv
          obtain ⟨vb, hb_w, b1, b2, b3, b4, -⟩ := qi_one (e1_w b τ y h2) a2 hv
          obtain ⟨vc, hc_w, c1_w, c2, c3, c4, -⟩ := qi_one (e1_w v τ z h3) b2 hv
          have ev_w := iv4 q1_w a4
          obtain ⟨k1_w, k2, k3, k4⟩ := hT_w.2.2.1 x.1.2.1.toNat (by omega) (by omega)
          obtain ⟨i0, i1_w, i2_w⟩ := ar_ld_ok (b2.2.2.1 x.1.2.1.toNat (by omega)) k2 h5 b4
          have e3_w : (j_hd [va]).toNat = x.1.2.1.toNat := by rw [← ev_w]; rfl
          have hop := i_op_ok (op_w := op_w) i2_w c4
          refine ⟨0, [], en, j_up hc_w x.1.2.1.toNat vb.toNat (j_iop op_w (hb_w x.1.2.1.toNat vb.toNat) vc), ?_, ⟨?_, RI.arr hJ q4_w c2.2 (by omega) k3 q5_w b4 hop⟩, ((a3.tr b3).tr c3).tr (KR.up q4_w), Or.inl ⟨rfl, _, rfl, hv⟩⟩
          · show s_astC op_w _ _ _ en _ = _
            unfold s_astC
            rw [a1_w, Option.bind_some, b1, Option.bind_some]
            have hl : j_hd [vb] < j_len a_g3 (j_hd [va]).toNat := by
              rw [e3_w, k1_w]
              exact i1_w
            dsimp only
            rw [if_pos ⟨i0, hl⟩, c1_w, Option.bind_some]
            dsimp only
            rw [if_pos hl, e3_w]
            rfl
          · exact c2.1.up (fun _ => iop_in _ _ _) (fun e2_w => absurd ((k4 _).symm.trans e2_w) (by rw [q6_w]; decide)) (fun e2_w => absurd ((k4 _).symm.trans e2_w) (by rw [q6_w]; decide))
        | .var _, h => cases h
        | .op (.op _ _) _, h => cases h
      · obtain ⟨x, h1, h⟩ := j_bd h
        cases h
        intro en hh hQ hv
        obtain ⟨v, h', f1_w, f2_w, f3_w, -⟩ := e a τ _ _ _ (show qE T a τ = some (x.1, x.2.1, x.2.2) from h1) en hh hQ hv
        refine ⟨0, [], en, h', ?_, f2_w, f3_w, Or.inl ⟨rfl, _, rfl, hv⟩⟩
        show (evE xs L ck F cW a en _).bind _ = _
        rw [f1_w]
        rfl
      · obtain ⟨x, h1, h⟩ := j_bd h
        obtain ⟨o1, h2, h⟩ := j_bd h
        exact qs_if (e1_w a τ x h1) (iB_w.1 _ o1 h2) qs_skip (qjoins_l h) (qjoins_r h)
      · obtain ⟨x, h1, h⟩ := j_bd h
        obtain ⟨o1, h2, h⟩ := j_bd h
        obtain ⟨o2, h3, h⟩ := j_bd h
        exact qs_if (e1_w a τ x h1) (iB_w.1 _ o1 h2) (iC.1 _ o2 h3) (qjoins_l h) (qjoins_r h)
      · obtain ⟨x, h1, h⟩ := j_bd h
        obtain ⟨o1, h2, h⟩ := j_bd h
        exact qs_if (e1_w a τ x h1) (iB_w.1 _ o1 h2) qs_brk (qjoins_l h) (qjoins_r h)
      · split at h
        · rename_i i u c3 hst
          obtain ⟨h1, h⟩ := b_ifx h
          obtain ⟨p1_w, p2_w, p3_w⟩ := step_ok (xs := xs) (L := L) (ck := ck) (F := F) (K := K) (cW := cW) hst
          rw [Bool.and_eq_true] at h1
          obtain ⟨h1, h0⟩ := h1
          intro en hh hQ hv
          have hL := qlp_ok (K := K) (P'_w := evS xs L ck F K cW c) hK_w (fun τ us τt τf k => e a τ us τt τf k) (fun _ τ o k => iB_w.1 τ o k) (fun k => by
            rw [k] at h1
            exact (kp_S b).1 (by simpa [nw] using h1)) p1_w p2_w p3_w 7 (q_head i u τ) o h
          refine hL en hh hQ ?_
          unfold q_head
          refine IL.put i hv ?_
          obtain ⟨w1_w, w2_w, w3_w⟩ := IV.int h0 (IL.at i hv)
          have w4_w := w3_w
          unfold InI at w4_w
          cases u with
          | true => exact ⟨w1_w, by omega, w3_w⟩
          | false => exact ⟨by omega, w2_w, w3_w⟩
        · cases h
      · cases h; exact qs_brk
      · cases h; exact qs_cnt
      · obtain ⟨x, h1, h⟩ := j_bd h
        obtain ⟨h2, h⟩ := b_if h
        cases h
        intro en hh hQ hv
        obtain ⟨v, h', f1_w, f2_w, f3_w, f4_w, -⟩ := e a τ _ _ _ (show qE T a τ = some (x.1, x.2.1, x.2.2) from h1) en hh hQ hv
        refine ⟨1, v, en, h', ?_, f2_w, f3_w, Or.inr (Or.inl ⟨rfl, IL.sub h2 f4_w⟩)⟩
        show (evE xs L ck F cW a en _).bind _ = _
        rw [f1_w]
        rfl
      · obtain ⟨x, h1, h⟩ := j_bd h
        obtain ⟨h2, h⟩ := b_if h
        cases h
        rw [Bool.and_eq_true] at h2
        intro en hh hQ hv
        obtain ⟨v, h', f1_w, f2_w, f3_w, f4_w, -⟩ := e a τ _ _ _ (show qE T a τ = some (x.1, x.2.1, x.2.2) from h1) en hh hQ hv
        obtain ⟨w, rfl, hw⟩ := IL.one (IL.sub h2.2 f4_w)
        refine ⟨1, [w], en, h', ?_, f2_w, f3_w, Or.inr (Or.inl ⟨rfl, IL.sub h2.1 f4_w⟩)⟩
        show (evE xs L ck F cW a en _).bind _ = _
        rw [f1_w, Option.bind_some]
        exact if_pos (iv_bool hw)
      · obtain ⟨h1, h⟩ := b_if h
        cases h
        refine fun en hh hQ hv => ⟨1, [], en, hh, rfl, hQ, KR.rf, Or.inr (Or.inl ⟨rfl, ?_⟩)⟩
        match rt, h1 with
        | [], _ => trivial
      · obtain ⟨x, h1, h⟩ := j_bd h
        obtain ⟨o1, h2, h⟩ := j_bd h
        obtain ⟨ex_w, h3, h⟩ := j_bd h
        cases h
        exact qs_sw (e1_w a τ x h1) (iB_w.2 _ o1 h2) h3
      · exact iA.1 τ o h
      · cases h
    · intro τ o h
      show TotK P T J g rt τ o (nodeS xs L ck F K cW t a b c (evS xs L ck F K cW a) (evS xs L ck F K cW b) (evS xs L ck F K cW c))
      have h : (qSN T rt t a b c (qS T rt a) (qS T rt b) (qS T rt c)).2 τ = some o := h
      unfold qSN at h
      dsimp only at h
      split at h
      · obtain ⟨o1, h1, h⟩ := j_bd h
        obtain ⟨h2, h⟩ := b_ifx h
        obtain ⟨q, h3, h⟩ := j_bd h
        exact qs_case (iB_w.1 τ o1 h1) (by simpa using h2) (iC.2 τ q h3) (qjoins_l h) (qjoins_r h)
      · exact fun v en hh hQ hv => iA.1 τ o h en hh hQ hv
      · cases h
  | .var _ => ⟨fun _ _ h => (by cases h), fun _ _ h => (by cases h)⟩
  | .op (.op _ _) _ => ⟨fun _ _ h => (by cases h), fun _ _ h => (by cases h)⟩
  | .op (.var _) (.var _) => ⟨fun _ _ h => (by cases h), fun _ _ h => (by cases h)⟩
  | .op (.var _) (.op _ (.var _)) => ⟨fun _ _ h => (by cases h), fun _ _ h => (by cases h)⟩
/-! ===== methods ===== -/
theorem ilay_eq : ∀ {pk_w : List Nat} {av : List Int}, pk_w.all (fun k => !(k == 2)) = true → pk_w.length = av.length → j_lay pk_w av = av
  | [], [], _, _ => rfl
  | k :: pk_w, v :: av, h, hl => by
    rw [List.all_cons, Bool.and_eq_true] at h
    have hk : k ≠ 2 := by simpa using h.1
    show (if k = 2 then v :: 0 :: j_lay pk_w av else v :: j_lay pk_w av) = v :: av
    rw [if_neg hk, ilay_eq h.2 (by simpa using hl)]
  | [], _ :: _, _, hl => by simp at hl
  | _ :: _, [], _, hl => by simp at hl
theorem IL.pad {n : Nat} {ts : List IT} {vs : List Int} (h : IL P ts vs) : IL P (j_pad (0, 0, 0) n ts) (j_pad 0 n vs) := by
  unfold j_pad
  rw [IL.len h]
  exact IL.app h (IL.rep _)
theorem take_pad {n : Nat} {vs : List Int} : (j_pad 0 n vs).take vs.length = vs := by
  unfold j_pad
  exact List.take_left
theorem qM_ok {M : Nat → XM} {n f : Nat} (hT_w : RTab T) (hJ : JS T J) (hF : ∀ f, qC T f = true → TotR P T J g (evF xs L ck K cW M n) f) (hW : TotW g (evF xs L ck K cW M n)) (hB_w : TotB P T J g (evF xs L ck K cW M n)) (hK_w : 4294967300 ≤ K) (h : qM T M f = true) : TotR P T J g (evF xs L ck K cW M (n + 1)) f := by
  unfold qM at h
  simp only [Bool.and_eq_true, Bool.or_eq_true] at h
  obtain ⟨⟨⟨h1, h2⟩, h3⟩, h4⟩ := h
  rw [beq_iff_eq] at h2
  intro av hh hQ hv
  have hl := IL.len hv
  have hlay : j_lay (M f).2.2.1 av = av := ilay_eq h1 (by omega)
  have hpad : IL P (j_pad (0, 0, 0) (M f).2.1 (qP T f)) (j_pad 0 (M f).2.1 av) := IL.pad hv
  rw [evF_s, hlay]
  rcases h4 with h4 | ⟨h4, h5⟩
  · unfold q_ret at h4
    split at h4
    · rename_i a x y hbody
      split at h4
      · rename_i us τt τf hq
        simp only [Bool.and_eq_true] at h4
        obtain ⟨⟨k1_w, k2⟩, k3⟩ := h4
        obtain ⟨v, h', f1_w, f2_w, f3_w, f4_w, f5_w, -⟩ := q_ok (xs := xs) (L := L) (ck := ck) (cW := cW) hT_w hF hW hB_w a _ us τt τf hq _ hh hQ hpad
        obtain ⟨w, rfl, hw⟩ := IL.one (IL.sub k2 f4_w)
        refine ⟨[w], h', ?_, f2_w, f3_w, IL.sub k1_w f4_w, fun h0 => ?_⟩
        · rw [hbody]
          show (((evE xs L ck (evF xs L ck K cW M n) cW a _ _).bind fun x => if j_hd x.1 = 0 ∨ j_hd x.1 = 1 then some (1, x.1, _, x.2) else none).bind _) = _
          rw [f1_w, Option.bind_some]
          dsimp only
          rw [if_pos (show j_hd [w] = 0 ∨ j_hd [w] = 1 from iv_bool hw), Option.bind_some]
          exact if_pos ⟨Or.inl rfl, Nat.le_refl _, Nat.le_refl _, List.isPrefixOf_iff_prefix.mpr (List.prefix_refl _)⟩
        · have h7 := IL.take (qP T f).length (f5_w h0)
          rw [← hl, take_pad] at h7
          rw [hl] at h7
          exact IL.sub k3 h7
      · cases h4
    · cases h4
  · split at h5
    · rename_i ho
      obtain ⟨c, vals_w, en', h', e1_w, e2_w, e3_w, e4_w⟩ := (qS_ok (xs := xs) (L := L) (ck := ck) (cW := cW) (K := K) (rt := qR T f) hT_w hJ hF hW hB_w hK_w (M f).2.2.2.2).1 _ _ ho _ hh hQ hpad
      rcases e4_w with ⟨-, τ, k, -⟩ | ⟨rfl, k⟩ | ⟨-, τ, k, -⟩ | ⟨-, τ, k, -⟩
      · cases k
      · refine ⟨vals_w, h', ?_, e2_w, e3_w, k, fun _ => IL.sub h4 hv⟩
        rw [e1_w, Option.bind_some]
        exact if_pos ⟨Or.inl rfl, Nat.le_refl _, Nat.le_refl _, List.isPrefixOf_iff_prefix.mpr (List.prefix_refl _)⟩
      · cases k
      · cases k
    · cases h5
end QV
end
section
/-! ===== the fourth reading_w: this claim's tables_w (written_w by wip/tools/qtab.py) ===== -/
def r_F : Nat → IT := fun k => [(1, 0, 1), (0, 0, 0), (1, 0, 1000), (1, 0, 1000), (0, 0, 0), (0, 0, 0), (0, 0, 0), (1, (-2147483648), 2147483647), (1, (-2147483648), 2147483647), (0, 0, 0), (0, 0, 0), (0, 0, 0), (1, (-2147483648), 2147483647), (0, 0, 0), (0, 0, 0), (0, 0, 0), (0, 0, 0), (0, 0, 0), (1, 0, 8), (1, (-2147483648), 2147483647), (0, 0, 0), (0, 0, 0), (0, 0, 0), (0, 0, 0), (0, 0, 0), (1, (-2147483648), 2147483647), (0, 0, 0), (0, 0, 0), (0, 0, 0), (2, 0, 2147483647)].getD k (0, 0, 0)
def r_O : Nat → Nat := fun k => [0, 183, 0, 0, 184, 185, 186, 0, 0, 187, 188, 189, 0, 190, 191, 192, 193, 194, 0, 0, 195, 196, 197, 198, 199, 0, 200, 201, 202, 0].getD k 0
def r_As : List RG := [(1000, 0, [(0, 1000, (1, 0, 255))]),
  (1002, 0, [(0, 1002, (1, 0, 4))]),
  (1002, 0, [(0, 1002, (1, 0, 1000))]),
  (1002, 0, [(0, 1002, (2, (-9223372036854775808), 9223372036854775807))]),
  (24, 0, [(0, 24, (2, (-9223372036854775808), 9223372036854775807))]),
  (190, 0, [(0, 1, (1, 0, 12)), (1, 2, (8, 0, 0)), (2, 3, (1, 0, 4)), (3, 4, (7, 0, 0)), (4, 5, (1, (-1), 1099)), (5, 17, (1, 0, 9999)), (91, 95, (1, (-2147483648), 2147483647)), (17, 18, (1, 0, 999)), (18, 19, (1, 0, 12)), (19, 31, (1, 0, 99)), (31, 32, (1, 0, 999)), (32, 33, (1, 0, 12)), (33, 45, (1, 0, 99)), (45, 46, (1, 0, 999)), (46, 47, (1, 0, 12)), (47, 59, (1, 0, 99)), (59, 60, (1, 0, 999)), (60, 61, (1, 0, 12)), (61, 73, (1, 0, 99)), (73, 76, (1, 0, 3)), (76, 79, (1, 0, 3)), (79, 82, (1, 0, 3)), (82, 85, (1, 0, 3)), (85, 88, (1, 0, 3)), (88, 91, (1, 0, 3)), (95, 96, (1, 0, 12)), (96, 97, (1, 0, 4)), (97, 98, (1, 0, 4)), (98, 99, (1, 0, 6)), (99, 100, (1, (-1), 1099)), (100, 112, (1, 0, 9999)), (186, 190, (1, (-2147483648), 2147483647)), (112, 113, (1, 0, 999)), (113, 114, (1, 0, 12)), (114, 126, (1, 0, 99)), (126, 127, (1, 0, 999)), (127, 128, (1, 0, 12)), (128, 140, (1, 0, 99)), (140, 141, (1, 0, 999)), (141, 142, (1, 0, 12)), (142, 154, (1, 0, 99)), (154, 155, (1, 0, 999)), (155, 156, (1, 0, 12)), (156, 168, (1, 0, 99)), (168, 171, (1, 0, 3)), (171, 174, (1, 0, 3)), (174, 177, (1, 0, 3)), (177, 180, (1, 0, 3)), (180, 183, (1, 0, 3)), (183, 186, (1, 0, 3))]),
  (2200, 0, [(0, 2200, (1, (-2147483648), 2147483647))]),
  (28, 0, [(0, 28, (2, (-9223372036854775808), 9223372036854775807))]),
  (250, 0, [(0, 1, (1, 0, 30)), (1, 250, (1, (-2147483648), 2147483647))]),
  (4, 0, [(0, 4, (1, (-2147483648), 2147483647))]),
  (64, 0, [(0, 64, (1, (-2147483648), 2147483647))]),
  (5148, 429, [(0, 78, (1, (-1), 9999)), (78, 150, (1, 0, 3)), (150, 162, (1, 0, 9999)), (162, 163, (1, 0, 4)), (163, 355, (1, (-2147483648), 2147483647)), (355, 356, (1, 0, 16)), (404, 405, (1, 0, 8)), (356, 358, (1, 0, 3)), (358, 359, (1, (-2147483648), 2147483647)), (359, 361, (1, 0, 3)), (361, 362, (1, (-2147483648), 2147483647)), (362, 364, (1, 0, 3)), (364, 365, (1, (-2147483648), 2147483647)), (365, 367, (1, 0, 3)), (367, 368, (1, (-2147483648), 2147483647)), (368, 370, (1, 0, 3)), (370, 371, (1, (-2147483648), 2147483647)), (371, 373, (1, 0, 3)), (373, 374, (1, (-2147483648), 2147483647)), (374, 376, (1, 0, 3)), (376, 377, (1, (-2147483648), 2147483647)), (377, 379, (1, 0, 3)), (379, 380, (1, (-2147483648), 2147483647)), (380, 382, (1, 0, 3)), (382, 383, (1, (-2147483648), 2147483647)), (383, 385, (1, 0, 3)), (385, 386, (1, (-2147483648), 2147483647)), (386, 388, (1, 0, 3)), (388, 389, (1, (-2147483648), 2147483647)), (389, 391, (1, 0, 3)), (391, 392, (1, (-2147483648), 2147483647)), (392, 394, (1, 0, 3)), (394, 395, (1, (-2147483648), 2147483647)), (395, 397, (1, 0, 3)), (397, 398, (1, (-2147483648), 2147483647)), (398, 400, (1, 0, 3)), (400, 401, (1, (-2147483648), 2147483647)), (401, 403, (1, 0, 3)), (403, 404, (1, (-2147483648), 2147483647)), (405, 406, (1, 0, 11)), (406, 407, (1, (-2147483648), 2147483647)), (407, 408, (1, 0, 1)), (408, 409, (1, 0, 11)), (409, 410, (1, (-2147483648), 2147483647)), (410, 411, (1, 0, 1)), (411, 412, (1, 0, 11)), (412, 413, (1, (-2147483648), 2147483647)), (413, 414, (1, 0, 1)), (414, 415, (1, 0, 11)), (415, 416, (1, (-2147483648), 2147483647)), (416, 417, (1, 0, 1)), (417, 418, (1, 0, 11)), (418, 419, (1, (-2147483648), 2147483647)), (419, 420, (1, 0, 1)), (420, 421, (1, 0, 11)), (421, 422, (1, (-2147483648), 2147483647)), (422, 423, (1, 0, 1)), (423, 424, (1, 0, 11)), (424, 425, (1, (-2147483648), 2147483647)), (425, 426, (1, 0, 1)), (426, 427, (1, 0, 11)), (427, 428, (1, (-2147483648), 2147483647)), (428, 429, (1, 0, 1))]),
  (2, 0, [(0, 2, (1, 0, 1))]),
  (6, 0, [(0, 6, (1, (-2147483648), 2147483647))]),
  (6, 0, [(0, 6, (1, (-2147483648), 2147483647))]),
  (4, 0, [(0, 4, (1, (-2147483648), 2147483647))]),
  (4, 0, [(0, 4, (1, (-2147483648), 2147483647))]),
  (6, 0, [(0, 6, (2, (-9223372036854775808), 9223372036854775807))]),
  (6, 0, [(0, 6, (1, (-2147483648), 2147483647))]),
  (6, 0, [(0, 6, (2, (-9223372036854775808), 9223372036854775807))])]
def r_A : Nat → RG := fun q => bif Nat.ble 183 q then r_As.getD (q - 183) (0, 0, []) else (0, 0, [])
def r_W : Nat → Bool := fun q => [182, 192, 193, 194, 195, 196, 197, 198, 199, 200, 201, 202].any (fun o => Nat.beq o q)
def r_P : Nat → List IT := fun f => t_at [[[], [], [], [], [], [], [], [], [], [], [], [], [], [], [], []],
  [[], [], [], [], [], [], [], [], [], [], [], [], [], [], [], []],
  [[], [], [], [], [], [], [], [], [(1, (-2147483648), 2147483647), (1, (-2147483648), 2147483647), (1, (-2147483648), 2147483647)], [(4, 182, 182), (3, 0, 0), (3, 0, 0), (1, 0, 429)], [(4, 182, 182)], [(4, 182, 182)], [(4, 182, 182)], [(4, 182, 182)], [(4, 182, 182), (5, 0, 0)], [(4, 182, 182), (5, 0, 0)]],
  [[(4, 182, 182), (6, 0, 0)], [(4, 182, 182), (6, 0, 0), (1, 0, 12)], [(4, 182, 182), (5, 0, 0)], [(4, 182, 182), (5, 0, 0)], [(4, 182, 182), (1, (-2147483648), 2147483647)], [(4, 182, 182), (1, (-2147483648), 2147483647)], [(4, 182, 182), (1, (-2147483648), 2147483647)], [(4, 182, 182), (1, (-2147483648), 2147483647)], [(4, 182, 182), (1, (-2147483648), 2147483647), (1, (-2147483648), 2147483647)], [(4, 182, 182), (3, 0, 0)], [], [(4, 182, 182)], [(4, 182, 182), (3, 0, 0), (5, 0, 0), (1, 0, 12)], [(4, 182, 182), (3, 0, 0), (5, 0, 0), (1, (-1), 12)], [(4, 182, 182), (3, 0, 0), (5, 0, 0), (1, 0, 12)], [(1, (-2147483648), 2147483647), (1, (-2147483648), 2147483647), (1, 1, 2147483647)]],
  [[(4, 182, 182), (6, 0, 0), (1, 0, 12), (1, 0, 13), (1, 0, 12)], [], [(4, 182, 182), (3, 0, 0), (5, 0, 0), (1, 0, 11)], [(4, 182, 182), (3, 0, 0), (5, 0, 0), (1, 0, 11)], [(4, 182, 182), (1, (-2147483648), 2147483647), (1, 0, 6)], [(4, 182, 182), (1, (-2147483648), 2147483647)], [(4, 182, 182), (6, 0, 0), (1, 0, 11)], [(4, 182, 182), (3, 0, 0), (1, 0, 11)], [(4, 182, 182), (6, 0, 0)], [(4, 182, 182), (3, 0, 0), (5, 0, 0), (1, 0, 11)], [(4, 182, 182), (3, 0, 0), (1, (-2147483648), 2147483647), (1, 0, 11)], [(4, 182, 182), (3, 0, 0), (1, (-2147483648), 2147483647)], [(4, 182, 182), (3, 0, 0)], [(4, 182, 182), (5, 0, 0)], [(4, 182, 182), (1, (-2147483648), 2147483647), (1, (-2147483648), 2147483647)], [(4, 182, 182), (1, (-2147483648), 2147483647), (1, (-2147483648), 2147483647)]],
  [[(4, 182, 182), (1, (-2147483648), 2147483647), (1, (-2147483648), 2147483647)], [(4, 182, 182), (3, 0, 0), (5, 0, 0), (1, 0, 12), (1, (-1), 9999)], [(4, 182, 182), (1, (-2147483648), 2147483647), (1, (-2147483648), 2147483647), (1, (-2147483648), 2147483647)], [(4, 182, 182), (3, 0, 0), (5, 0, 0), (1, 0, 3), (1, 0, 12)], [(4, 182, 182), (1, (-2147483648), 2147483647), (1, (-2147483648), 2147483647), (1, (-2147483648), 2147483647)], [(4, 182, 182), (1, (-2147483648), 2147483647), (1, (-2147483648), 2147483647)], [], [], [(4, 182, 182)], [(4, 182, 182)], [(4, 182, 182), (1, (-2147483648), 2147483647)], [], [(4, 182, 182), (1, (-2147483648), 2147483647), (1, (-2147483648), 2147483647)], [(4, 182, 182), (1, (-2147483648), 2147483647), (1, (-2147483648), 2147483647)], [(4, 182, 182), (1, (-2147483648), 2147483647), (1, (-2147483648), 2147483647)], [(4, 182, 182), (1, (-2147483648), 2147483647)]],
  [[(4, 182, 182), (1, (-2147483648), 2147483647), (1, (-2147483648), 2147483647)], [(4, 182, 182), (1, (-2147483648), 2147483647), (1, (-2147483648), 2147483647)], [(4, 182, 182), (1, (-2147483648), 2147483647), (1, (-2147483648), 2147483647)], [(4, 182, 182), (1, (-2147483648), 2147483647)], [(4, 182, 182), (1, (-2147483648), 2147483647)], [(4, 182, 182), (1, (-2147483648), 2147483647), (1, (-2147483648), 2147483647)], [(4, 182, 182), (3, 0, 0), (1, 0, 11)], [(4, 182, 182), (1, (-2147483648), 2147483647)], [(4, 182, 182), (3, 0, 0)], [(4, 182, 182)], [(4, 182, 182)], [(4, 182, 182), (1, 0, 3), (1, 0, 3), (1, 0, 11)], [(4, 182, 182), (1, (-2147483648), 2147483647)], [(4, 182, 182), (1, (-2147483648), 2147483647), (1, (-2147483648), 2147483647), (1, (-2147483648), 2147483647)], [(4, 182, 182), (1, (-2147483648), 2147483647), (1, (-2147483648), 2147483647), (1, (-2147483648), 2147483647)], [(4, 182, 182), (1, (-2147483648), 2147483647)]],
  [[(4, 182, 182)], [(4, 182, 182), (1, (-2147483648), 2147483647), (1, (-2147483648), 2147483647)], [(4, 182, 182), (1, (-2147483648), 2147483647), (1, (-2147483648), 2147483647)], [(4, 182, 182)], [(4, 182, 182), (1, (-2147483648), 2147483647), (1, (-2147483648), 2147483647), (1, (-2147483648), 2147483647), (1, (-2147483648), 2147483647)], [(4, 182, 182), (1, (-2147483648), 2147483647), (1, (-2147483648), 2147483647)], [(4, 182, 182), (5, 0, 0)], [(4, 182, 182), (1, (-2147483648), 2147483647)], [(4, 182, 182)], [(4, 182, 182), (1, (-2147483648), 2147483647), (1, (-2147483648), 2147483647), (1, 0, 1)], [(4, 182, 182)], [(4, 182, 182)], [(4, 182, 182)], [(4, 182, 182), (1, (-2147483648), 2147483647), (1, 0, 11)], [(4, 182, 182), (1, 1, 200)], [(4, 182, 182), (1, (-2147483648), 2147483647), (1, (-2147483648), 2147483647), (1, (-2147483648), 2147483647)]],
  [[(4, 182, 182), (1, (-2147483648), 2147483647), (1, 0, 1)], [(4, 182, 182)], [(4, 182, 182), (1, (-2147483648), 2147483647)], [], [], [], [], [], []]] [] (f - 183)
def r_R : Nat → List IT := fun f => t_at [[[], [], [], [], [], [], [], [], [], [], [], [], [], [], [], []],
  [[], [], [], [], [], [], [], [], [], [], [], [], [], [], [], []],
  [[], [], [], [], [], [], [], [], [(1, (-2147483648), 2147483647)], [], [(1, 0, 12)], [(8, 0, 0)], [(1, 0, 4)], [(7, 0, 0)], [(1, 0, 3)], [(6, 0, 0)]],
  [[(1, 0, 999)], [(1, 0, 99)], [(1, (-1), 12)], [(1, 0, 9999)], [(1, 0, 1)], [(1, 0, 1)], [(1, 0, 1)], [(1, 0, 1)], [(1, 0, 1)], [], [], [], [(1, (-1), 9999)], [(1, (-1), 12)], [(1, (-1), 12)], [(1, (-2147483648), 2147483647)]],
  [[(1, (-2147483648), 2147483647)], [], [(1, (-2147483648), 2147483647)], [(1, (-2147483648), 2147483647)], [], [(1, (-2147483648), 2147483647)], [(1, (-2147483648), 2147483647)], [], [], [(1, 0, 3)], [(1, (-2147483648), 2147483647)], [(1, (-2147483648), 2147483647)], [(1, (-2147483648), 2147483647)], [(1, (-2147483648), 2147483647)], [(1, (-2147483648), 2147483647)], [(1, (-2147483648), 2147483647)]],
  [[(1, (-2147483648), 2147483647)], [], [(1, (-2147483648), 2147483647)], [], [(1, (-2147483648), 2147483647)], [(1, (-2147483648), 2147483647)], [], [], [(1, (-2147483648), 2147483647)], [(1, 0, 1)], [(1, (-2147483648), 2147483647)], [], [(1, (-2147483648), 2147483647)], [(1, (-2147483648), 2147483647)], [(1, (-2147483648), 2147483647)], [(1, (-2147483648), 2147483647)]],
  [[(1, (-2147483648), 2147483647)], [(1, (-2147483648), 2147483647)], [(1, (-2147483648), 2147483647)], [(1, (-2147483648), 2147483647)], [(1, (-2147483648), 2147483647)], [(1, (-2147483648), 2147483647)], [(1, (-2147483648), 2147483647)], [(1, (-2147483648), 2147483647)], [(1, (-2147483648), 2147483647)], [(1, (-2147483648), 2147483647)], [(1, (-2147483648), 2147483647)], [(1, (-2147483648), 2147483647)], [(1, 0, 1)], [(1, (-2147483648), 2147483647)], [(1, (-2147483648), 2147483647)], [(1, (-2147483648), 2147483647)]],
  [[(1, (-2147483648), 2147483647)], [(1, (-2147483648), 2147483647)], [(1, (-2147483648), 2147483647)], [], [(1, (-2147483648), 2147483647)], [(1, (-2147483648), 2147483647)], [(1, (-2147483648), 2147483647)], [(1, (-2147483648), 2147483647)], [(1, (-2147483648), 2147483647)], [(1, 0, 1)], [(1, (-2147483648), 2147483647)], [(1, (-2147483648), 2147483647)], [(1, (-2147483648), 2147483647)], [(1, (-2147483648), 2147483647)], [(1, 0, 199)], [(1, (-2147483648), 2147483647)]],
  [[(1, 0, 1)], [(1, (-2147483648), 2147483647)], [(1, (-2147483648), 2147483647)], [], [], [], [], [], []]] [] (f - 183)
def r_U : Nat → List IT := fun f => t_at [[[], [], [], [], [], [], [], [], [], [], [], [], [], [], [], []],
  [[], [], [], [], [], [], [], [], [], [], [], [], [], [], [], []],
  [[], [], [], [], [], [], [], [], [(1, (-2147483648), 2147483647), (1, (-2147483648), 2147483647), (1, (-2147483648), 2147483647)], [(4, 182, 182), (3, 0, 0), (3, 0, 0), (1, 0, 429)], [(4, 182, 182)], [(4, 182, 182)], [(4, 182, 182)], [(4, 182, 182)], [(4, 182, 182), (5, 0, 0)], [(4, 182, 182), (5, 0, 0)]],
  [[(4, 182, 182), (6, 0, 0)], [(4, 182, 182), (6, 0, 0), (1, 0, 12)], [(4, 182, 182), (5, 0, 0)], [(4, 182, 182), (5, 0, 0)], [(4, 182, 182), (5, 0, 0)], [(4, 182, 182), (1, 0, 11)], [(4, 182, 182), (1, 0, 3)], [(4, 182, 182), (6, 0, 0)], [(4, 182, 182), (5, 0, 0), (1, 0, 12)], [(4, 182, 182), (3, 0, 0)], [], [(4, 182, 182)], [(4, 182, 182), (3, 0, 0), (5, 0, 0), (1, 0, 12)], [(4, 182, 182), (3, 0, 0), (5, 0, 0), (1, (-1), 12)], [(4, 182, 182), (3, 0, 0), (5, 0, 0), (1, 0, 12)], [(1, (-2147483648), 2147483647), (1, (-2147483648), 2147483647), (1, 1, 2147483647)]],
  [[(4, 182, 182), (6, 0, 0), (1, 0, 12), (1, 0, 13), (1, 0, 12)], [], [(4, 182, 182), (3, 0, 0), (5, 0, 0), (1, 0, 11)], [(4, 182, 182), (3, 0, 0), (5, 0, 0), (1, 0, 11)], [(4, 182, 182), (1, (-2147483648), 2147483647), (1, 0, 6)], [(4, 182, 182), (1, (-2147483648), 2147483647)], [(4, 182, 182), (6, 0, 0), (1, 0, 11)], [(4, 182, 182), (3, 0, 0), (1, 0, 11)], [(4, 182, 182), (6, 0, 0)], [(4, 182, 182), (3, 0, 0), (5, 0, 0), (1, 0, 11)], [(4, 182, 182), (3, 0, 0), (1, (-2147483648), 2147483647), (1, 0, 11)], [(4, 182, 182), (3, 0, 0), (1, (-2147483648), 2147483647)], [(4, 182, 182), (3, 0, 0)], [(4, 182, 182), (5, 0, 0)], [(4, 182, 182), (1, (-2147483648), 2147483647), (1, (-2147483648), 2147483647)], [(4, 182, 182), (1, (-2147483648), 2147483647), (1, (-2147483648), 2147483647)]],
  [[(4, 182, 182), (1, (-2147483648), 2147483647), (1, (-2147483648), 2147483647)], [(4, 182, 182), (3, 0, 0), (5, 0, 0), (1, 0, 12), (1, (-1), 9999)], [(4, 182, 182), (1, (-2147483648), 2147483647), (1, (-2147483648), 2147483647), (1, (-2147483648), 2147483647)], [(4, 182, 182), (3, 0, 0), (5, 0, 0), (1, 0, 3), (1, 0, 12)], [(4, 182, 182), (1, (-2147483648), 2147483647), (1, (-2147483648), 2147483647), (1, (-2147483648), 2147483647)], [(4, 182, 182), (1, (-2147483648), 2147483647), (1, (-2147483648), 2147483647)], [], [], [(4, 182, 182)], [(4, 182, 182)], [(4, 182, 182), (1, (-2147483648), 2147483647)], [], [(4, 182, 182), (1, (-2147483648), 2147483647), (1, (-2147483648), 2147483647)], [(4, 182, 182), (1, (-2147483648), 2147483647), (1, (-2147483648), 2147483647)], [(4, 182, 182), (1, (-2147483648), 2147483647), (1, (-2147483648), 2147483647)], [(4, 182, 182), (1, (-2147483648), 2147483647)]],
  [[(4, 182, 182), (1, (-2147483648), 2147483647), (1, (-2147483648), 2147483647)], [(4, 182, 182), (1, (-2147483648), 2147483647), (1, (-2147483648), 2147483647)], [(4, 182, 182), (1, (-2147483648), 2147483647), (1, (-2147483648), 2147483647)], [(4, 182, 182), (1, (-2147483648), 2147483647)], [(4, 182, 182), (1, (-2147483648), 2147483647)], [(4, 182, 182), (1, (-2147483648), 2147483647), (1, (-2147483648), 2147483647)], [(4, 182, 182), (3, 0, 0), (1, 0, 11)], [(4, 182, 182), (1, (-2147483648), 2147483647)], [(4, 182, 182), (3, 0, 0)], [(4, 182, 182)], [(4, 182, 182)], [(4, 182, 182), (1, 0, 3), (1, 0, 3), (1, 0, 11)], [(4, 182, 182), (1, 0, 3)], [(4, 182, 182), (1, (-2147483648), 2147483647), (1, (-2147483648), 2147483647), (1, (-2147483648), 2147483647)], [(4, 182, 182), (1, (-2147483648), 2147483647), (1, (-2147483648), 2147483647), (1, (-2147483648), 2147483647)], [(4, 182, 182), (1, (-2147483648), 2147483647)]],
  [[(4, 182, 182)], [(4, 182, 182), (1, (-2147483648), 2147483647), (1, (-2147483648), 2147483647)], [(4, 182, 182), (1, (-2147483648), 2147483647), (1, (-2147483648), 2147483647)], [(4, 182, 182)], [(4, 182, 182), (1, (-2147483648), 2147483647), (1, (-2147483648), 2147483647), (1, (-2147483648), 2147483647), (1, (-2147483648), 2147483647)], [(4, 182, 182), (1, (-2147483648), 2147483647), (1, (-2147483648), 2147483647)], [(4, 182, 182), (5, 0, 0)], [(4, 182, 182), (1, (-2147483648), 2147483647)], [(4, 182, 182)], [(4, 182, 182), (1, (-2147483648), 2147483647), (1, (-2147483648), 2147483647), (1, 0, 1)], [(4, 182, 182)], [(4, 182, 182)], [(4, 182, 182)], [(4, 182, 182), (1, (-2147483648), 2147483647), (1, 0, 11)], [(4, 182, 182), (1, 1, 200)], [(4, 182, 182), (1, (-2147483648), 2147483647), (1, (-2147483648), 2147483647), (1, (-2147483648), 2147483647)]],
  [[(4, 182, 182), (1, (-2147483648), 2147483647), (1, 0, 1)], [(4, 182, 182)], [(4, 182, 182), (1, (-2147483648), 2147483647)], [], [], [], [], [], []]] [] (f - 183)
def r_dp : Nat → Nat := fun f => bif Nat.ble 183 f then t_at [[99999, 99999, 99999, 99999, 99999, 99999, 99999, 99999, 99999, 99999, 99999, 99999, 99999, 99999, 99999, 99999],
  [99999, 99999, 99999, 99999, 99999, 99999, 99999, 99999, 99999, 99999, 99999, 99999, 99999, 99999, 99999, 99999],
  [99999, 99999, 99999, 99999, 99999, 99999, 99999, 99999, 1, 1, 1, 1, 1, 1, 1, 1],
  [1, 1, 2, 2, 2, 2, 2, 2, 3, 2, 99999, 2, 1, 2, 2, 1],
  [2, 99999, 4, 5, 1, 2, 3, 6, 2, 1, 2, 7, 8, 2, 3, 3],
  [4, 1, 4, 1, 3, 3, 99999, 99999, 8, 2, 9, 99999, 5, 6, 7, 7],
  [7, 7, 7, 8, 3, 4, 7, 8, 7, 8, 6, 1, 1, 3, 3, 8],
  [1, 1, 3, 2, 8, 8, 8, 9, 9, 3, 7, 8, 8, 7, 1, 9],
  [2, 3, 4, 99999, 99999, 99999, 99999, 99999, 99999]] 99999 (f - 183) else 99999
def r_hd (f : Nat) : Bool := [224, 230, 232, 240, 242, 244, 245, 247, 249, 251, 253, 271, 272, 273, 284, 304, 305, 309, 310, 311].any (fun q => Nat.beq q f)
def r_T (d : Nat) : QT := (r_F, r_O, r_A, r_W, r_P, r_R, r_U, fun f => Nat.blt (r_dp f) d)
def r_ck (f : Nat) : Bool := Nat.beq (r_dp f) 99999 || r_hd f || (qM (r_T (r_dp f)) g_M f && Nat.ble 1 (r_dp f))
theorem rk_183 : ∀ f, 183 ≤ f → f < 191 → r_ck f = true := by
  have h : (List.range 8).all (fun k => r_ck (183 + k)) = true := by decide +kernel
  exact fun f h1 h2 => by
    have h3 := List.all_eq_true.mp h (f - 183) (List.mem_range.mpr (by omega))
    rwa [show 183 + (f - 183) = f by omega] at h3
theorem rk_191 : ∀ f, 191 ≤ f → f < 199 → r_ck f = true := by
  have h : (List.range 8).all (fun k => r_ck (191 + k)) = true := by decide +kernel
  exact fun f h1 h2 => by
    have h3 := List.all_eq_true.mp h (f - 191) (List.mem_range.mpr (by omega))
    rwa [show 191 + (f - 191) = f by omega] at h3
theorem rk_199 : ∀ f, 199 ≤ f → f < 207 → r_ck f = true := by
  have h : (List.range 8).all (fun k => r_ck (199 + k)) = true := by decide +kernel
  exact fun f h1 h2 => by
    have h3 := List.all_eq_true.mp h (f - 199) (List.mem_range.mpr (by omega))
    rwa [show 199 + (f - 199) = f by omega] at h3
theorem rk_207 : ∀ f, 207 ≤ f → f < 215 → r_ck f = true := by
  have h : (List.range 8).all (fun k => r_ck (207 + k)) = true := by decide +kernel
  exact fun f h1 h2 => by
    have h3 := List.all_eq_true.mp h (f - 207) (List.mem_range.mpr (by omega))
    rwa [show 207 + (f - 207) = f by omega] at h3
theorem rk_215 : ∀ f, 215 ≤ f → f < 223 → r_ck f = true := by
  have h : (List.range 8).all (fun k => r_ck (215 + k)) = true := by decide +kernel
  exact fun f h1 h2 => by
    have h3 := List.all_eq_true.mp h (f - 215) (List.mem_range.mpr (by omega))
    rwa [show 215 + (f - 215) = f by omega] at h3
theorem rk_223 : ∀ f, 223 ≤ f → f < 231 → r_ck f = true := by
  have h : (List.range 8).all (fun k => r_ck (223 + k)) = true := by decide +kernel
  exact fun f h1 h2 => by
    have h3 := List.all_eq_true.mp h (f - 223) (List.mem_range.mpr (by omega))
    rwa [show 223 + (f - 223) = f by omega] at h3
theorem rk_231 : ∀ f, 231 ≤ f → f < 239 → r_ck f = true := by
  have h : (List.range 8).all (fun k => r_ck (231 + k)) = true := by decide +kernel
  exact fun f h1 h2 => by
    have h3 := List.all_eq_true.mp h (f - 231) (List.mem_range.mpr (by omega))
    rwa [show 231 + (f - 231) = f by omega] at h3
theorem rk_239 : ∀ f, 239 ≤ f → f < 247 → r_ck f = true := by
  have h : (List.range 8).all (fun k => r_ck (239 + k)) = true := by decide +kernel
  exact fun f h1 h2 => by
    have h3 := List.all_eq_true.mp h (f - 239) (List.mem_range.mpr (by omega))
    rwa [show 239 + (f - 239) = f by omega] at h3
theorem rk_247 : ∀ f, 247 ≤ f → f < 255 → r_ck f = true := by
  have h : (List.range 8).all (fun k => r_ck (247 + k)) = true := by decide +kernel
  exact fun f h1 h2 => by
    have h3 := List.all_eq_true.mp h (f - 247) (List.mem_range.mpr (by omega))
    rwa [show 247 + (f - 247) = f by omega] at h3
theorem rk_255 : ∀ f, 255 ≤ f → f < 263 → r_ck f = true := by
  have h : (List.range 8).all (fun k => r_ck (255 + k)) = true := by decide +kernel
  exact fun f h1 h2 => by
    have h3 := List.all_eq_true.mp h (f - 255) (List.mem_range.mpr (by omega))
    rwa [show 255 + (f - 255) = f by omega] at h3
theorem rk_263 : ∀ f, 263 ≤ f → f < 271 → r_ck f = true := by
  have h : (List.range 8).all (fun k => r_ck (263 + k)) = true := by decide +kernel
  exact fun f h1 h2 => by
    have h3 := List.all_eq_true.mp h (f - 263) (List.mem_range.mpr (by omega))
    rwa [show 263 + (f - 263) = f by omega] at h3
theorem rk_271 : ∀ f, 271 ≤ f → f < 279 → r_ck f = true := by
  have h : (List.range 8).all (fun k => r_ck (271 + k)) = true := by decide +kernel
  exact fun f h1 h2 => by
    have h3 := List.all_eq_true.mp h (f - 271) (List.mem_range.mpr (by omega))
    rwa [show 271 + (f - 271) = f by omega] at h3
theorem rk_279 : ∀ f, 279 ≤ f → f < 287 → r_ck f = true := by
  have h : (List.range 8).all (fun k => r_ck (279 + k)) = true := by decide +kernel
  exact fun f h1 h2 => by
    have h3 := List.all_eq_true.mp h (f - 279) (List.mem_range.mpr (by omega))
    rwa [show 279 + (f - 279) = f by omega] at h3
theorem rk_287 : ∀ f, 287 ≤ f → f < 295 → r_ck f = true := by
  have h : (List.range 8).all (fun k => r_ck (287 + k)) = true := by decide +kernel
  exact fun f h1 h2 => by
    have h3 := List.all_eq_true.mp h (f - 287) (List.mem_range.mpr (by omega))
    rwa [show 287 + (f - 287) = f by omega] at h3
theorem rk_295 : ∀ f, 295 ≤ f → f < 303 → r_ck f = true := by
  have h : (List.range 8).all (fun k => r_ck (295 + k)) = true := by decide +kernel
  exact fun f h1 h2 => by
    have h3 := List.all_eq_true.mp h (f - 295) (List.mem_range.mpr (by omega))
    rwa [show 295 + (f - 295) = f by omega] at h3
theorem rk_303 : ∀ f, 303 ≤ f → f < 311 → r_ck f = true := by
  have h : (List.range 8).all (fun k => r_ck (303 + k)) = true := by decide +kernel
  exact fun f h1 h2 => by
    have h3 := List.all_eq_true.mp h (f - 303) (List.mem_range.mpr (by omega))
    rwa [show 303 + (f - 303) = f by omega] at h3
theorem rk_311 : ∀ f, 311 ≤ f → f < 319 → r_ck f = true := by
  have h : (List.range 8).all (fun k => r_ck (311 + k)) = true := by decide +kernel
  exact fun f h1 h2 => by
    have h3 := List.all_eq_true.mp h (f - 311) (List.mem_range.mpr (by omega))
    rwa [show 311 + (f - 311) = f by omega] at h3
theorem rk_319 : ∀ f, 319 ≤ f → f < 327 → r_ck f = true := by
  have h : (List.range 8).all (fun k => r_ck (319 + k)) = true := by decide +kernel
  exact fun f h1 h2 => by
    have h3 := List.all_eq_true.mp h (f - 319) (List.mem_range.mpr (by omega))
    rwa [show 319 + (f - 319) = f by omega] at h3
theorem rk_all : ∀ f, r_ck f = true := fun f => by
  by_cases h0 : f < 183
  · have e : r_dp f = 99999 := by
      unfold r_dp
      rw [show Nat.ble 183 f = false from by cases hb_w : Nat.ble 183 f with | false => rfl | true => exact absurd (Nat.le_of_ble_eq_true hb_w) (by omega)]
      rfl
    unfold r_ck
    rw [e]
    rfl
  by_cases h183 : f < 191
  · exact rk_183 f (by omega) h183
  by_cases h191 : f < 199
  · exact rk_191 f (by omega) h191
  by_cases h199 : f < 207
  · exact rk_199 f (by omega) h199
  by_cases h207 : f < 215
  · exact rk_207 f (by omega) h207
  by_cases h215 : f < 223
  · exact rk_215 f (by omega) h215
  by_cases h223 : f < 231
  · exact rk_223 f (by omega) h223
  by_cases h231 : f < 239
  · exact rk_231 f (by omega) h231
  by_cases h239 : f < 247
  · exact rk_239 f (by omega) h239
  by_cases h247 : f < 255
  · exact rk_247 f (by omega) h247
  by_cases h255 : f < 263
  · exact rk_255 f (by omega) h255
  by_cases h263 : f < 271
  · exact rk_263 f (by omega) h263
  by_cases h271 : f < 279
  · exact rk_271 f (by omega) h271
  by_cases h279 : f < 287
  · exact rk_279 f (by omega) h279
  by_cases h287 : f < 295
  · exact rk_287 f (by omega) h287
  by_cases h295 : f < 303
  · exact rk_295 f (by omega) h295
  by_cases h303 : f < 311
  · exact rk_303 f (by omega) h303
  by_cases h311 : f < 319
  · exact rk_311 f (by omega) h311
  by_cases h319 : f < 327
  · exact rk_319 f (by omega) h319
  have e : r_dp f = 99999 := by
    unfold r_dp
    rw [show Nat.ble 183 f = true from Nat.ble_eq_true_of_le (by omega)]
    exact t_out (by show 144 ≤ f - 183; omega)
  unfold r_ck
  rw [e]
  rfl
theorem cty_arr {q : Nat} {c : XC} (hc_w : a_g3[q]? = some c) (h : c.1 = 6 ∨ c.1 = 7 ∨ c.1 = 9) (h2 : q ≠ 203) : ∀ k, c_ty g_fk a_g3 q k = r_kd q := by
  intro k
  obtain ⟨kd, l, sl⟩ := c
  unfold c_ty r_kd
  rw [hc_w, show (q == 203) = false from by rw [beq_eq_false_iff_ne]; exact h2]
  dsimp only at h
  rcases h with rfl | rfl | rfl <;> rfl
theorem r_t1 : (List.range 30).all (fun k => (!((r_F k).1 == 1) || c_ty g_fk a_g3 182 k == 1) && (!((r_F k).1 == 2) || c_ty g_fk a_g3 182 k == 2) && (r_O k == 0 || decide (j_rf a_g3 182 k = some (r_O k : Int)))) = true := by decide +kernel
theorem r_t2 : (List.range 20).all (fun q => decide (j_len a_g3 (183 + q) = ((r_A (183 + q)).1 : Int)) && ar_cov (r_A (183 + q)) && ar_ok (r_A (183 + q)) && (match a_g3[183 + q]? with
  | some c => c.1 == 6 || c.1 == 7 || c.1 == 9
  | none => false)) = true := by decide +kernel
theorem r_tab (d : Nat) : RTab (r_T d) := by
  refine ⟨fun k => ?_, fun k hk => ?_, fun q h1 h2 => ?_, rfl⟩
  · show ((r_F k).1 = 1 → _) ∧ ((r_F k).1 = 2 → _)
    by_cases h : k < 30
    · have h3 := List.all_eq_true.mp r_t1 k (List.mem_range.mpr h)
      simp only [Bool.and_eq_true, Bool.or_eq_true, Bool.not_eq_true', beq_iff_eq, beq_eq_false_iff_ne] at h3
      exact ⟨fun e => h3.1.1.resolve_left (fun k => k e), fun e => h3.1.2.resolve_left (fun k => k e)⟩
    · have e : r_F k = (0, 0, 0) := by
        unfold r_F
        rw [List.getD_eq_getElem?_getD, List.getElem?_eq_none (by show 30 ≤ k; omega)]
        rfl
      rw [e]
      exact ⟨fun e => (by cases e), fun e => (by cases e)⟩
  · have hk : r_O k ≠ 0 := hk
    show j_rf a_g3 182 k = some (r_O k : Int)
    by_cases h : k < 30
    · have h3 := List.all_eq_true.mp r_t1 k (List.mem_range.mpr h)
      simp only [Bool.and_eq_true, Bool.or_eq_true, beq_iff_eq, decide_eq_true_eq] at h3
      exact h3.2.resolve_left hk
    · have e : r_O k = 0 := by
        unfold r_O
        rw [List.getD_eq_getElem?_getD, List.getElem?_eq_none (by show 30 ≤ k; omega)]
        rfl
      exact absurd e hk
  · show j_len a_g3 q = ((r_A q).1 : Int) ∧ _
    have h3 := List.all_eq_true.mp r_t2 (q - 183) (List.mem_range.mpr (by omega))
    rw [show 183 + (q - 183) = q by omega] at h3
    simp only [Bool.and_eq_true, decide_eq_true_eq] at h3
    obtain ⟨⟨⟨a1_w, a2⟩, a3⟩, a4⟩ := h3
    refine ⟨a1_w, a2, a3, ?_⟩
    split at a4
    · rename_i c hc_w
      simp only [Bool.or_eq_true, beq_iff_eq] at a4
      exact cty_arr hc_w (by omega) (by omega)
    · cases a4
section RALL
variable {xs : Nat → Int} {L K : Nat} {ck : Nat → List Nat} {cW : Nat → Nat → Int} {P : Int × Int} {J : XH → Prop} {g : Nat × Nat}
theorem gm_198 : g_M 198 = (0, 3, [1, 1, 1], [1], bb_198) := rfl
theorem gm_274 : g_M 274 = (0, 2, [20, 1], [1], bb_274) := rfl
theorem tot_198 {n : Nat} : TotW g (evF xs L ck K cW g_M (n + 1)) := by
  intro v l u h
  rw [evF_s, gm_198]
  have k1_w : evS xs L ck (evF xs L ck K cW g_M n) K cW bb_198 [v, l, u] ((a_g3, g), h) = some (1, [j_b (decide (l ≤ v) && decide (v ≤ u))], [v, l, u], ((a_g3, g), h)) := by
    generalize evF xs L ck K cW g_M n = F
    unfold bb_198
    simp only [es_27, ee_25, ee_20, ee_3, n_ife, n_nz, n_cmp, Option.bind_some, j_hd, List.headD_cons, n_sv, n_z0, List.getD_cons_zero, List.getD_cons_succ, j_cmp]
    by_cases h1 : l ≤ v
    · by_cases h2 : v ≤ u <;> simp [h1, h2, j_b]
    · simp [h1, j_b]
  show (evS xs L ck (evF xs L ck K cW g_M n) K cW bb_198 [v, l, u] ((a_g3, g), h)).bind _ = _
  rw [k1_w, Option.bind_some]
  exact if_pos chk_self
theorem tot_274 {n : Nat} (hJ : JS (r_T 0) J) : TotB P (r_T 0) J g (evF xs L ck K cW g_M (n + 1)) := by
  intro v h hv hQ
  have hw : IV P (r_F 0) (1 - v) := by
    rcases hv with rfl | rfl
    · exact ⟨by decide, by decide, by decide, by decide⟩
    · exact ⟨by decide, by decide, by decide, by decide⟩
  refine ⟨j_up h 182 0 (1 - v), ?_, ⟨fld_HT (T := r_T 0) (r_tab 0) hQ.1 (Or.inl rfl) hw, RI.fld hJ rfl hQ.2 hw⟩, KR.up rfl⟩
  rw [evF_s, gm_274]
  have k1_w : evS xs L ck (evF xs L ck K cW g_M n) K cW bb_274 [182, v] ((a_g3, g), h) = some (1, [v], [182, v], ((a_g3, g), j_up h 182 0 (1 - v))) := by
    generalize evF xs L ck K cW g_M n = F
    rcases hv with rfl | rfl <;> rfl
  show (evS xs L ck (evF xs L ck K cW g_M n) K cW bb_274 [182, v] ((a_g3, g), h)).bind _ = _
  rw [k1_w, Option.bind_some]
  exact if_pos chk_self
/-- the reference's methods, but for_w the parser's: they end and keep_w what is_w kept; by hand_w: those that r_hd names_w -/
theorem r_all (hK_w : 4294967300 ≤ K) (hJ : JS (r_T 0) J) (hand_w : ∀ n f, r_hd f = true → r_dp f < n + 1 → (∀ m q, m ≤ n → r_dp q < m → TotR P (r_T 0) J g (evF xs L ck K cW g_M m) q) → TotR P (r_T 0) J g (evF xs L ck K cW g_M (n + 1)) f) : ∀ N n f, n ≤ N → r_dp f < n → n < 99999 → TotR P (r_T 0) J g (evF xs L ck K cW g_M n) f
  | 0, _, _, h1, h, _ => absurd h (by omega)
  | N + 1, n, f, h1, h, hn => by
    by_cases hle : n ≤ N
    · exact r_all hK_w hJ hand_w N n f hle h hn
    obtain ⟨n, rfl⟩ : ∃ m, n = m + 1 := ⟨n - 1, by omega⟩
    have hk := rk_all f
    unfold r_ck at hk
    simp only [Bool.or_eq_true, Nat.beq_eq] at hk
    have ih_w : ∀ m q, m ≤ n → r_dp q < m → TotR P (r_T 0) J g (evF xs L ck K cW g_M m) q := fun m q hm_w hq => r_all hK_w hJ hand_w N m q (by omega) hq (by omega)
    rcases hk with (hk | hk) | hk
    · omega
    · exact hand_w n f hk h ih_w
    · rw [Bool.and_eq_true, Nat.ble_eq] at hk
      obtain ⟨m, rfl⟩ : ∃ m, n = m + 1 := ⟨n - 1, by omega⟩
      exact qM_ok (T := r_T (r_dp f)) (r_tab _) hJ (fun q hq => ih_w (m + 1) q (by omega) (by
        have hq : Nat.blt (r_dp q) (r_dp f) = true := hq
        rw [Nat.blt_eq] at hq
        omega)) tot_198 (tot_274 hJ) hK_w hk.1
end RALL
end
section
/-! ===== what is_w to hold ahead_w, for_w what is_w to hold behind_w: expressions and statements of the reference_w and the class, by hand_w ===== -/
abbrev WQ : Type := List Int → XH → Prop
abbrev WE : Type := List Int → XH → WQ → Prop
abbrev WC : Type := List Int → XH → (XH → Prop) → (XH → Prop) → Prop
abbrev WR : Type := Nat → List Int → List Int → XH → Prop
abbrev WS : Type := List Int → XH → WR → Prop
section WPD
variable (g : XS × Nat × Nat) (F : XP) (K : Nat)
/-- the truth of an expression that is_w no condition by itself_w -/
def w_nz (A : WE) : WC := fun en h Qt Qf => A en h fun x h1 => (j_hd x ≠ 0 → Qt h1) ∧ (j_hd x = 0 → Qf h1)
def w_cmp (k : Nat) (A B : WE) : WC := fun en h Qt Qf => A en h fun x h1 => B en h1 fun y h2 => (j_cmp k (j_hd x) (j_hd y) = true → Qt h2) ∧ (j_cmp k (j_hd x) (j_hd y) = false → Qf h2)
def w_cmp0 (k : Nat) (A : WE) : WC := fun en h Qt Qf => A en h fun x h1 => (j_cmp k (j_hd x) 0 = true → Qt h1) ∧ (j_cmp k (j_hd x) 0 = false → Qf h1)
def w_and (A B : WC) : WC := fun en h Qt Qf => A en h (fun h1 => B en h1 Qt Qf) Qf
def w_or (A B : WC) : WC := fun en h Qt Qf => A en h Qt (fun h1 => B en h1 Qt Qf)
def w_not (A : WC) : WC := fun en h Qt Qf => A en h Qf Qt
/-- a condition as_w a number_w -/
def w_b (A : WC) : WE := fun en h Q => A en h (fun h1 => Q [1] h1) (fun h1 => Q [0] h1)
def w_call (f : Nat) (A : WE) : WE := fun en h Q => A en h fun av h1 => ∃ r h2, F f av (g, h1) = some (1, r, (g, h2)) ∧ Q r h2
def wNE (t : Nat) (a b c : SX) (A B C : WE × WC) : WE := match t with
  | 1 => fun _ h Q => Q [sx_c a b c] h
  | 3 => fun en h Q => Q [en.getD (sx_n a) 0] h
  | 4 => fun en h Q => A.1 en h fun x h1 => Q [h1 (j_hd x).toNat (sx_n b)] h1
  | 5 => fun en h Q => A.1 en h fun x h1 => ∃ r, j_rf g.1 (j_hd x).toNat (sx_n b) = some r ∧ Q [r] h1
  | 7 => fun en h Q => A.1 en h fun x h1 => B.1 en h1 fun y h2 => sx_n c = 0 ∧ (0 ≤ j_hd y ∧ j_hd y < j_len g.1 (j_hd x).toNat) ∧ Q [h2 (j_hd x).toNat (j_hd y).toNat] h2
  | 10 => fun en h Q => A.1 en h fun x h1 => sx_n c = 0 ∧ Q [j_len g.1 (j_hd x).toNat] h1
  | 14 => fun en h Q => A.1 en h fun x h1 => B.1 en h1 fun y h2 => Q [j_iop (sx_n c) (j_hd x) (j_hd y)] h2
  | 15 => fun en h Q => A.1 en h fun x h1 => B.1 en h1 fun y h2 => Q [j_lop (sx_n c) (j_hd x) (j_hd y)] h2
  | 16 => fun en h Q => A.1 en h fun x h1 => B.1 en h1 fun y h2 => Q [j_lsh (sx_n c) (j_hd x) (j_hd y)] h2
  | 17 => fun en h Q => A.1 en h fun x h1 => B.1 en h1 fun y h2 => j_hd y ≠ 0 ∧ Q [j_div (sx_n c) (j_hd x) (j_hd y)] h2
  | 18 => fun en h Q => A.1 en h fun x h1 => Q [j_un (sx_n c) (j_hd x)] h1
  | 20 => w_b (w_cmp (sx_n c) A.1 B.1)
  | 21 => w_b (w_cmp0 (sx_n c) A.1)
  | 22 => w_b (w_cmp (sx_n c) A.1 B.1)
  | 23 => w_b (w_cmp (sx_n c) A.1 B.1)
  | 24 => A.1
  | 25 => w_b (w_and A.2 B.2)
  | 26 => w_b (w_or A.2 B.2)
  | 27 => w_b (w_not A.2)
  | 28 => fun en h Q => A.2 en h (fun h1 => B.1 en h1 Q) (fun h1 => C.1 en h1 Q)
  | 30 => fun en h Q => A.1 en h fun x h1 => B.1 en h1 fun y h2 => Q (x ++ y) h2
  | 31 => fun _ h Q => Q [] h
  | 32 => w_call g F (sx_n b) A.1
  | _ => fun _ _ _ => False
def wNC (t : Nat) (a b c : SX) (A B C : WE × WC) : WC := match t with
  | 20 => w_cmp (sx_n c) A.1 B.1
  | 21 => w_cmp0 (sx_n c) A.1
  | 22 => w_cmp (sx_n c) A.1 B.1
  | 23 => w_cmp (sx_n c) A.1 B.1
  | 24 => A.2
  | 25 => w_and A.2 B.2
  | 26 => w_or A.2 B.2
  | 27 => w_not A.2
  | _ => w_nz (wNE g F t a b c A B C)
def wP : SX → WE × WC
  | .op (.var t) (.op a (.op b c)) => (wNE g F t a b c (wP a) (wP b) (wP c), wNC g F t a b c (wP a) (wP b) (wP c))
  | _ => (fun _ _ _ => False, fun _ _ _ _ => False)
def wE (t : SX) : WE := (wP g F t).1
def wC (t : SX) : WC := (wP g F t).2
def w_seq (A B : WS) : WS := fun en h Q => A en h fun c vs en1 h1 => (c = 0 → B en1 h1 Q) ∧ (c ≠ 0 → Q c vs en1 h1)
def w_if (A : WC) (B C : WS) : WS := fun en h Q => A en h (fun h1 => B en h1 Q) (fun h1 => C en h1 Q)
def w_loop (A : WC) (B P : WS) : WS := fun en h Q => ∃ (I : List Int → XH → Prop) (m : List Int → XH → Nat), I en h ∧ ∀ en h, I en h → m en h < K ∧ A en h (fun h1 => B en h1 fun c vs en1 h2 =>
    (c = 0 ∨ c = 3 → P en1 h2 fun c' _ en2 h3 => c' = 0 ∧ I en2 h3 ∧ m en2 h3 < m en h) ∧ (c = 2 → Q 0 [] en1 h2) ∧ (c ≠ 0 → c ≠ 2 → c ≠ 3 → Q c vs en1 h2)) (fun h1 => Q 0 [] en h1)
def w_do (B : WS) (A : WC) : WS := fun en h Q => ∃ (I : List Int → XH → Prop) (m : List Int → XH → Nat), I en h ∧ ∀ en h, I en h → m en h < K ∧ B en h fun c vs en1 h2 =>
    (c = 0 ∨ c = 3 → A en1 h2 (fun h3 => I en1 h3 ∧ m en1 h3 < m en h) (fun h3 => Q 0 [] en1 h3)) ∧ (c = 2 → Q 0 [] en1 h2) ∧ (c ≠ 0 → c ≠ 2 → c ≠ 3 → Q c vs en1 h2)
def w_sw (A : WE) (B : WS) : WS := fun en h Q => A en h fun x h1 => B (j_hd x :: en) h1 fun c vs en1 h2 => (c = 2 → Q 0 vs en1 h2) ∧ (c ≠ 2 → Q c vs en1 h2)
def w_ty (ty_w : Nat) (v : Int) : Int := match ty_w with
  | 8 => ((Int32.ofInt v).toInt8.toInt32).toInt
  | 9 => (Int32.ofInt v &&& 1).toInt
  | _ => v
def wNS (t : Nat) (a b c : SX) (A B C : WS) : WS := match t with
  | 1 => fun en h Q => Q 0 [] en h
  | 2 => w_seq A B
  | 3 => fun en h Q => wE g F b en h fun x h1 => Q 0 [] (en.set (sx_n a) (j_hd x)) h1
  | 4 => fun en h Q => Q 0 [] (en.set (sx_n a) (j32 (en.getD (sx_n a) 0 + (if sx_n c = 0 then (sx_n b : Int) else -(sx_n b : Int))))) h
  | 5 => fun en h Q => wE g F a en h fun x h1 => wE g F b en h1 fun y h2 => Q 0 [] en (j_up h2 (j_hd x).toNat (sx_n c) (j_hd y))
  | 6 => fun en h Q => wE g F a en h fun x h1 => wE g F b en h1 fun y h2 => Q 0 [] en (j_up h2 (j_hd x).toNat (sx_n c / 16) (j_iop (sx_n c % 16) (h1 (j_hd x).toNat (sx_n c / 16)) (j_hd y)))
  | 7 => match c with
    | .op (.var ty_w) v => fun en h Q => wE g F a en h fun x h1 => wE g F b en h1 fun y h2 => wE g F v en h2 fun z h3 => (0 ≤ j_hd y ∧ j_hd y < j_len g.1 (j_hd x).toNat) ∧ Q 0 [] en (j_up h3 (j_hd x).toNat (j_hd y).toNat (w_ty ty_w (j_hd z)))
    | _ => fun _ _ _ => False
  | 8 => match c with
    | .op (.var op_w) v => fun en h Q => wE g F a en h fun x h1 => wE g F b en h1 fun y h2 => (0 ≤ j_hd y ∧ j_hd y < j_len g.1 (j_hd x).toNat) ∧ wE g F v en h2 fun z h3 => Q 0 [] en (j_up h3 (j_hd x).toNat (j_hd y).toNat (j_iop op_w (h2 (j_hd x).toNat (j_hd y).toNat) (j_hd z)))
    | _ => fun _ _ _ => False
  | 9 => fun en h Q => wE g F a en h fun _ h1 => Q 0 [] en h1
  | 10 => w_if (wC g F a) B (fun en h Q => Q 0 [] en h)
  | 11 => w_if (wC g F a) B C
  | 12 => w_loop K (wC g F a) B C
  | 13 => w_do K B (wC g F a)
  | 14 => fun en h Q => Q 2 [] en h
  | 15 => fun en h Q => Q 3 [] en h
  | 16 => fun en h Q => wE g F a en h fun x h1 => Q 1 x en h1
  | 27 => fun en h Q => wE g F a en h fun x h1 => (j_hd x = 0 ∨ j_hd x = 1) ∧ Q 1 x en h1
  | 17 => fun en h Q => Q 1 [] en h
  | 19 => w_sw (wE g F a) B
  | 20 => A
  | 22 => fun en h Q => Q 0 [] en h
  | 23 => fun en h Q => wE g F a en h fun x h1 => wE g F b en h1 fun y h2 => (j_hd y = 0 ∨ j_hd y = 1) ∧ Q 0 [] en (j_up h2 (j_hd x).toNat (sx_n c) (j_hd y))
  | 28 => w_if (wC g F a) B (fun en h Q => Q 2 [] en h)
  | 25 => fun en h Q => ((sx_l a).any (fun n => decide (en.headD 0 = sx_z n)) = true → B en.tail h fun c vs en1 h1 => c ≠ 0 ∧ Q c vs en1 h1) ∧ ((sx_l a).any (fun n => decide (en.headD 0 = sx_z n)) = false → C en h Q)
  | 26 => fun en h Q => A en.tail h Q
  | _ => fun _ _ _ => False
def wS : SX → WS
  | .op (.var t) (.op a (.op b c)) => wNS g F K t a b c (wS a) (wS b) (wS c)
  | _ => fun _ _ _ => False
end WPD
/-! ===== it is_w right ===== -/
section WPO
variable {xs : Nat → Int} {L K : Nat} {ck : Nat → List Nat} {F : XP} {cW : Nat → Nat → Int} {g : XS × Nat × Nat}
def WkE (g : XS × Nat × Nat) (W : WE) (A : XE) : Prop := ∀ en h Q, W en h Q → ∃ r h', A en (g, h) = some (r, (g, h')) ∧ Q r h'
def WkC (g : XS × Nat × Nat) (W : WC) (A : XE) : Prop := ∀ en h Qt Qf, W en h Qt Qf → ∃ r h', A en (g, h) = some (r, (g, h')) ∧ (j_hd r ≠ 0 → Qt h') ∧ (j_hd r = 0 → Qf h')
def WkB (g : XS × Nat × Nat) (W : WC) (A : XE) : Prop := ∀ en h Qt Qf, W en h Qt Qf → ∃ v h', A en (g, h) = some ([v], (g, h')) ∧ (v = 0 ∨ v = 1) ∧ (v ≠ 0 → Qt h') ∧ (v = 0 → Qf h')
theorem WkB.c {W : WC} {A : XE} (h : WkB g W A) : WkC g W A := fun en hh Qt Qf k => by
  obtain ⟨v, h', e1_w, -, e2_w⟩ := h en hh Qt Qf k
  exact ⟨[v], h', e1_w, e2_w⟩
theorem WkB.e {W : WC} {A : XE} (h : WkB g W A) : WkE g (w_b W) A := fun en hh Q k => by
  obtain ⟨v, h', e1_w, e3_w, e2_w, e4_w⟩ := h en hh _ _ k
  refine ⟨[v], h', e1_w, ?_⟩
  rcases e3_w with rfl | rfl
  · exact e4_w rfl
  · exact e2_w (by decide)
theorem okb_cmp {k : Nat} {A B : WE} {A' B' : XE} (hA : WkE g A A') (hB_w : WkE g B B') : WkB g (w_cmp k A B) (n_cmp (j_cmp k) A' B') := fun en h Qt Qf hw => by
  obtain ⟨x, h1, a1_w, hw⟩ := hA en h _ hw
  obtain ⟨y, h2, b1, hw⟩ := hB_w en h1 _ hw
  have e : n_cmp (j_cmp k) A' B' en (g, h) = some ([j_b (j_cmp k (j_hd x) (j_hd y))], (g, h2)) := by
    unfold n_cmp
    rw [a1_w, Option.bind_some, b1]
    rfl
  refine ⟨_, h2, e, j_b01 _, fun h0 => hw.1 (b_ne h0), fun h0 => hw.2 (b_eq h0)⟩
theorem okb_cmp0 {k : Nat} {A : WE} {A' X : XE} (hA : WkE g A A') (hX : ∀ en st, X en st = (A' en st).bind fun x => some ([j_b (j_cmp k (j_hd x.1) 0)], x.2)) : WkB g (w_cmp0 k A) X := fun en h Qt Qf hw => by
  obtain ⟨x, h1, a1_w, hw⟩ := hA en h _ hw
  refine ⟨j_b (j_cmp k (j_hd x) 0), h1, by rw [hX, a1_w]; rfl, j_b01 _, fun h0 => hw.1 (b_ne h0), fun h0 => hw.2 (b_eq h0)⟩
theorem okb_nz {B : WC} {B' : XE} (hB_w : WkC g B B') : WkB g B (n_nz B') := fun en h Qt Qf hw => by
  obtain ⟨v, h1, b1, b2, b3⟩ := hB_w en h _ _ hw
  refine ⟨j_b (decide (j_hd v ≠ 0)), h1, by unfold n_nz; rw [b1]; rfl, j_b01 _, fun h0 => b2 (of_decide_eq_true (b_ne h0)), fun h0 => b3 (Decidable.of_not_not (of_decide_eq_false (b_eq h0)))⟩
theorem okb_and {A B : WC} {A' B' : XE} (hA : WkC g A A') (hB_w : WkC g B B') : WkB g (w_and A B) (n_ife A' (n_nz B') (fun _ st => some ([0], st))) := fun en h Qt Qf hw => by
  obtain ⟨v, h1, a1_w, a2, a3⟩ := hA en h _ _ hw
  unfold n_ife
  rw [a1_w, Option.bind_some]
  by_cases h0 : j_hd v = 0
  · exact ⟨0, h1, if_pos h0, Or.inl rfl, fun k => absurd rfl k, fun _ => a3 h0⟩
  · obtain ⟨w, h2, b1, b2, b3⟩ := okb_nz hB_w en h1 _ _ (a2 h0)
    exact ⟨w, h2, (if_neg h0).trans b1, b2, b3⟩
theorem okb_or {A B : WC} {A' B' : XE} (hA : WkC g A A') (hB_w : WkC g B B') : WkB g (w_or A B) (n_ife A' (fun _ st => some ([1], st)) (n_nz B')) := fun en h Qt Qf hw => by
  obtain ⟨v, h1, a1_w, a2, a3⟩ := hA en h _ _ hw
  unfold n_ife
  rw [a1_w, Option.bind_some]
  by_cases h0 : j_hd v = 0
  · obtain ⟨w, h2, b1, b2, b3⟩ := okb_nz hB_w en h1 _ _ (a3 h0)
    exact ⟨w, h2, (if_pos h0).trans b1, b2, b3⟩
  · exact ⟨1, h1, if_neg h0, Or.inr rfl, fun _ => a2 h0, fun k => absurd k (by decide)⟩
theorem okb_not {A : WC} {A' X : XE} (hA : WkC g A A') (hX : ∀ en st, X en st = (A' en st).bind fun x => some ([j_b (decide (j_hd x.1 = 0))], x.2)) : WkB g (w_not A) X := fun en h Qt Qf hw => by
  obtain ⟨v, h1, a1_w, a2, a3⟩ := hA en h _ _ hw
  refine ⟨j_b (decide (j_hd v = 0)), h1, by rw [hX, a1_w]; rfl, j_b01 _, fun h0 => a3 (of_decide_eq_true (b_ne h0)), fun h0 => a2 (of_decide_eq_false (b_eq h0))⟩
theorem okc_nz {A : WE} {A' : XE} (hA : WkE g A A') : WkC g (w_nz A) A' := fun en h Qt Qf hw => by
  obtain ⟨r, h', a1_w, a2⟩ := hA en h _ hw
  exact ⟨r, h', a1_w, a2.1, a2.2⟩
theorem oke_ife {A : WC} {B C : WE} {A' B' C'_w : XE} (hA : WkC g A A') (hB_w : WkE g B B') (hC : WkE g C C'_w) : WkE g (fun en h Q => A en h (fun h1 => B en h1 Q) (fun h1 => C en h1 Q)) (n_ife A' B' C'_w) := fun en h Q hw => by
  obtain ⟨r, h1, a1_w, a2, a3⟩ := hA en h _ _ hw
  unfold n_ife
  rw [a1_w, Option.bind_some]
  by_cases h0 : j_hd r = 0
  · obtain ⟨v, h2, b1, b2⟩ := hC en h1 _ (a3 h0)
    exact ⟨v, h2, (if_pos h0).trans b1, b2⟩
  · obtain ⟨v, h2, b1, b2⟩ := hB_w en h1 _ (a2 h0)
    exact ⟨v, h2, (if_neg h0).trans b1, b2⟩
theorem oke_1 {A : WE} {A' X : XE} (hA : WkE g A A') {f : List Int → XH → List Int} (hX : ∀ en st, X en st = (A' en st).bind fun x => some (f x.1 x.2.2, x.2)) : WkE g (fun en h Q => A en h fun x h1 => Q (f x h1) h1) X := fun en h Q hw => by
  obtain ⟨x, h1, a1_w, hw⟩ := hA en h _ hw
  exact ⟨_, h1, by rw [hX, a1_w]; rfl, hw⟩
theorem oke_2 {A B : WE} {A' B' X : XE} (hA : WkE g A A') (hB_w : WkE g B B') {f : List Int → List Int → List Int} (hX : ∀ en st, X en st = (A' en st).bind fun x => (B' en x.2).bind fun y => some (f x.1 y.1, y.2)) : WkE g (fun en h Q => A en h fun x h1 => B en h1 fun y h2 => Q (f x y) h2) X := fun en h Q hw => by
  obtain ⟨x, h1, a1_w, hw⟩ := hA en h _ hw
  obtain ⟨y, h2, b1, hw⟩ := hB_w en h1 _ hw
  exact ⟨_, h2, by rw [hX, a1_w, Option.bind_some, b1]; rfl, hw⟩
theorem wP_ok : ∀ (t : SX), WkE g (wP g F t).1 (evE xs L ck F cW t) ∧ WkC g (wP g F t).2 (evE xs L ck F cW t)
  | .op (.var t) (.op a (.op b c)) => by
    obtain ⟨eA_w, cA_w⟩ := wP_ok a
    obtain ⟨eB, cB_w⟩ := wP_ok b
    obtain ⟨eC_w, cC⟩ := wP_ok c
    have k20 : WkB g (w_cmp (sx_n c) (wP g F a).1 (wP g F b).1) (n_cmp (j_cmp (sx_n c)) (evE xs L ck F cW a) (evE xs L ck F cW b)) := okb_cmp eA_w eB
    have k21 : WkB g (w_cmp0 (sx_n c) (wP g F a).1) (nodeE xs L ck F cW 21 a b c (evE xs L ck F cW a) (evE xs L ck F cW b) (evE xs L ck F cW c)) := okb_cmp0 eA_w (fun _ _ => rfl)
    have k25 := okb_and cA_w cB_w
    have k26 := okb_or cA_w cB_w
    have k27 : WkB g (w_not (wP g F a).2) (nodeE xs L ck F cW 27 a b c (evE xs L ck F cW a) (evE xs L ck F cW b) (evE xs L ck F cW c)) := okb_not cA_w (fun _ _ => rfl)
    have hE : WkE g (wNE g F t a b c (wP g F a) (wP g F b) (wP g F c)) (nodeE xs L ck F cW t a b c (evE xs L ck F cW a) (evE xs L ck F cW b) (evE xs L ck F cW c)) := by
      unfold wNE
      split
      · exact fun en h Q hw => ⟨_, h, rfl, hw⟩
      · exact fun en h Q hw => ⟨_, h, rfl, hw⟩
      · exact oke_1 eA_w (fun _ _ => rfl)
      · intro en h Q hw
        obtain ⟨x, h1, a1_w, r, hr, hw⟩ := eA_w en h _ hw
        refine ⟨[r], h1, ?_, hw⟩
        show (evE xs L ck F cW a en (g, h)).bind _ = _
        rw [a1_w, Option.bind_some]
        show (j_rf g.1 (j_hd x).toNat (sx_n b)).bind _ = _
        rw [hr]
        rfl
      · intro en h Q hw
        obtain ⟨x, h1, a1_w, hw⟩ := eA_w en h _ hw
        obtain ⟨y, h2, b1, hc_w, hb_w, hw⟩ := eB en h1 _ hw
        refine ⟨_, h2, ?_, hw⟩
        show n_aload xs L (sx_n c) _ _ en _ = _
        unfold n_aload
        rw [a1_w, Option.bind_some, b1, Option.bind_some, hc_w]
        exact if_pos hb_w
      · intro en h Q hw
        obtain ⟨x, h1, a1_w, hc_w, hw⟩ := eA_w en h _ hw
        refine ⟨_, h1, ?_, hw⟩
        show n_alen L (sx_n c) _ en _ = _
        unfold n_alen
        rw [a1_w, Option.bind_some, hc_w]
        rfl
      · exact oke_2 eA_w eB (fun _ _ => rfl)
      · exact oke_2 eA_w eB (fun _ _ => rfl)
      · exact oke_2 eA_w eB (fun _ _ => rfl)
      · intro en h Q hw
        obtain ⟨x, h1, a1_w, hw⟩ := eA_w en h _ hw
        obtain ⟨y, h2, b1, hb_w, hw⟩ := eB en h1 _ hw
        refine ⟨_, h2, ?_, hw⟩
        show (evE xs L ck F cW a en (g, h)).bind _ = _
        rw [a1_w, Option.bind_some]
        show (evE xs L ck F cW b en (g, h1)).bind _ = _
        rw [b1, Option.bind_some]
        exact if_neg hb_w
      · exact oke_1 eA_w (fun _ _ => rfl)
      · exact k20.e
      · exact k21.e
      · exact k20.e
      · exact k20.e
      · exact eA_w
      · exact k25.e
      · exact k26.e
      · exact k27.e
      · exact oke_ife cA_w eB eC_w
      · exact oke_2 eA_w eB (fun _ _ => rfl)
      · exact fun en h Q hw => ⟨_, h, rfl, hw⟩
      · intro en h Q hw
        obtain ⟨av, h1, a1_w, r, h2, hr, hw⟩ := eA_w en h _ hw
        refine ⟨r, h2, ?_, hw⟩
        show n_call F (sx_n b) _ en _ = _
        unfold n_call
        rw [a1_w, Option.bind_some, hr]
        rfl
      · exact fun _ _ _ hw => hw.elim
    refine ⟨hE, ?_⟩
    show WkC g (wNC g F t a b c (wP g F a) (wP g F b) (wP g F c)) (nodeE xs L ck F cW t a b c (evE xs L ck F cW a) (evE xs L ck F cW b) (evE xs L ck F cW c))
    unfold wNC
    split
    · exact k20.c
    · exact k21.c
    · exact k20.c
    · exact k20.c
    · exact cA_w
    · exact k25.c
    · exact k26.c
    · exact k27.c
    · exact okc_nz hE
  | .var _ => ⟨fun _ _ _ hw => hw.elim, fun _ _ _ _ hw => hw.elim⟩
  | .op (.op _ _) _ => ⟨fun _ _ _ hw => hw.elim, fun _ _ _ _ hw => hw.elim⟩
  | .op (.var _) (.var _) => ⟨fun _ _ _ hw => hw.elim, fun _ _ _ _ hw => hw.elim⟩
  | .op (.var _) (.op _ (.var _)) => ⟨fun _ _ _ hw => hw.elim, fun _ _ _ _ hw => hw.elim⟩
def WkS (g : XS × Nat × Nat) (W : WS) (A : XR) : Prop := ∀ en h Q, W en h Q → ∃ c vs en' h', A en (g, h) = some (c, vs, en', (g, h')) ∧ Q c vs en' h'
theorem oks_c (k : Nat) : WkS g (fun en h Q => Q k [] en h) (fun en st => some (k, [], en, st)) := fun en h Q hw => ⟨k, [], en, h, rfl, hw⟩
theorem oks_seq {A B : WS} {A' B' : XR} (hA : WkS g A A') (hB_w : WkS g B B') : WkS g (w_seq A B) (s_seq A' B') := fun en h Q hw => by
  obtain ⟨c, vs, en1, h1, a1_w, a2, a3⟩ := hA en h _ hw
  unfold s_seq
  rw [a1_w, Option.bind_some]
  dsimp only
  by_cases h0 : c = 0
  · rw [if_pos h0]
    exact hB_w en1 h1 Q (a2 h0)
  · rw [if_neg h0]
    exact ⟨c, vs, en1, h1, rfl, a3 h0⟩
theorem oks_if {A : WC} {B C : WS} {A' : XE} {B' C'_w : XR} (hA : WkC g A A') (hB_w : WkS g B B') (hC : WkS g C C'_w) : WkS g (w_if A B C) (s_if A' B' C'_w) := fun en h Q hw => by
  obtain ⟨r, h1, a1_w, a2, a3⟩ := hA en h _ _ hw
  unfold s_if
  rw [a1_w, Option.bind_some]
  dsimp only
  by_cases h0 : j_hd r = 0
  · rw [if_pos h0]
    exact hC en h1 Q (a3 h0)
  · rw [if_neg h0]
    exact hB_w en h1 Q (a2 h0)
theorem oks_loop {A : WC} {B P : WS} {A' : XE} {B' P'_w : XR} (hA : WkC g A A') (hB_w : WkS g B B') (hP : WkS g P P'_w) : WkS g (w_loop K A B P) (s_loop A' B' P'_w K) := fun en h Q hw => by
  obtain ⟨I, m, hI, hs⟩ := hw
  have key_w : ∀ k en h, I en h → m en h < k → ∃ c vs en' h', s_loop A' B' P'_w k en (g, h) = some (c, vs, en', (g, h')) ∧ Q c vs en' h' := by
    intro k
    induction k with
    | zero => exact fun en h _ hk => absurd hk (by omega)
    | succ k ih_w =>
      intro en h hI hk
      obtain ⟨-, hw⟩ := hs en h hI
      obtain ⟨r, h1, a1_w, a2, a3⟩ := hA en h _ _ hw
      unfold s_loop
      rw [a1_w, Option.bind_some]
      dsimp only
      by_cases h0 : j_hd r = 0
      · rw [if_pos h0]
        exact ⟨0, [], en, h1, rfl, a3 h0⟩
      · rw [if_neg h0]
        obtain ⟨c, vs, en1, h2, b1, b2, b3, b4⟩ := hB_w en h1 _ (a2 h0)
        rw [b1, Option.bind_some]
        dsimp only
        by_cases c0 : c = 0 ∨ c = 3
        · rw [if_pos c0]
          obtain ⟨c', vs', en2, h3, p1_w, p2_w, p3_w, p4_w⟩ := hP en1 h2 _ (b2 c0)
          rw [p1_w, Option.bind_some]
          dsimp only
          rw [if_pos p2_w]
          exact ih_w en2 h3 p3_w (by omega)
        · rw [if_neg c0]
          by_cases c2 : c = 2
          · rw [if_pos c2]
            exact ⟨0, [], en1, h2, rfl, b3 c2⟩
          · rw [if_neg c2]
            exact ⟨c, vs, en1, h2, rfl, b4 (fun e => c0 (Or.inl e)) c2 (fun e => c0 (Or.inr e))⟩
  exact key_w K en h hI (hs en h hI).1
theorem oks_do {B : WS} {A : WC} {A' : XE} {B' : XR} (hA : WkC g A A') (hB_w : WkS g B B') : WkS g (w_do K B A) (s_do B' A' K) := fun en h Q hw => by
  obtain ⟨I, m, hI, hs⟩ := hw
  have key_w : ∀ k en h, I en h → m en h < k → ∃ c vs en' h', s_do B' A' k en (g, h) = some (c, vs, en', (g, h')) ∧ Q c vs en' h' := by
    intro k
    induction k with
    | zero => exact fun en h _ hk => absurd hk (by omega)
    | succ k ih_w =>
      intro en h hI hk
      obtain ⟨-, hw⟩ := hs en h hI
      obtain ⟨c, vs, en1, h2, b1, b2, b3, b4⟩ := hB_w en h _ hw
      unfold s_do
      rw [b1, Option.bind_some]
      dsimp only
      by_cases c0 : c = 0 ∨ c = 3
      · rw [if_pos c0]
        obtain ⟨r, h3, a1_w, a2, a3⟩ := hA en1 h2 _ _ (b2 c0)
        rw [a1_w, Option.bind_some]
        dsimp only
        by_cases h0 : j_hd r = 0
        · rw [if_pos h0]
          exact ⟨0, [], en1, h3, rfl, a3 h0⟩
        · rw [if_neg h0]
          exact ih_w en1 h3 (a2 h0).1 (by have := (a2 h0).2; omega)
      · rw [if_neg c0]
        by_cases c2 : c = 2
        · rw [if_pos c2]
          exact ⟨0, [], en1, h2, rfl, b3 c2⟩
        · rw [if_neg c2]
          exact ⟨c, vs, en1, h2, rfl, b4 (fun e => c0 (Or.inl e)) c2 (fun e => c0 (Or.inr e))⟩
  exact key_w K en h hI (hs en h hI).1
theorem wS_ok : ∀ (t : SX), WkS g (wS g F K t) (evS xs L ck F K cW t)
  | .op (.var t) (.op a (.op b c)) => by
    have sA := wS_ok a
    have sB := wS_ok b
    have sC_w := wS_ok c
    have e := fun t => (wP_ok (xs := xs) (L := L) (ck := ck) (F := F) (cW := cW) (g := g) t).1
    have k := fun t => (wP_ok (xs := xs) (L := L) (ck := ck) (F := F) (cW := cW) (g := g) t).2
    show WkS g (wNS g F K t a b c (wS g F K a) (wS g F K b) (wS g F K c)) (nodeS xs L ck F K cW t a b c (evS xs L ck F K cW a) (evS xs L ck F K cW b) (evS xs L ck F K cW c))
    unfold wNS
    split
    · exact fun en h Q hw => ⟨_, _, _, _, rfl, hw⟩
    · exact oks_seq sA sB
    · intro en h Q hw
      obtain ⟨x, h1, a1_w, hw⟩ := e b en h _ hw
      exact ⟨_, _, _, h1, by show (evE xs L ck F cW b en (g, h)).bind _ = _; rw [a1_w]; rfl, hw⟩
    · exact fun en h Q hw => ⟨_, _, _, _, rfl, hw⟩
    · intro en h Q hw
      obtain ⟨x, h1, a1_w, hw⟩ := e a en h _ hw
      obtain ⟨y, h2, b1, hw⟩ := e b en h1 _ hw
      exact ⟨_, _, _, _, by show s_putf _ _ _ en _ = _; unfold s_putf; rw [a1_w, Option.bind_some, b1]; rfl, hw⟩
    · intro en h Q hw
      obtain ⟨x, h1, a1_w, hw⟩ := e a en h _ hw
      obtain ⟨y, h2, b1, hw⟩ := e b en h1 _ hw
      exact ⟨_, _, _, _, by show s_putfC _ _ _ _ en _ = _; unfold s_putfC; rw [a1_w, Option.bind_some, b1]; rfl, hw⟩
    · split
      · rename_i ty_w v
        intro en h Q hw
        obtain ⟨x, h1, a1_w, hw⟩ := e a en h _ hw
        obtain ⟨y, h2, b1, hw⟩ := e b en h1 _ hw
        obtain ⟨z, h3, c1_w, hb_w, hw⟩ := e v en h2 _ hw
        refine ⟨_, _, _, _, ?_, hw⟩
        show s_ast ty_w _ _ _ en _ = _
        unfold s_ast
        rw [a1_w, Option.bind_some, b1, Option.bind_some, c1_w, Option.bind_some]
        exact if_pos hb_w
      · exact fun _ _ _ hw => hw.elim
    · split
      · rename_i op_w v
        intro en h Q hw
        obtain ⟨x, h1, a1_w, hw⟩ := e a en h _ hw
        obtain ⟨y, h2, b1, hb_w, hw⟩ := e b en h1 _ hw
        obtain ⟨z, h3, c1_w, hw⟩ := e v en h2 _ hw
        refine ⟨_, _, _, _, ?_, hw⟩
        show s_astC op_w _ _ _ en _ = _
        unfold s_astC
        rw [a1_w, Option.bind_some, b1, Option.bind_some]
        dsimp only
        rw [if_pos hb_w, c1_w, Option.bind_some]
        exact if_pos hb_w.2
      · exact fun _ _ _ hw => hw.elim
    · intro en h Q hw
      obtain ⟨x, h1, a1_w, hw⟩ := e a en h _ hw
      exact ⟨_, _, _, h1, by show (evE xs L ck F cW a en (g, h)).bind _ = _; rw [a1_w]; rfl, hw⟩
    · exact oks_if (k a) sB (oks_c _)
    · exact oks_if (k a) sB sC_w
    · exact oks_loop (k a) sB sC_w
    · exact oks_do (k a) sB
    · exact fun en h Q hw => ⟨_, _, _, _, rfl, hw⟩
    · exact fun en h Q hw => ⟨_, _, _, _, rfl, hw⟩
    · intro en h Q hw
      obtain ⟨x, h1, a1_w, hw⟩ := e a en h _ hw
      exact ⟨_, _, _, h1, by show (evE xs L ck F cW a en (g, h)).bind _ = _; rw [a1_w]; rfl, hw⟩
    · intro en h Q hw
      obtain ⟨x, h1, a1_w, hb_w, hw⟩ := e a en h _ hw
      refine ⟨_, _, _, h1, ?_, hw⟩
      show (evE xs L ck F cW a en (g, h)).bind _ = _
      rw [a1_w, Option.bind_some]
      exact if_pos hb_w
    · exact fun en h Q hw => ⟨_, _, _, _, rfl, hw⟩
    · intro en h Q hw
      obtain ⟨x, h1, a1_w, hw⟩ := e a en h _ hw
      obtain ⟨c, vs, en1, h2, b1, b2, b3⟩ := sB _ h1 _ hw
      show ∃ c vs en' h', s_sw _ _ en (g, h) = _ ∧ _
      unfold s_sw
      rw [a1_w, Option.bind_some]
      dsimp only
      rw [b1, Option.bind_some]
      dsimp only
      by_cases c2 : c = 2
      · rw [if_pos c2]
        exact ⟨0, vs, en1, h2, rfl, b2 c2⟩
      · rw [if_neg c2]
        exact ⟨c, vs, en1, h2, rfl, b3 c2⟩
    · exact sA
    · exact fun en h Q hw => ⟨_, _, _, _, rfl, hw⟩
    · intro en h Q hw
      obtain ⟨x, h1, a1_w, hw⟩ := e a en h _ hw
      obtain ⟨y, h2, b1, hb_w, hw⟩ := e b en h1 _ hw
      refine ⟨_, _, _, _, ?_, hw⟩
      show (evE xs L ck F cW a en (g, h)).bind _ = _
      rw [a1_w, Option.bind_some]
      show (evE xs L ck F cW b en (g, h1)).bind _ = _
      rw [b1, Option.bind_some]
      exact if_pos hb_w
    · exact oks_if (k a) sB (oks_c _)
    · intro en h Q hw
      show ∃ c' vs en' h', (if (sx_l a).any (fun n => decide (en.headD 0 = sx_z n)) then (evS xs L ck F K cW b en.tail (g, h)).bind fun r => if r.1 = 0 then none else some r else evS xs L ck F K cW c en (g, h)) = _ ∧ _
      cases hl : (sx_l a).any (fun n => decide (en.headD 0 = sx_z n)) with
      | true =>
        obtain ⟨c', vs, en1, h1, b1, b2, b3⟩ := sB _ h _ (hw.1 hl)
        refine ⟨c', vs, en1, h1, ?_, b3⟩
        rw [if_pos rfl, b1, Option.bind_some]
        exact if_neg b2
      | false =>
        rw [if_neg (by decide)]
        exact sC_w en h Q (hw.2 hl)
    · intro en h Q hw
      exact sA en.tail h Q hw
    · exact fun _ _ _ hw => hw.elim
  | .var _ => fun _ _ _ hw => hw.elim
  | .op (.op _ _) _ => fun _ _ _ hw => hw.elim
  | .op (.var _) (.var _) => fun _ _ _ hw => hw.elim
  | .op (.var _) (.op _ (.var _)) => fun _ _ _ hw => hw.elim
/-- a method_w by its body_w -/
theorem wF_ok {M : Nat → XM} {n f : Nat} {av : List Int} {h : XH} {Q : List Int → XH → Prop} (hw : wS g (evF xs L ck K cW M n) K (M f).2.2.2.2 (j_pad 0 (M f).2.1 (j_lay (M f).2.2.1 av)) h (fun c vs _ h' => c = 1 ∧ Q vs h')) : ∃ r h', evF xs L ck K cW M (n + 1) f av (g, h) = some (1, r, (g, h')) ∧ Q r h' := by
  obtain ⟨c, vs, en, h', e1_w, rfl, e2_w⟩ := wS_ok (xs := xs) (L := L) (ck := ck) (cW := cW) _ _ _ _ hw
  refine ⟨vs, h', ?_, e2_w⟩
  rw [evF_s, e1_w, Option.bind_some]
  exact if_pos ⟨Or.inl rfl, Nat.le_refl _, Nat.le_refl _, List.isPrefixOf_iff_prefix.mpr (List.prefix_refl _)⟩
end WPO
end
section
/-! ===== the wp_w calculus as_w equations (written_w by wip/tools/wtab.py) ===== -/
section WEQ
variable {g : XS × Nat × Nat} {g0 : Nat × Nat} {F : XP} {K : Nat} {a b c : SX} {en : List Int} {h : XH} {Q : WQ} {Qt Qf : XH → Prop} {R : WR}
theorem we_1 : wE g F (sx 1 a b c) en h Q = Q [sx_c a b c] h := id rfl
theorem we_3 : wE g F (sx 3 a b c) en h Q = Q [en.getD (sx_n a) 0] h := id rfl
theorem we_7 : wE g F (sx 7 a b c) en h Q = (wE g F a en h fun x h1 => wE g F b en h1 fun y h2 => sx_n c = 0 ∧ (0 ≤ j_hd y ∧ j_hd y < j_len g.1 (j_hd x).toNat) ∧ Q [h2 (j_hd x).toNat (j_hd y).toNat] h2) := id rfl
theorem we_10 : wE g F (sx 10 a b c) en h Q = (wE g F a en h fun x h1 => sx_n c = 0 ∧ Q [j_len g.1 (j_hd x).toNat] h1) := id rfl
theorem we_14 : wE g F (sx 14 a b c) en h Q = (wE g F a en h fun x h1 => wE g F b en h1 fun y h2 => Q [j_iop (sx_n c) (j_hd x) (j_hd y)] h2) := id rfl
theorem we_15 : wE g F (sx 15 a b c) en h Q = (wE g F a en h fun x h1 => wE g F b en h1 fun y h2 => Q [j_lop (sx_n c) (j_hd x) (j_hd y)] h2) := id rfl
theorem we_16 : wE g F (sx 16 a b c) en h Q = (wE g F a en h fun x h1 => wE g F b en h1 fun y h2 => Q [j_lsh (sx_n c) (j_hd x) (j_hd y)] h2) := id rfl
theorem we_17 : wE g F (sx 17 a b c) en h Q = (wE g F a en h fun x h1 => wE g F b en h1 fun y h2 => j_hd y ≠ 0 ∧ Q [j_div (sx_n c) (j_hd x) (j_hd y)] h2) := id rfl
theorem we_18 : wE g F (sx 18 a b c) en h Q = (wE g F a en h fun x h1 => Q [j_un (sx_n c) (j_hd x)] h1) := id rfl
theorem we_20 : wE g F (sx 20 a b c) en h Q = (wE g F a en h fun x h1 => wE g F b en h1 fun y h2 => (j_cmp (sx_n c) (j_hd x) (j_hd y) = true → Q [1] h2) ∧ (j_cmp (sx_n c) (j_hd x) (j_hd y) = false → Q [0] h2)) := id rfl
theorem we_22 : wE g F (sx 22 a b c) en h Q = (wE g F a en h fun x h1 => wE g F b en h1 fun y h2 => (j_cmp (sx_n c) (j_hd x) (j_hd y) = true → Q [1] h2) ∧ (j_cmp (sx_n c) (j_hd x) (j_hd y) = false → Q [0] h2)) := id rfl
theorem we_21 : wE g F (sx 21 a b c) en h Q = (wE g F a en h fun x h1 => (j_cmp (sx_n c) (j_hd x) 0 = true → Q [1] h1) ∧ (j_cmp (sx_n c) (j_hd x) 0 = false → Q [0] h1)) := id rfl
theorem we_24 : wE g F (sx 24 a b c) en h Q = wE g F a en h Q := id rfl
theorem we_25 : wE g F (sx 25 a b c) en h Q = wC g F a en h (fun h1 => wC g F b en h1 (fun h2 => Q [1] h2) (fun h2 => Q [0] h2)) (fun h1 => Q [0] h1) := id rfl
theorem we_26 : wE g F (sx 26 a b c) en h Q = wC g F a en h (fun h1 => Q [1] h1) (fun h1 => wC g F b en h1 (fun h2 => Q [1] h2) (fun h2 => Q [0] h2)) := id rfl
theorem we_27 : wE g F (sx 27 a b c) en h Q = wC g F a en h (fun h1 => Q [0] h1) (fun h1 => Q [1] h1) := id rfl
theorem we_28 : wE g F (sx 28 a b c) en h Q = wC g F a en h (fun h1 => wE g F b en h1 Q) (fun h1 => wE g F c en h1 Q) := id rfl
theorem we_30 : wE g F (sx 30 a b c) en h Q = (wE g F a en h fun x h1 => wE g F b en h1 fun y h2 => Q (x ++ y) h2) := id rfl
theorem we_31 : wE g F (sx 31 a b c) en h Q = Q [] h := id rfl
theorem we_32 : wE g F (sx 32 a b c) en h Q = (wE g F a en h fun av h1 => ∃ r h2, F (sx_n b) av (g, h1) = some (1, r, (g, h2)) ∧ Q r h2) := id rfl
theorem wc_20 : wC g F (sx 20 a b c) en h Qt Qf = (wE g F a en h fun x h1 => wE g F b en h1 fun y h2 => (j_cmp (sx_n c) (j_hd x) (j_hd y) = true → Qt h2) ∧ (j_cmp (sx_n c) (j_hd x) (j_hd y) = false → Qf h2)) := id rfl
theorem wc_22 : wC g F (sx 22 a b c) en h Qt Qf = (wE g F a en h fun x h1 => wE g F b en h1 fun y h2 => (j_cmp (sx_n c) (j_hd x) (j_hd y) = true → Qt h2) ∧ (j_cmp (sx_n c) (j_hd x) (j_hd y) = false → Qf h2)) := id rfl
theorem wc_21 : wC g F (sx 21 a b c) en h Qt Qf = (wE g F a en h fun x h1 => (j_cmp (sx_n c) (j_hd x) 0 = true → Qt h1) ∧ (j_cmp (sx_n c) (j_hd x) 0 = false → Qf h1)) := id rfl
theorem wc_24 : wC g F (sx 24 a b c) en h Qt Qf = wC g F a en h Qt Qf := id rfl
theorem wc_25 : wC g F (sx 25 a b c) en h Qt Qf = wC g F a en h (fun h1 => wC g F b en h1 Qt Qf) Qf := id rfl
theorem wc_26 : wC g F (sx 26 a b c) en h Qt Qf = wC g F a en h Qt (fun h1 => wC g F b en h1 Qt Qf) := id rfl
theorem wc_27 : wC g F (sx 27 a b c) en h Qt Qf = wC g F a en h Qf Qt := id rfl
theorem wc_3 : wC g F (sx 3 a b c) en h Qt Qf = (wE g F (sx 3 a b c) en h fun x h1 => (j_hd x ≠ 0 → Qt h1) ∧ (j_hd x = 0 → Qf h1)) := id rfl
theorem wc_4 : wC g F (sx 4 a b c) en h Qt Qf = (wE g F (sx 4 a b c) en h fun x h1 => (j_hd x ≠ 0 → Qt h1) ∧ (j_hd x = 0 → Qf h1)) := id rfl
theorem wc_7 : wC g F (sx 7 a b c) en h Qt Qf = (wE g F (sx 7 a b c) en h fun x h1 => (j_hd x ≠ 0 → Qt h1) ∧ (j_hd x = 0 → Qf h1)) := id rfl
theorem wc_28 : wC g F (sx 28 a b c) en h Qt Qf = (wE g F (sx 28 a b c) en h fun x h1 => (j_hd x ≠ 0 → Qt h1) ∧ (j_hd x = 0 → Qf h1)) := id rfl
theorem wc_32 : wC g F (sx 32 a b c) en h Qt Qf = (wE g F (sx 32 a b c) en h fun x h1 => (j_hd x ≠ 0 → Qt h1) ∧ (j_hd x = 0 → Qf h1)) := id rfl
theorem ws_1 : wS g F K (sx 1 a b c) en h R = R 0 [] en h := id rfl
theorem ws_2 : wS g F K (sx 2 a b c) en h R = wS g F K a en h (fun k vs en1 h1 => (k = 0 → wS g F K b en1 h1 R) ∧ (k ≠ 0 → R k vs en1 h1)) := id rfl
theorem ws_3 : wS g F K (sx 3 a b c) en h R = (wE g F b en h fun x h1 => R 0 [] (en.set (sx_n a) (j_hd x)) h1) := id rfl
theorem ws_4 : wS g F K (sx 4 a b c) en h R = R 0 [] (en.set (sx_n a) (j32 (en.getD (sx_n a) 0 + (if sx_n c = 0 then (sx_n b : Int) else -(sx_n b : Int))))) h := id rfl
theorem ws_9 : wS g F K (sx 9 a b c) en h R = (wE g F a en h fun _ h1 => R 0 [] en h1) := id rfl
theorem ws_10 : wS g F K (sx 10 a b c) en h R = wC g F a en h (fun h1 => wS g F K b en h1 R) (fun h1 => R 0 [] en h1) := id rfl
theorem ws_11 : wS g F K (sx 11 a b c) en h R = wC g F a en h (fun h1 => wS g F K b en h1 R) (fun h1 => wS g F K c en h1 R) := id rfl
theorem ws_14 : wS g F K (sx 14 a b c) en h R = R 2 [] en h := id rfl
theorem ws_15 : wS g F K (sx 15 a b c) en h R = R 3 [] en h := id rfl
theorem ws_16 : wS g F K (sx 16 a b c) en h R = (wE g F a en h fun x h1 => R 1 x en h1) := id rfl
theorem ws_27 : wS g F K (sx 27 a b c) en h R = (wE g F a en h fun x h1 => (j_hd x = 0 ∨ j_hd x = 1) ∧ R 1 x en h1) := id rfl
theorem ws_17 : wS g F K (sx 17 a b c) en h R = R 1 [] en h := id rfl
theorem ws_20 : wS g F K (sx 20 a b c) en h R = wS g F K a en h R := id rfl
theorem ws_28 : wS g F K (sx 28 a b c) en h R = wC g F a en h (fun h1 => wS g F K b en h1 R) (fun h1 => R 2 [] en h1) := id rfl
theorem ws_7 {ty_w : Nat} {v : SX} : wS g F K (sx 7 a b (so ty_w v)) en h R = (wE g F a en h fun x h1 => wE g F b en h1 fun y h2 => wE g F v en h2 fun z h3 => (0 ≤ j_hd y ∧ j_hd y < j_len g.1 (j_hd x).toNat) ∧ R 0 [] en (j_up h3 (j_hd x).toNat (j_hd y).toNat (w_ty ty_w (j_hd z)))) := id rfl
theorem ws_8 {op_w : Nat} {v : SX} : wS g F K (sx 8 a b (so op_w v)) en h R = (wE g F a en h fun x h1 => wE g F b en h1 fun y h2 => (0 ≤ j_hd y ∧ j_hd y < j_len g.1 (j_hd x).toNat) ∧ wE g F v en h2 fun z h3 => R 0 [] en (j_up h3 (j_hd x).toNat (j_hd y).toNat (j_iop op_w (h2 (j_hd x).toNat (j_hd y).toNat) (j_hd z)))) := id rfl
/- the reference_w by itself_w -/
theorem wf_4 {k : Nat} : wE g F (sx 4 (sx 3 z0 z0 z0) (sv k) c) (182 :: en) h Q = Q [h 182 k] h := id rfl
theorem wf_40 : wE g F (sx 4 (sx 3 z0 z0 z0) z0 c) (182 :: en) h Q = Q [h 182 0] h := id rfl
theorem wf_5 {k : Nat} : wS g F K (sx 5 (sx 3 z0 z0 z0) b (sv k)) (182 :: en) h R = (wE g F b (182 :: en) h fun y h2 => R 0 [] (182 :: en) (j_up h2 182 k (j_hd y))) := id rfl
theorem wf_50 : wS g F K (sx 5 (sx 3 z0 z0 z0) b z0) (182 :: en) h R = (wE g F b (182 :: en) h fun y h2 => R 0 [] (182 :: en) (j_up h2 182 0 (j_hd y))) := id rfl
theorem wf_6 {k : Nat} : wS g F K (sx 6 (sx 3 z0 z0 z0) b (sv k)) (182 :: en) h R = (wE g F b (182 :: en) h fun y h2 => R 0 [] (182 :: en) (j_up h2 182 (k / 16) (j_iop (k % 16) (h 182 (k / 16)) (j_hd y)))) := id rfl
theorem fr_1 : j_rf a_g3 (182 : Int).toNat 1 = some 183 := by decide +kernel
theorem fl_183 : j_len a_g3 (183 : Int).toNat = 1000 := by decide +kernel
theorem wa_1 : wE (a_g3, g0) F (sx 5 (sx 3 z0 z0 z0) (sv 1) c) (182 :: en) h Q = Q [183] h := propext ⟨fun ⟨r, h1, h2⟩ => (Option.some.inj (fr_1.symm.trans h1)) ▸ h2, fun h1 => ⟨183, fr_1, h1⟩⟩
theorem wl_1 : wE (a_g3, g0) F (sx 7 (sx 5 (sx 3 z0 z0 z0) (sv 1) z0) b z0) (182 :: en) h Q = (wE (a_g3, g0) F b (182 :: en) h fun y h2 => (0 ≤ j_hd y ∧ j_hd y < 1000) ∧ Q [h2 183 (j_hd y).toNat] h2) := by
  rw [we_7, wa_1]
  have e : ∀ y : List Int, ((0 ≤ j_hd y ∧ j_hd y < j_len a_g3 (183 : Int).toNat)) = (0 ≤ j_hd y ∧ j_hd y < 1000) := fun y => by rw [fl_183]
  show (wE (a_g3, g0) F b (182 :: en) h fun y h2 => (0 : Nat) = 0 ∧ (0 ≤ j_hd y ∧ j_hd y < j_len a_g3 (183 : Int).toNat) ∧ Q [h2 183 (j_hd y).toNat] h2) = _
  simp only [e, true_and]
theorem wt_1 {ty_w : Nat} {v : SX} : wS (a_g3, g0) F K (sx 7 (sx 5 (sx 3 z0 z0 z0) (sv 1) z0) b (so ty_w v)) (182 :: en) h R = (wE (a_g3, g0) F b (182 :: en) h fun y h2 => wE (a_g3, g0) F v (182 :: en) h2 fun z h3 => (0 ≤ j_hd y ∧ j_hd y < 1000) ∧ R 0 [] (182 :: en) (j_up h3 183 (j_hd y).toNat (w_ty ty_w (j_hd z)))) := by
  rw [ws_7, wa_1]
  have e : ∀ y : List Int, ((0 ≤ j_hd y ∧ j_hd y < j_len a_g3 (183 : Int).toNat)) = (0 ≤ j_hd y ∧ j_hd y < 1000) := fun y => by rw [fl_183]
  show (wE (a_g3, g0) F b (182 :: en) h fun y h2 => wE (a_g3, g0) F v (182 :: en) h2 fun z h3 => (0 ≤ j_hd y ∧ j_hd y < j_len a_g3 (183 : Int).toNat) ∧ R 0 [] (182 :: en) (j_up h3 183 (j_hd y).toNat (w_ty ty_w (j_hd z)))) = _
  simp only [e]
theorem wu_1 {op_w : Nat} {v : SX} : wS (a_g3, g0) F K (sx 8 (sx 5 (sx 3 z0 z0 z0) (sv 1) z0) b (so op_w v)) (182 :: en) h R = (wE (a_g3, g0) F b (182 :: en) h fun y h2 => (0 ≤ j_hd y ∧ j_hd y < 1000) ∧ wE (a_g3, g0) F v (182 :: en) h2 fun z h3 => R 0 [] (182 :: en) (j_up h3 183 (j_hd y).toNat (j_iop op_w (h2 183 (j_hd y).toNat) (j_hd z)))) := by
  rw [ws_8, wa_1]
  have e : ∀ y : List Int, ((0 ≤ j_hd y ∧ j_hd y < j_len a_g3 (183 : Int).toNat)) = (0 ≤ j_hd y ∧ j_hd y < 1000) := fun y => by rw [fl_183]
  show (wE (a_g3, g0) F b (182 :: en) h fun y h2 => (0 ≤ j_hd y ∧ j_hd y < j_len a_g3 (183 : Int).toNat) ∧ wE (a_g3, g0) F v (182 :: en) h2 fun z h3 => R 0 [] (182 :: en) (j_up h3 183 (j_hd y).toNat (j_iop op_w (h2 183 (j_hd y).toNat) (j_hd z)))) = _
  simp only [e]
theorem fr_4 : j_rf a_g3 (182 : Int).toNat 4 = some 184 := by decide +kernel
theorem fl_184 : j_len a_g3 (184 : Int).toNat = 1002 := by decide +kernel
theorem wa_4 : wE (a_g3, g0) F (sx 5 (sx 3 z0 z0 z0) (sv 4) c) (182 :: en) h Q = Q [184] h := propext ⟨fun ⟨r, h1, h2⟩ => (Option.some.inj (fr_4.symm.trans h1)) ▸ h2, fun h1 => ⟨184, fr_4, h1⟩⟩
theorem wl_4 : wE (a_g3, g0) F (sx 7 (sx 5 (sx 3 z0 z0 z0) (sv 4) z0) b z0) (182 :: en) h Q = (wE (a_g3, g0) F b (182 :: en) h fun y h2 => (0 ≤ j_hd y ∧ j_hd y < 1002) ∧ Q [h2 184 (j_hd y).toNat] h2) := by
  rw [we_7, wa_4]
  have e : ∀ y : List Int, ((0 ≤ j_hd y ∧ j_hd y < j_len a_g3 (184 : Int).toNat)) = (0 ≤ j_hd y ∧ j_hd y < 1002) := fun y => by rw [fl_184]
  show (wE (a_g3, g0) F b (182 :: en) h fun y h2 => (0 : Nat) = 0 ∧ (0 ≤ j_hd y ∧ j_hd y < j_len a_g3 (184 : Int).toNat) ∧ Q [h2 184 (j_hd y).toNat] h2) = _
  simp only [e, true_and]
theorem wt_4 {ty_w : Nat} {v : SX} : wS (a_g3, g0) F K (sx 7 (sx 5 (sx 3 z0 z0 z0) (sv 4) z0) b (so ty_w v)) (182 :: en) h R = (wE (a_g3, g0) F b (182 :: en) h fun y h2 => wE (a_g3, g0) F v (182 :: en) h2 fun z h3 => (0 ≤ j_hd y ∧ j_hd y < 1002) ∧ R 0 [] (182 :: en) (j_up h3 184 (j_hd y).toNat (w_ty ty_w (j_hd z)))) := by
  rw [ws_7, wa_4]
  have e : ∀ y : List Int, ((0 ≤ j_hd y ∧ j_hd y < j_len a_g3 (184 : Int).toNat)) = (0 ≤ j_hd y ∧ j_hd y < 1002) := fun y => by rw [fl_184]
  show (wE (a_g3, g0) F b (182 :: en) h fun y h2 => wE (a_g3, g0) F v (182 :: en) h2 fun z h3 => (0 ≤ j_hd y ∧ j_hd y < j_len a_g3 (184 : Int).toNat) ∧ R 0 [] (182 :: en) (j_up h3 184 (j_hd y).toNat (w_ty ty_w (j_hd z)))) = _
  simp only [e]
theorem wu_4 {op_w : Nat} {v : SX} : wS (a_g3, g0) F K (sx 8 (sx 5 (sx 3 z0 z0 z0) (sv 4) z0) b (so op_w v)) (182 :: en) h R = (wE (a_g3, g0) F b (182 :: en) h fun y h2 => (0 ≤ j_hd y ∧ j_hd y < 1002) ∧ wE (a_g3, g0) F v (182 :: en) h2 fun z h3 => R 0 [] (182 :: en) (j_up h3 184 (j_hd y).toNat (j_iop op_w (h2 184 (j_hd y).toNat) (j_hd z)))) := by
  rw [ws_8, wa_4]
  have e : ∀ y : List Int, ((0 ≤ j_hd y ∧ j_hd y < j_len a_g3 (184 : Int).toNat)) = (0 ≤ j_hd y ∧ j_hd y < 1002) := fun y => by rw [fl_184]
  show (wE (a_g3, g0) F b (182 :: en) h fun y h2 => (0 ≤ j_hd y ∧ j_hd y < j_len a_g3 (184 : Int).toNat) ∧ wE (a_g3, g0) F v (182 :: en) h2 fun z h3 => R 0 [] (182 :: en) (j_up h3 184 (j_hd y).toNat (j_iop op_w (h2 184 (j_hd y).toNat) (j_hd z)))) = _
  simp only [e]
theorem fr_5 : j_rf a_g3 (182 : Int).toNat 5 = some 185 := by decide +kernel
theorem fl_185 : j_len a_g3 (185 : Int).toNat = 1002 := by decide +kernel
theorem wa_5 : wE (a_g3, g0) F (sx 5 (sx 3 z0 z0 z0) (sv 5) c) (182 :: en) h Q = Q [185] h := propext ⟨fun ⟨r, h1, h2⟩ => (Option.some.inj (fr_5.symm.trans h1)) ▸ h2, fun h1 => ⟨185, fr_5, h1⟩⟩
theorem wl_5 : wE (a_g3, g0) F (sx 7 (sx 5 (sx 3 z0 z0 z0) (sv 5) z0) b z0) (182 :: en) h Q = (wE (a_g3, g0) F b (182 :: en) h fun y h2 => (0 ≤ j_hd y ∧ j_hd y < 1002) ∧ Q [h2 185 (j_hd y).toNat] h2) := by
  rw [we_7, wa_5]
  have e : ∀ y : List Int, ((0 ≤ j_hd y ∧ j_hd y < j_len a_g3 (185 : Int).toNat)) = (0 ≤ j_hd y ∧ j_hd y < 1002) := fun y => by rw [fl_185]
  show (wE (a_g3, g0) F b (182 :: en) h fun y h2 => (0 : Nat) = 0 ∧ (0 ≤ j_hd y ∧ j_hd y < j_len a_g3 (185 : Int).toNat) ∧ Q [h2 185 (j_hd y).toNat] h2) = _
  simp only [e, true_and]
theorem wt_5 {ty_w : Nat} {v : SX} : wS (a_g3, g0) F K (sx 7 (sx 5 (sx 3 z0 z0 z0) (sv 5) z0) b (so ty_w v)) (182 :: en) h R = (wE (a_g3, g0) F b (182 :: en) h fun y h2 => wE (a_g3, g0) F v (182 :: en) h2 fun z h3 => (0 ≤ j_hd y ∧ j_hd y < 1002) ∧ R 0 [] (182 :: en) (j_up h3 185 (j_hd y).toNat (w_ty ty_w (j_hd z)))) := by
  rw [ws_7, wa_5]
  have e : ∀ y : List Int, ((0 ≤ j_hd y ∧ j_hd y < j_len a_g3 (185 : Int).toNat)) = (0 ≤ j_hd y ∧ j_hd y < 1002) := fun y => by rw [fl_185]
  show (wE (a_g3, g0) F b (182 :: en) h fun y h2 => wE (a_g3, g0) F v (182 :: en) h2 fun z h3 => (0 ≤ j_hd y ∧ j_hd y < j_len a_g3 (185 : Int).toNat) ∧ R 0 [] (182 :: en) (j_up h3 185 (j_hd y).toNat (w_ty ty_w (j_hd z)))) = _
  simp only [e]
theorem wu_5 {op_w : Nat} {v : SX} : wS (a_g3, g0) F K (sx 8 (sx 5 (sx 3 z0 z0 z0) (sv 5) z0) b (so op_w v)) (182 :: en) h R = (wE (a_g3, g0) F b (182 :: en) h fun y h2 => (0 ≤ j_hd y ∧ j_hd y < 1002) ∧ wE (a_g3, g0) F v (182 :: en) h2 fun z h3 => R 0 [] (182 :: en) (j_up h3 185 (j_hd y).toNat (j_iop op_w (h2 185 (j_hd y).toNat) (j_hd z)))) := by
  rw [ws_8, wa_5]
  have e : ∀ y : List Int, ((0 ≤ j_hd y ∧ j_hd y < j_len a_g3 (185 : Int).toNat)) = (0 ≤ j_hd y ∧ j_hd y < 1002) := fun y => by rw [fl_185]
  show (wE (a_g3, g0) F b (182 :: en) h fun y h2 => (0 ≤ j_hd y ∧ j_hd y < j_len a_g3 (185 : Int).toNat) ∧ wE (a_g3, g0) F v (182 :: en) h2 fun z h3 => R 0 [] (182 :: en) (j_up h3 185 (j_hd y).toNat (j_iop op_w (h2 185 (j_hd y).toNat) (j_hd z)))) = _
  simp only [e]
theorem fr_6 : j_rf a_g3 (182 : Int).toNat 6 = some 186 := by decide +kernel
theorem fl_186 : j_len a_g3 (186 : Int).toNat = 1002 := by decide +kernel
theorem wa_6 : wE (a_g3, g0) F (sx 5 (sx 3 z0 z0 z0) (sv 6) c) (182 :: en) h Q = Q [186] h := propext ⟨fun ⟨r, h1, h2⟩ => (Option.some.inj (fr_6.symm.trans h1)) ▸ h2, fun h1 => ⟨186, fr_6, h1⟩⟩
theorem wl_6 : wE (a_g3, g0) F (sx 7 (sx 5 (sx 3 z0 z0 z0) (sv 6) z0) b z0) (182 :: en) h Q = (wE (a_g3, g0) F b (182 :: en) h fun y h2 => (0 ≤ j_hd y ∧ j_hd y < 1002) ∧ Q [h2 186 (j_hd y).toNat] h2) := by
  rw [we_7, wa_6]
  have e : ∀ y : List Int, ((0 ≤ j_hd y ∧ j_hd y < j_len a_g3 (186 : Int).toNat)) = (0 ≤ j_hd y ∧ j_hd y < 1002) := fun y => by rw [fl_186]
  show (wE (a_g3, g0) F b (182 :: en) h fun y h2 => (0 : Nat) = 0 ∧ (0 ≤ j_hd y ∧ j_hd y < j_len a_g3 (186 : Int).toNat) ∧ Q [h2 186 (j_hd y).toNat] h2) = _
  simp only [e, true_and]
theorem wt_6 {ty_w : Nat} {v : SX} : wS (a_g3, g0) F K (sx 7 (sx 5 (sx 3 z0 z0 z0) (sv 6) z0) b (so ty_w v)) (182 :: en) h R = (wE (a_g3, g0) F b (182 :: en) h fun y h2 => wE (a_g3, g0) F v (182 :: en) h2 fun z h3 => (0 ≤ j_hd y ∧ j_hd y < 1002) ∧ R 0 [] (182 :: en) (j_up h3 186 (j_hd y).toNat (w_ty ty_w (j_hd z)))) := by
  rw [ws_7, wa_6]
  have e : ∀ y : List Int, ((0 ≤ j_hd y ∧ j_hd y < j_len a_g3 (186 : Int).toNat)) = (0 ≤ j_hd y ∧ j_hd y < 1002) := fun y => by rw [fl_186]
  show (wE (a_g3, g0) F b (182 :: en) h fun y h2 => wE (a_g3, g0) F v (182 :: en) h2 fun z h3 => (0 ≤ j_hd y ∧ j_hd y < j_len a_g3 (186 : Int).toNat) ∧ R 0 [] (182 :: en) (j_up h3 186 (j_hd y).toNat (w_ty ty_w (j_hd z)))) = _
  simp only [e]
theorem wu_6 {op_w : Nat} {v : SX} : wS (a_g3, g0) F K (sx 8 (sx 5 (sx 3 z0 z0 z0) (sv 6) z0) b (so op_w v)) (182 :: en) h R = (wE (a_g3, g0) F b (182 :: en) h fun y h2 => (0 ≤ j_hd y ∧ j_hd y < 1002) ∧ wE (a_g3, g0) F v (182 :: en) h2 fun z h3 => R 0 [] (182 :: en) (j_up h3 186 (j_hd y).toNat (j_iop op_w (h2 186 (j_hd y).toNat) (j_hd z)))) := by
  rw [ws_8, wa_6]
  have e : ∀ y : List Int, ((0 ≤ j_hd y ∧ j_hd y < j_len a_g3 (186 : Int).toNat)) = (0 ≤ j_hd y ∧ j_hd y < 1002) := fun y => by rw [fl_186]
  show (wE (a_g3, g0) F b (182 :: en) h fun y h2 => (0 ≤ j_hd y ∧ j_hd y < j_len a_g3 (186 : Int).toNat) ∧ wE (a_g3, g0) F v (182 :: en) h2 fun z h3 => R 0 [] (182 :: en) (j_up h3 186 (j_hd y).toNat (j_iop op_w (h2 186 (j_hd y).toNat) (j_hd z)))) = _
  simp only [e]
theorem fr_9 : j_rf a_g3 (182 : Int).toNat 9 = some 187 := by decide +kernel
theorem fl_187 : j_len a_g3 (187 : Int).toNat = 24 := by decide +kernel
theorem wa_9 : wE (a_g3, g0) F (sx 5 (sx 3 z0 z0 z0) (sv 9) c) (182 :: en) h Q = Q [187] h := propext ⟨fun ⟨r, h1, h2⟩ => (Option.some.inj (fr_9.symm.trans h1)) ▸ h2, fun h1 => ⟨187, fr_9, h1⟩⟩
theorem wl_9 : wE (a_g3, g0) F (sx 7 (sx 5 (sx 3 z0 z0 z0) (sv 9) z0) b z0) (182 :: en) h Q = (wE (a_g3, g0) F b (182 :: en) h fun y h2 => (0 ≤ j_hd y ∧ j_hd y < 24) ∧ Q [h2 187 (j_hd y).toNat] h2) := by
  rw [we_7, wa_9]
  have e : ∀ y : List Int, ((0 ≤ j_hd y ∧ j_hd y < j_len a_g3 (187 : Int).toNat)) = (0 ≤ j_hd y ∧ j_hd y < 24) := fun y => by rw [fl_187]
  show (wE (a_g3, g0) F b (182 :: en) h fun y h2 => (0 : Nat) = 0 ∧ (0 ≤ j_hd y ∧ j_hd y < j_len a_g3 (187 : Int).toNat) ∧ Q [h2 187 (j_hd y).toNat] h2) = _
  simp only [e, true_and]
theorem wt_9 {ty_w : Nat} {v : SX} : wS (a_g3, g0) F K (sx 7 (sx 5 (sx 3 z0 z0 z0) (sv 9) z0) b (so ty_w v)) (182 :: en) h R = (wE (a_g3, g0) F b (182 :: en) h fun y h2 => wE (a_g3, g0) F v (182 :: en) h2 fun z h3 => (0 ≤ j_hd y ∧ j_hd y < 24) ∧ R 0 [] (182 :: en) (j_up h3 187 (j_hd y).toNat (w_ty ty_w (j_hd z)))) := by
  rw [ws_7, wa_9]
  have e : ∀ y : List Int, ((0 ≤ j_hd y ∧ j_hd y < j_len a_g3 (187 : Int).toNat)) = (0 ≤ j_hd y ∧ j_hd y < 24) := fun y => by rw [fl_187]
  show (wE (a_g3, g0) F b (182 :: en) h fun y h2 => wE (a_g3, g0) F v (182 :: en) h2 fun z h3 => (0 ≤ j_hd y ∧ j_hd y < j_len a_g3 (187 : Int).toNat) ∧ R 0 [] (182 :: en) (j_up h3 187 (j_hd y).toNat (w_ty ty_w (j_hd z)))) = _
  simp only [e]
theorem wu_9 {op_w : Nat} {v : SX} : wS (a_g3, g0) F K (sx 8 (sx 5 (sx 3 z0 z0 z0) (sv 9) z0) b (so op_w v)) (182 :: en) h R = (wE (a_g3, g0) F b (182 :: en) h fun y h2 => (0 ≤ j_hd y ∧ j_hd y < 24) ∧ wE (a_g3, g0) F v (182 :: en) h2 fun z h3 => R 0 [] (182 :: en) (j_up h3 187 (j_hd y).toNat (j_iop op_w (h2 187 (j_hd y).toNat) (j_hd z)))) := by
  rw [ws_8, wa_9]
  have e : ∀ y : List Int, ((0 ≤ j_hd y ∧ j_hd y < j_len a_g3 (187 : Int).toNat)) = (0 ≤ j_hd y ∧ j_hd y < 24) := fun y => by rw [fl_187]
  show (wE (a_g3, g0) F b (182 :: en) h fun y h2 => (0 ≤ j_hd y ∧ j_hd y < j_len a_g3 (187 : Int).toNat) ∧ wE (a_g3, g0) F v (182 :: en) h2 fun z h3 => R 0 [] (182 :: en) (j_up h3 187 (j_hd y).toNat (j_iop op_w (h2 187 (j_hd y).toNat) (j_hd z)))) = _
  simp only [e]
theorem fr_10 : j_rf a_g3 (182 : Int).toNat 10 = some 188 := by decide +kernel
theorem fl_188 : j_len a_g3 (188 : Int).toNat = 190 := by decide +kernel
theorem wa_10 : wE (a_g3, g0) F (sx 5 (sx 3 z0 z0 z0) (sv 10) c) (182 :: en) h Q = Q [188] h := propext ⟨fun ⟨r, h1, h2⟩ => (Option.some.inj (fr_10.symm.trans h1)) ▸ h2, fun h1 => ⟨188, fr_10, h1⟩⟩
theorem wl_10 : wE (a_g3, g0) F (sx 7 (sx 5 (sx 3 z0 z0 z0) (sv 10) z0) b z0) (182 :: en) h Q = (wE (a_g3, g0) F b (182 :: en) h fun y h2 => (0 ≤ j_hd y ∧ j_hd y < 190) ∧ Q [h2 188 (j_hd y).toNat] h2) := by
  rw [we_7, wa_10]
  have e : ∀ y : List Int, ((0 ≤ j_hd y ∧ j_hd y < j_len a_g3 (188 : Int).toNat)) = (0 ≤ j_hd y ∧ j_hd y < 190) := fun y => by rw [fl_188]
  show (wE (a_g3, g0) F b (182 :: en) h fun y h2 => (0 : Nat) = 0 ∧ (0 ≤ j_hd y ∧ j_hd y < j_len a_g3 (188 : Int).toNat) ∧ Q [h2 188 (j_hd y).toNat] h2) = _
  simp only [e, true_and]
theorem wt_10 {ty_w : Nat} {v : SX} : wS (a_g3, g0) F K (sx 7 (sx 5 (sx 3 z0 z0 z0) (sv 10) z0) b (so ty_w v)) (182 :: en) h R = (wE (a_g3, g0) F b (182 :: en) h fun y h2 => wE (a_g3, g0) F v (182 :: en) h2 fun z h3 => (0 ≤ j_hd y ∧ j_hd y < 190) ∧ R 0 [] (182 :: en) (j_up h3 188 (j_hd y).toNat (w_ty ty_w (j_hd z)))) := by
  rw [ws_7, wa_10]
  have e : ∀ y : List Int, ((0 ≤ j_hd y ∧ j_hd y < j_len a_g3 (188 : Int).toNat)) = (0 ≤ j_hd y ∧ j_hd y < 190) := fun y => by rw [fl_188]
  show (wE (a_g3, g0) F b (182 :: en) h fun y h2 => wE (a_g3, g0) F v (182 :: en) h2 fun z h3 => (0 ≤ j_hd y ∧ j_hd y < j_len a_g3 (188 : Int).toNat) ∧ R 0 [] (182 :: en) (j_up h3 188 (j_hd y).toNat (w_ty ty_w (j_hd z)))) = _
  simp only [e]
theorem wu_10 {op_w : Nat} {v : SX} : wS (a_g3, g0) F K (sx 8 (sx 5 (sx 3 z0 z0 z0) (sv 10) z0) b (so op_w v)) (182 :: en) h R = (wE (a_g3, g0) F b (182 :: en) h fun y h2 => (0 ≤ j_hd y ∧ j_hd y < 190) ∧ wE (a_g3, g0) F v (182 :: en) h2 fun z h3 => R 0 [] (182 :: en) (j_up h3 188 (j_hd y).toNat (j_iop op_w (h2 188 (j_hd y).toNat) (j_hd z)))) := by
  rw [ws_8, wa_10]
  have e : ∀ y : List Int, ((0 ≤ j_hd y ∧ j_hd y < j_len a_g3 (188 : Int).toNat)) = (0 ≤ j_hd y ∧ j_hd y < 190) := fun y => by rw [fl_188]
  show (wE (a_g3, g0) F b (182 :: en) h fun y h2 => (0 ≤ j_hd y ∧ j_hd y < j_len a_g3 (188 : Int).toNat) ∧ wE (a_g3, g0) F v (182 :: en) h2 fun z h3 => R 0 [] (182 :: en) (j_up h3 188 (j_hd y).toNat (j_iop op_w (h2 188 (j_hd y).toNat) (j_hd z)))) = _
  simp only [e]
theorem fr_11 : j_rf a_g3 (182 : Int).toNat 11 = some 189 := by decide +kernel
theorem fl_189 : j_len a_g3 (189 : Int).toNat = 2200 := by decide +kernel
theorem wa_11 : wE (a_g3, g0) F (sx 5 (sx 3 z0 z0 z0) (sv 11) c) (182 :: en) h Q = Q [189] h := propext ⟨fun ⟨r, h1, h2⟩ => (Option.some.inj (fr_11.symm.trans h1)) ▸ h2, fun h1 => ⟨189, fr_11, h1⟩⟩
theorem wl_11 : wE (a_g3, g0) F (sx 7 (sx 5 (sx 3 z0 z0 z0) (sv 11) z0) b z0) (182 :: en) h Q = (wE (a_g3, g0) F b (182 :: en) h fun y h2 => (0 ≤ j_hd y ∧ j_hd y < 2200) ∧ Q [h2 189 (j_hd y).toNat] h2) := by
  rw [we_7, wa_11]
  have e : ∀ y : List Int, ((0 ≤ j_hd y ∧ j_hd y < j_len a_g3 (189 : Int).toNat)) = (0 ≤ j_hd y ∧ j_hd y < 2200) := fun y => by rw [fl_189]
  show (wE (a_g3, g0) F b (182 :: en) h fun y h2 => (0 : Nat) = 0 ∧ (0 ≤ j_hd y ∧ j_hd y < j_len a_g3 (189 : Int).toNat) ∧ Q [h2 189 (j_hd y).toNat] h2) = _
  simp only [e, true_and]
theorem wt_11 {ty_w : Nat} {v : SX} : wS (a_g3, g0) F K (sx 7 (sx 5 (sx 3 z0 z0 z0) (sv 11) z0) b (so ty_w v)) (182 :: en) h R = (wE (a_g3, g0) F b (182 :: en) h fun y h2 => wE (a_g3, g0) F v (182 :: en) h2 fun z h3 => (0 ≤ j_hd y ∧ j_hd y < 2200) ∧ R 0 [] (182 :: en) (j_up h3 189 (j_hd y).toNat (w_ty ty_w (j_hd z)))) := by
  rw [ws_7, wa_11]
  have e : ∀ y : List Int, ((0 ≤ j_hd y ∧ j_hd y < j_len a_g3 (189 : Int).toNat)) = (0 ≤ j_hd y ∧ j_hd y < 2200) := fun y => by rw [fl_189]
  show (wE (a_g3, g0) F b (182 :: en) h fun y h2 => wE (a_g3, g0) F v (182 :: en) h2 fun z h3 => (0 ≤ j_hd y ∧ j_hd y < j_len a_g3 (189 : Int).toNat) ∧ R 0 [] (182 :: en) (j_up h3 189 (j_hd y).toNat (w_ty ty_w (j_hd z)))) = _
  simp only [e]
theorem wu_11 {op_w : Nat} {v : SX} : wS (a_g3, g0) F K (sx 8 (sx 5 (sx 3 z0 z0 z0) (sv 11) z0) b (so op_w v)) (182 :: en) h R = (wE (a_g3, g0) F b (182 :: en) h fun y h2 => (0 ≤ j_hd y ∧ j_hd y < 2200) ∧ wE (a_g3, g0) F v (182 :: en) h2 fun z h3 => R 0 [] (182 :: en) (j_up h3 189 (j_hd y).toNat (j_iop op_w (h2 189 (j_hd y).toNat) (j_hd z)))) := by
  rw [ws_8, wa_11]
  have e : ∀ y : List Int, ((0 ≤ j_hd y ∧ j_hd y < j_len a_g3 (189 : Int).toNat)) = (0 ≤ j_hd y ∧ j_hd y < 2200) := fun y => by rw [fl_189]
  show (wE (a_g3, g0) F b (182 :: en) h fun y h2 => (0 ≤ j_hd y ∧ j_hd y < j_len a_g3 (189 : Int).toNat) ∧ wE (a_g3, g0) F v (182 :: en) h2 fun z h3 => R 0 [] (182 :: en) (j_up h3 189 (j_hd y).toNat (j_iop op_w (h2 189 (j_hd y).toNat) (j_hd z)))) = _
  simp only [e]
theorem fr_13 : j_rf a_g3 (182 : Int).toNat 13 = some 190 := by decide +kernel
theorem fl_190 : j_len a_g3 (190 : Int).toNat = 28 := by decide +kernel
theorem wa_13 : wE (a_g3, g0) F (sx 5 (sx 3 z0 z0 z0) (sv 13) c) (182 :: en) h Q = Q [190] h := propext ⟨fun ⟨r, h1, h2⟩ => (Option.some.inj (fr_13.symm.trans h1)) ▸ h2, fun h1 => ⟨190, fr_13, h1⟩⟩
theorem wl_13 : wE (a_g3, g0) F (sx 7 (sx 5 (sx 3 z0 z0 z0) (sv 13) z0) b z0) (182 :: en) h Q = (wE (a_g3, g0) F b (182 :: en) h fun y h2 => (0 ≤ j_hd y ∧ j_hd y < 28) ∧ Q [h2 190 (j_hd y).toNat] h2) := by
  rw [we_7, wa_13]
  have e : ∀ y : List Int, ((0 ≤ j_hd y ∧ j_hd y < j_len a_g3 (190 : Int).toNat)) = (0 ≤ j_hd y ∧ j_hd y < 28) := fun y => by rw [fl_190]
  show (wE (a_g3, g0) F b (182 :: en) h fun y h2 => (0 : Nat) = 0 ∧ (0 ≤ j_hd y ∧ j_hd y < j_len a_g3 (190 : Int).toNat) ∧ Q [h2 190 (j_hd y).toNat] h2) = _
  simp only [e, true_and]
theorem wt_13 {ty_w : Nat} {v : SX} : wS (a_g3, g0) F K (sx 7 (sx 5 (sx 3 z0 z0 z0) (sv 13) z0) b (so ty_w v)) (182 :: en) h R = (wE (a_g3, g0) F b (182 :: en) h fun y h2 => wE (a_g3, g0) F v (182 :: en) h2 fun z h3 => (0 ≤ j_hd y ∧ j_hd y < 28) ∧ R 0 [] (182 :: en) (j_up h3 190 (j_hd y).toNat (w_ty ty_w (j_hd z)))) := by
  rw [ws_7, wa_13]
  have e : ∀ y : List Int, ((0 ≤ j_hd y ∧ j_hd y < j_len a_g3 (190 : Int).toNat)) = (0 ≤ j_hd y ∧ j_hd y < 28) := fun y => by rw [fl_190]
  show (wE (a_g3, g0) F b (182 :: en) h fun y h2 => wE (a_g3, g0) F v (182 :: en) h2 fun z h3 => (0 ≤ j_hd y ∧ j_hd y < j_len a_g3 (190 : Int).toNat) ∧ R 0 [] (182 :: en) (j_up h3 190 (j_hd y).toNat (w_ty ty_w (j_hd z)))) = _
  simp only [e]
theorem wu_13 {op_w : Nat} {v : SX} : wS (a_g3, g0) F K (sx 8 (sx 5 (sx 3 z0 z0 z0) (sv 13) z0) b (so op_w v)) (182 :: en) h R = (wE (a_g3, g0) F b (182 :: en) h fun y h2 => (0 ≤ j_hd y ∧ j_hd y < 28) ∧ wE (a_g3, g0) F v (182 :: en) h2 fun z h3 => R 0 [] (182 :: en) (j_up h3 190 (j_hd y).toNat (j_iop op_w (h2 190 (j_hd y).toNat) (j_hd z)))) := by
  rw [ws_8, wa_13]
  have e : ∀ y : List Int, ((0 ≤ j_hd y ∧ j_hd y < j_len a_g3 (190 : Int).toNat)) = (0 ≤ j_hd y ∧ j_hd y < 28) := fun y => by rw [fl_190]
  show (wE (a_g3, g0) F b (182 :: en) h fun y h2 => (0 ≤ j_hd y ∧ j_hd y < j_len a_g3 (190 : Int).toNat) ∧ wE (a_g3, g0) F v (182 :: en) h2 fun z h3 => R 0 [] (182 :: en) (j_up h3 190 (j_hd y).toNat (j_iop op_w (h2 190 (j_hd y).toNat) (j_hd z)))) = _
  simp only [e]
theorem fr_14 : j_rf a_g3 (182 : Int).toNat 14 = some 191 := by decide +kernel
theorem fl_191 : j_len a_g3 (191 : Int).toNat = 250 := by decide +kernel
theorem wa_14 : wE (a_g3, g0) F (sx 5 (sx 3 z0 z0 z0) (sv 14) c) (182 :: en) h Q = Q [191] h := propext ⟨fun ⟨r, h1, h2⟩ => (Option.some.inj (fr_14.symm.trans h1)) ▸ h2, fun h1 => ⟨191, fr_14, h1⟩⟩
theorem wl_14 : wE (a_g3, g0) F (sx 7 (sx 5 (sx 3 z0 z0 z0) (sv 14) z0) b z0) (182 :: en) h Q = (wE (a_g3, g0) F b (182 :: en) h fun y h2 => (0 ≤ j_hd y ∧ j_hd y < 250) ∧ Q [h2 191 (j_hd y).toNat] h2) := by
  rw [we_7, wa_14]
  have e : ∀ y : List Int, ((0 ≤ j_hd y ∧ j_hd y < j_len a_g3 (191 : Int).toNat)) = (0 ≤ j_hd y ∧ j_hd y < 250) := fun y => by rw [fl_191]
  show (wE (a_g3, g0) F b (182 :: en) h fun y h2 => (0 : Nat) = 0 ∧ (0 ≤ j_hd y ∧ j_hd y < j_len a_g3 (191 : Int).toNat) ∧ Q [h2 191 (j_hd y).toNat] h2) = _
  simp only [e, true_and]
theorem wt_14 {ty_w : Nat} {v : SX} : wS (a_g3, g0) F K (sx 7 (sx 5 (sx 3 z0 z0 z0) (sv 14) z0) b (so ty_w v)) (182 :: en) h R = (wE (a_g3, g0) F b (182 :: en) h fun y h2 => wE (a_g3, g0) F v (182 :: en) h2 fun z h3 => (0 ≤ j_hd y ∧ j_hd y < 250) ∧ R 0 [] (182 :: en) (j_up h3 191 (j_hd y).toNat (w_ty ty_w (j_hd z)))) := by
  rw [ws_7, wa_14]
  have e : ∀ y : List Int, ((0 ≤ j_hd y ∧ j_hd y < j_len a_g3 (191 : Int).toNat)) = (0 ≤ j_hd y ∧ j_hd y < 250) := fun y => by rw [fl_191]
  show (wE (a_g3, g0) F b (182 :: en) h fun y h2 => wE (a_g3, g0) F v (182 :: en) h2 fun z h3 => (0 ≤ j_hd y ∧ j_hd y < j_len a_g3 (191 : Int).toNat) ∧ R 0 [] (182 :: en) (j_up h3 191 (j_hd y).toNat (w_ty ty_w (j_hd z)))) = _
  simp only [e]
theorem wu_14 {op_w : Nat} {v : SX} : wS (a_g3, g0) F K (sx 8 (sx 5 (sx 3 z0 z0 z0) (sv 14) z0) b (so op_w v)) (182 :: en) h R = (wE (a_g3, g0) F b (182 :: en) h fun y h2 => (0 ≤ j_hd y ∧ j_hd y < 250) ∧ wE (a_g3, g0) F v (182 :: en) h2 fun z h3 => R 0 [] (182 :: en) (j_up h3 191 (j_hd y).toNat (j_iop op_w (h2 191 (j_hd y).toNat) (j_hd z)))) := by
  rw [ws_8, wa_14]
  have e : ∀ y : List Int, ((0 ≤ j_hd y ∧ j_hd y < j_len a_g3 (191 : Int).toNat)) = (0 ≤ j_hd y ∧ j_hd y < 250) := fun y => by rw [fl_191]
  show (wE (a_g3, g0) F b (182 :: en) h fun y h2 => (0 ≤ j_hd y ∧ j_hd y < j_len a_g3 (191 : Int).toNat) ∧ wE (a_g3, g0) F v (182 :: en) h2 fun z h3 => R 0 [] (182 :: en) (j_up h3 191 (j_hd y).toNat (j_iop op_w (h2 191 (j_hd y).toNat) (j_hd z)))) = _
  simp only [e]
theorem fr_15 : j_rf a_g3 (182 : Int).toNat 15 = some 192 := by decide +kernel
theorem fl_192 : j_len a_g3 (192 : Int).toNat = 4 := by decide +kernel
theorem wa_15 : wE (a_g3, g0) F (sx 5 (sx 3 z0 z0 z0) (sv 15) c) (182 :: en) h Q = Q [192] h := propext ⟨fun ⟨r, h1, h2⟩ => (Option.some.inj (fr_15.symm.trans h1)) ▸ h2, fun h1 => ⟨192, fr_15, h1⟩⟩
theorem wl_15 : wE (a_g3, g0) F (sx 7 (sx 5 (sx 3 z0 z0 z0) (sv 15) z0) b z0) (182 :: en) h Q = (wE (a_g3, g0) F b (182 :: en) h fun y h2 => (0 ≤ j_hd y ∧ j_hd y < 4) ∧ Q [h2 192 (j_hd y).toNat] h2) := by
  rw [we_7, wa_15]
  have e : ∀ y : List Int, ((0 ≤ j_hd y ∧ j_hd y < j_len a_g3 (192 : Int).toNat)) = (0 ≤ j_hd y ∧ j_hd y < 4) := fun y => by rw [fl_192]
  show (wE (a_g3, g0) F b (182 :: en) h fun y h2 => (0 : Nat) = 0 ∧ (0 ≤ j_hd y ∧ j_hd y < j_len a_g3 (192 : Int).toNat) ∧ Q [h2 192 (j_hd y).toNat] h2) = _
  simp only [e, true_and]
theorem wt_15 {ty_w : Nat} {v : SX} : wS (a_g3, g0) F K (sx 7 (sx 5 (sx 3 z0 z0 z0) (sv 15) z0) b (so ty_w v)) (182 :: en) h R = (wE (a_g3, g0) F b (182 :: en) h fun y h2 => wE (a_g3, g0) F v (182 :: en) h2 fun z h3 => (0 ≤ j_hd y ∧ j_hd y < 4) ∧ R 0 [] (182 :: en) (j_up h3 192 (j_hd y).toNat (w_ty ty_w (j_hd z)))) := by
  rw [ws_7, wa_15]
  have e : ∀ y : List Int, ((0 ≤ j_hd y ∧ j_hd y < j_len a_g3 (192 : Int).toNat)) = (0 ≤ j_hd y ∧ j_hd y < 4) := fun y => by rw [fl_192]
  show (wE (a_g3, g0) F b (182 :: en) h fun y h2 => wE (a_g3, g0) F v (182 :: en) h2 fun z h3 => (0 ≤ j_hd y ∧ j_hd y < j_len a_g3 (192 : Int).toNat) ∧ R 0 [] (182 :: en) (j_up h3 192 (j_hd y).toNat (w_ty ty_w (j_hd z)))) = _
  simp only [e]
theorem wu_15 {op_w : Nat} {v : SX} : wS (a_g3, g0) F K (sx 8 (sx 5 (sx 3 z0 z0 z0) (sv 15) z0) b (so op_w v)) (182 :: en) h R = (wE (a_g3, g0) F b (182 :: en) h fun y h2 => (0 ≤ j_hd y ∧ j_hd y < 4) ∧ wE (a_g3, g0) F v (182 :: en) h2 fun z h3 => R 0 [] (182 :: en) (j_up h3 192 (j_hd y).toNat (j_iop op_w (h2 192 (j_hd y).toNat) (j_hd z)))) := by
  rw [ws_8, wa_15]
  have e : ∀ y : List Int, ((0 ≤ j_hd y ∧ j_hd y < j_len a_g3 (192 : Int).toNat)) = (0 ≤ j_hd y ∧ j_hd y < 4) := fun y => by rw [fl_192]
  show (wE (a_g3, g0) F b (182 :: en) h fun y h2 => (0 ≤ j_hd y ∧ j_hd y < j_len a_g3 (192 : Int).toNat) ∧ wE (a_g3, g0) F v (182 :: en) h2 fun z h3 => R 0 [] (182 :: en) (j_up h3 192 (j_hd y).toNat (j_iop op_w (h2 192 (j_hd y).toNat) (j_hd z)))) = _
  simp only [e]
theorem fr_16 : j_rf a_g3 (182 : Int).toNat 16 = some 193 := by decide +kernel
theorem fl_193 : j_len a_g3 (193 : Int).toNat = 64 := by decide +kernel
theorem wa_16 : wE (a_g3, g0) F (sx 5 (sx 3 z0 z0 z0) (sv 16) c) (182 :: en) h Q = Q [193] h := propext ⟨fun ⟨r, h1, h2⟩ => (Option.some.inj (fr_16.symm.trans h1)) ▸ h2, fun h1 => ⟨193, fr_16, h1⟩⟩
theorem wl_16 : wE (a_g3, g0) F (sx 7 (sx 5 (sx 3 z0 z0 z0) (sv 16) z0) b z0) (182 :: en) h Q = (wE (a_g3, g0) F b (182 :: en) h fun y h2 => (0 ≤ j_hd y ∧ j_hd y < 64) ∧ Q [h2 193 (j_hd y).toNat] h2) := by
  rw [we_7, wa_16]
  have e : ∀ y : List Int, ((0 ≤ j_hd y ∧ j_hd y < j_len a_g3 (193 : Int).toNat)) = (0 ≤ j_hd y ∧ j_hd y < 64) := fun y => by rw [fl_193]
  show (wE (a_g3, g0) F b (182 :: en) h fun y h2 => (0 : Nat) = 0 ∧ (0 ≤ j_hd y ∧ j_hd y < j_len a_g3 (193 : Int).toNat) ∧ Q [h2 193 (j_hd y).toNat] h2) = _
  simp only [e, true_and]
theorem wt_16 {ty_w : Nat} {v : SX} : wS (a_g3, g0) F K (sx 7 (sx 5 (sx 3 z0 z0 z0) (sv 16) z0) b (so ty_w v)) (182 :: en) h R = (wE (a_g3, g0) F b (182 :: en) h fun y h2 => wE (a_g3, g0) F v (182 :: en) h2 fun z h3 => (0 ≤ j_hd y ∧ j_hd y < 64) ∧ R 0 [] (182 :: en) (j_up h3 193 (j_hd y).toNat (w_ty ty_w (j_hd z)))) := by
  rw [ws_7, wa_16]
  have e : ∀ y : List Int, ((0 ≤ j_hd y ∧ j_hd y < j_len a_g3 (193 : Int).toNat)) = (0 ≤ j_hd y ∧ j_hd y < 64) := fun y => by rw [fl_193]
  show (wE (a_g3, g0) F b (182 :: en) h fun y h2 => wE (a_g3, g0) F v (182 :: en) h2 fun z h3 => (0 ≤ j_hd y ∧ j_hd y < j_len a_g3 (193 : Int).toNat) ∧ R 0 [] (182 :: en) (j_up h3 193 (j_hd y).toNat (w_ty ty_w (j_hd z)))) = _
  simp only [e]
theorem wu_16 {op_w : Nat} {v : SX} : wS (a_g3, g0) F K (sx 8 (sx 5 (sx 3 z0 z0 z0) (sv 16) z0) b (so op_w v)) (182 :: en) h R = (wE (a_g3, g0) F b (182 :: en) h fun y h2 => (0 ≤ j_hd y ∧ j_hd y < 64) ∧ wE (a_g3, g0) F v (182 :: en) h2 fun z h3 => R 0 [] (182 :: en) (j_up h3 193 (j_hd y).toNat (j_iop op_w (h2 193 (j_hd y).toNat) (j_hd z)))) := by
  rw [ws_8, wa_16]
  have e : ∀ y : List Int, ((0 ≤ j_hd y ∧ j_hd y < j_len a_g3 (193 : Int).toNat)) = (0 ≤ j_hd y ∧ j_hd y < 64) := fun y => by rw [fl_193]
  show (wE (a_g3, g0) F b (182 :: en) h fun y h2 => (0 ≤ j_hd y ∧ j_hd y < j_len a_g3 (193 : Int).toNat) ∧ wE (a_g3, g0) F v (182 :: en) h2 fun z h3 => R 0 [] (182 :: en) (j_up h3 193 (j_hd y).toNat (j_iop op_w (h2 193 (j_hd y).toNat) (j_hd z)))) = _
  simp only [e]
theorem fr_17 : j_rf a_g3 (182 : Int).toNat 17 = some 194 := by decide +kernel
theorem fl_194 : j_len a_g3 (194 : Int).toNat = 5148 := by decide +kernel
theorem wa_17 : wE (a_g3, g0) F (sx 5 (sx 3 z0 z0 z0) (sv 17) c) (182 :: en) h Q = Q [194] h := propext ⟨fun ⟨r, h1, h2⟩ => (Option.some.inj (fr_17.symm.trans h1)) ▸ h2, fun h1 => ⟨194, fr_17, h1⟩⟩
theorem wl_17 : wE (a_g3, g0) F (sx 7 (sx 5 (sx 3 z0 z0 z0) (sv 17) z0) b z0) (182 :: en) h Q = (wE (a_g3, g0) F b (182 :: en) h fun y h2 => (0 ≤ j_hd y ∧ j_hd y < 5148) ∧ Q [h2 194 (j_hd y).toNat] h2) := by
  rw [we_7, wa_17]
  have e : ∀ y : List Int, ((0 ≤ j_hd y ∧ j_hd y < j_len a_g3 (194 : Int).toNat)) = (0 ≤ j_hd y ∧ j_hd y < 5148) := fun y => by rw [fl_194]
  show (wE (a_g3, g0) F b (182 :: en) h fun y h2 => (0 : Nat) = 0 ∧ (0 ≤ j_hd y ∧ j_hd y < j_len a_g3 (194 : Int).toNat) ∧ Q [h2 194 (j_hd y).toNat] h2) = _
  simp only [e, true_and]
theorem wt_17 {ty_w : Nat} {v : SX} : wS (a_g3, g0) F K (sx 7 (sx 5 (sx 3 z0 z0 z0) (sv 17) z0) b (so ty_w v)) (182 :: en) h R = (wE (a_g3, g0) F b (182 :: en) h fun y h2 => wE (a_g3, g0) F v (182 :: en) h2 fun z h3 => (0 ≤ j_hd y ∧ j_hd y < 5148) ∧ R 0 [] (182 :: en) (j_up h3 194 (j_hd y).toNat (w_ty ty_w (j_hd z)))) := by
  rw [ws_7, wa_17]
  have e : ∀ y : List Int, ((0 ≤ j_hd y ∧ j_hd y < j_len a_g3 (194 : Int).toNat)) = (0 ≤ j_hd y ∧ j_hd y < 5148) := fun y => by rw [fl_194]
  show (wE (a_g3, g0) F b (182 :: en) h fun y h2 => wE (a_g3, g0) F v (182 :: en) h2 fun z h3 => (0 ≤ j_hd y ∧ j_hd y < j_len a_g3 (194 : Int).toNat) ∧ R 0 [] (182 :: en) (j_up h3 194 (j_hd y).toNat (w_ty ty_w (j_hd z)))) = _
  simp only [e]
theorem wu_17 {op_w : Nat} {v : SX} : wS (a_g3, g0) F K (sx 8 (sx 5 (sx 3 z0 z0 z0) (sv 17) z0) b (so op_w v)) (182 :: en) h R = (wE (a_g3, g0) F b (182 :: en) h fun y h2 => (0 ≤ j_hd y ∧ j_hd y < 5148) ∧ wE (a_g3, g0) F v (182 :: en) h2 fun z h3 => R 0 [] (182 :: en) (j_up h3 194 (j_hd y).toNat (j_iop op_w (h2 194 (j_hd y).toNat) (j_hd z)))) := by
  rw [ws_8, wa_17]
  have e : ∀ y : List Int, ((0 ≤ j_hd y ∧ j_hd y < j_len a_g3 (194 : Int).toNat)) = (0 ≤ j_hd y ∧ j_hd y < 5148) := fun y => by rw [fl_194]
  show (wE (a_g3, g0) F b (182 :: en) h fun y h2 => (0 ≤ j_hd y ∧ j_hd y < j_len a_g3 (194 : Int).toNat) ∧ wE (a_g3, g0) F v (182 :: en) h2 fun z h3 => R 0 [] (182 :: en) (j_up h3 194 (j_hd y).toNat (j_iop op_w (h2 194 (j_hd y).toNat) (j_hd z)))) = _
  simp only [e]
theorem fr_20 : j_rf a_g3 (182 : Int).toNat 20 = some 195 := by decide +kernel
theorem fl_195 : j_len a_g3 (195 : Int).toNat = 2 := by decide +kernel
theorem wa_20 : wE (a_g3, g0) F (sx 5 (sx 3 z0 z0 z0) (sv 20) c) (182 :: en) h Q = Q [195] h := propext ⟨fun ⟨r, h1, h2⟩ => (Option.some.inj (fr_20.symm.trans h1)) ▸ h2, fun h1 => ⟨195, fr_20, h1⟩⟩
theorem wl_20 : wE (a_g3, g0) F (sx 7 (sx 5 (sx 3 z0 z0 z0) (sv 20) z0) b z0) (182 :: en) h Q = (wE (a_g3, g0) F b (182 :: en) h fun y h2 => (0 ≤ j_hd y ∧ j_hd y < 2) ∧ Q [h2 195 (j_hd y).toNat] h2) := by
  rw [we_7, wa_20]
  have e : ∀ y : List Int, ((0 ≤ j_hd y ∧ j_hd y < j_len a_g3 (195 : Int).toNat)) = (0 ≤ j_hd y ∧ j_hd y < 2) := fun y => by rw [fl_195]
  show (wE (a_g3, g0) F b (182 :: en) h fun y h2 => (0 : Nat) = 0 ∧ (0 ≤ j_hd y ∧ j_hd y < j_len a_g3 (195 : Int).toNat) ∧ Q [h2 195 (j_hd y).toNat] h2) = _
  simp only [e, true_and]
theorem wt_20 {ty_w : Nat} {v : SX} : wS (a_g3, g0) F K (sx 7 (sx 5 (sx 3 z0 z0 z0) (sv 20) z0) b (so ty_w v)) (182 :: en) h R = (wE (a_g3, g0) F b (182 :: en) h fun y h2 => wE (a_g3, g0) F v (182 :: en) h2 fun z h3 => (0 ≤ j_hd y ∧ j_hd y < 2) ∧ R 0 [] (182 :: en) (j_up h3 195 (j_hd y).toNat (w_ty ty_w (j_hd z)))) := by
  rw [ws_7, wa_20]
  have e : ∀ y : List Int, ((0 ≤ j_hd y ∧ j_hd y < j_len a_g3 (195 : Int).toNat)) = (0 ≤ j_hd y ∧ j_hd y < 2) := fun y => by rw [fl_195]
  show (wE (a_g3, g0) F b (182 :: en) h fun y h2 => wE (a_g3, g0) F v (182 :: en) h2 fun z h3 => (0 ≤ j_hd y ∧ j_hd y < j_len a_g3 (195 : Int).toNat) ∧ R 0 [] (182 :: en) (j_up h3 195 (j_hd y).toNat (w_ty ty_w (j_hd z)))) = _
  simp only [e]
theorem wu_20 {op_w : Nat} {v : SX} : wS (a_g3, g0) F K (sx 8 (sx 5 (sx 3 z0 z0 z0) (sv 20) z0) b (so op_w v)) (182 :: en) h R = (wE (a_g3, g0) F b (182 :: en) h fun y h2 => (0 ≤ j_hd y ∧ j_hd y < 2) ∧ wE (a_g3, g0) F v (182 :: en) h2 fun z h3 => R 0 [] (182 :: en) (j_up h3 195 (j_hd y).toNat (j_iop op_w (h2 195 (j_hd y).toNat) (j_hd z)))) := by
  rw [ws_8, wa_20]
  have e : ∀ y : List Int, ((0 ≤ j_hd y ∧ j_hd y < j_len a_g3 (195 : Int).toNat)) = (0 ≤ j_hd y ∧ j_hd y < 2) := fun y => by rw [fl_195]
  show (wE (a_g3, g0) F b (182 :: en) h fun y h2 => (0 ≤ j_hd y ∧ j_hd y < j_len a_g3 (195 : Int).toNat) ∧ wE (a_g3, g0) F v (182 :: en) h2 fun z h3 => R 0 [] (182 :: en) (j_up h3 195 (j_hd y).toNat (j_iop op_w (h2 195 (j_hd y).toNat) (j_hd z)))) = _
  simp only [e]
theorem fr_21 : j_rf a_g3 (182 : Int).toNat 21 = some 196 := by decide +kernel
theorem fl_196 : j_len a_g3 (196 : Int).toNat = 6 := by decide +kernel
theorem wa_21 : wE (a_g3, g0) F (sx 5 (sx 3 z0 z0 z0) (sv 21) c) (182 :: en) h Q = Q [196] h := propext ⟨fun ⟨r, h1, h2⟩ => (Option.some.inj (fr_21.symm.trans h1)) ▸ h2, fun h1 => ⟨196, fr_21, h1⟩⟩
theorem wl_21 : wE (a_g3, g0) F (sx 7 (sx 5 (sx 3 z0 z0 z0) (sv 21) z0) b z0) (182 :: en) h Q = (wE (a_g3, g0) F b (182 :: en) h fun y h2 => (0 ≤ j_hd y ∧ j_hd y < 6) ∧ Q [h2 196 (j_hd y).toNat] h2) := by
  rw [we_7, wa_21]
  have e : ∀ y : List Int, ((0 ≤ j_hd y ∧ j_hd y < j_len a_g3 (196 : Int).toNat)) = (0 ≤ j_hd y ∧ j_hd y < 6) := fun y => by rw [fl_196]
  show (wE (a_g3, g0) F b (182 :: en) h fun y h2 => (0 : Nat) = 0 ∧ (0 ≤ j_hd y ∧ j_hd y < j_len a_g3 (196 : Int).toNat) ∧ Q [h2 196 (j_hd y).toNat] h2) = _
  simp only [e, true_and]
theorem wt_21 {ty_w : Nat} {v : SX} : wS (a_g3, g0) F K (sx 7 (sx 5 (sx 3 z0 z0 z0) (sv 21) z0) b (so ty_w v)) (182 :: en) h R = (wE (a_g3, g0) F b (182 :: en) h fun y h2 => wE (a_g3, g0) F v (182 :: en) h2 fun z h3 => (0 ≤ j_hd y ∧ j_hd y < 6) ∧ R 0 [] (182 :: en) (j_up h3 196 (j_hd y).toNat (w_ty ty_w (j_hd z)))) := by
  rw [ws_7, wa_21]
  have e : ∀ y : List Int, ((0 ≤ j_hd y ∧ j_hd y < j_len a_g3 (196 : Int).toNat)) = (0 ≤ j_hd y ∧ j_hd y < 6) := fun y => by rw [fl_196]
  show (wE (a_g3, g0) F b (182 :: en) h fun y h2 => wE (a_g3, g0) F v (182 :: en) h2 fun z h3 => (0 ≤ j_hd y ∧ j_hd y < j_len a_g3 (196 : Int).toNat) ∧ R 0 [] (182 :: en) (j_up h3 196 (j_hd y).toNat (w_ty ty_w (j_hd z)))) = _
  simp only [e]
theorem wu_21 {op_w : Nat} {v : SX} : wS (a_g3, g0) F K (sx 8 (sx 5 (sx 3 z0 z0 z0) (sv 21) z0) b (so op_w v)) (182 :: en) h R = (wE (a_g3, g0) F b (182 :: en) h fun y h2 => (0 ≤ j_hd y ∧ j_hd y < 6) ∧ wE (a_g3, g0) F v (182 :: en) h2 fun z h3 => R 0 [] (182 :: en) (j_up h3 196 (j_hd y).toNat (j_iop op_w (h2 196 (j_hd y).toNat) (j_hd z)))) := by
  rw [ws_8, wa_21]
  have e : ∀ y : List Int, ((0 ≤ j_hd y ∧ j_hd y < j_len a_g3 (196 : Int).toNat)) = (0 ≤ j_hd y ∧ j_hd y < 6) := fun y => by rw [fl_196]
  show (wE (a_g3, g0) F b (182 :: en) h fun y h2 => (0 ≤ j_hd y ∧ j_hd y < j_len a_g3 (196 : Int).toNat) ∧ wE (a_g3, g0) F v (182 :: en) h2 fun z h3 => R 0 [] (182 :: en) (j_up h3 196 (j_hd y).toNat (j_iop op_w (h2 196 (j_hd y).toNat) (j_hd z)))) = _
  simp only [e]
theorem fr_22 : j_rf a_g3 (182 : Int).toNat 22 = some 197 := by decide +kernel
theorem fl_197 : j_len a_g3 (197 : Int).toNat = 6 := by decide +kernel
theorem wa_22 : wE (a_g3, g0) F (sx 5 (sx 3 z0 z0 z0) (sv 22) c) (182 :: en) h Q = Q [197] h := propext ⟨fun ⟨r, h1, h2⟩ => (Option.some.inj (fr_22.symm.trans h1)) ▸ h2, fun h1 => ⟨197, fr_22, h1⟩⟩
theorem wl_22 : wE (a_g3, g0) F (sx 7 (sx 5 (sx 3 z0 z0 z0) (sv 22) z0) b z0) (182 :: en) h Q = (wE (a_g3, g0) F b (182 :: en) h fun y h2 => (0 ≤ j_hd y ∧ j_hd y < 6) ∧ Q [h2 197 (j_hd y).toNat] h2) := by
  rw [we_7, wa_22]
  have e : ∀ y : List Int, ((0 ≤ j_hd y ∧ j_hd y < j_len a_g3 (197 : Int).toNat)) = (0 ≤ j_hd y ∧ j_hd y < 6) := fun y => by rw [fl_197]
  show (wE (a_g3, g0) F b (182 :: en) h fun y h2 => (0 : Nat) = 0 ∧ (0 ≤ j_hd y ∧ j_hd y < j_len a_g3 (197 : Int).toNat) ∧ Q [h2 197 (j_hd y).toNat] h2) = _
  simp only [e, true_and]
theorem wt_22 {ty_w : Nat} {v : SX} : wS (a_g3, g0) F K (sx 7 (sx 5 (sx 3 z0 z0 z0) (sv 22) z0) b (so ty_w v)) (182 :: en) h R = (wE (a_g3, g0) F b (182 :: en) h fun y h2 => wE (a_g3, g0) F v (182 :: en) h2 fun z h3 => (0 ≤ j_hd y ∧ j_hd y < 6) ∧ R 0 [] (182 :: en) (j_up h3 197 (j_hd y).toNat (w_ty ty_w (j_hd z)))) := by
  rw [ws_7, wa_22]
  have e : ∀ y : List Int, ((0 ≤ j_hd y ∧ j_hd y < j_len a_g3 (197 : Int).toNat)) = (0 ≤ j_hd y ∧ j_hd y < 6) := fun y => by rw [fl_197]
  show (wE (a_g3, g0) F b (182 :: en) h fun y h2 => wE (a_g3, g0) F v (182 :: en) h2 fun z h3 => (0 ≤ j_hd y ∧ j_hd y < j_len a_g3 (197 : Int).toNat) ∧ R 0 [] (182 :: en) (j_up h3 197 (j_hd y).toNat (w_ty ty_w (j_hd z)))) = _
  simp only [e]
theorem wu_22 {op_w : Nat} {v : SX} : wS (a_g3, g0) F K (sx 8 (sx 5 (sx 3 z0 z0 z0) (sv 22) z0) b (so op_w v)) (182 :: en) h R = (wE (a_g3, g0) F b (182 :: en) h fun y h2 => (0 ≤ j_hd y ∧ j_hd y < 6) ∧ wE (a_g3, g0) F v (182 :: en) h2 fun z h3 => R 0 [] (182 :: en) (j_up h3 197 (j_hd y).toNat (j_iop op_w (h2 197 (j_hd y).toNat) (j_hd z)))) := by
  rw [ws_8, wa_22]
  have e : ∀ y : List Int, ((0 ≤ j_hd y ∧ j_hd y < j_len a_g3 (197 : Int).toNat)) = (0 ≤ j_hd y ∧ j_hd y < 6) := fun y => by rw [fl_197]
  show (wE (a_g3, g0) F b (182 :: en) h fun y h2 => (0 ≤ j_hd y ∧ j_hd y < j_len a_g3 (197 : Int).toNat) ∧ wE (a_g3, g0) F v (182 :: en) h2 fun z h3 => R 0 [] (182 :: en) (j_up h3 197 (j_hd y).toNat (j_iop op_w (h2 197 (j_hd y).toNat) (j_hd z)))) = _
  simp only [e]
theorem fr_23 : j_rf a_g3 (182 : Int).toNat 23 = some 198 := by decide +kernel
theorem fl_198 : j_len a_g3 (198 : Int).toNat = 4 := by decide +kernel
theorem wa_23 : wE (a_g3, g0) F (sx 5 (sx 3 z0 z0 z0) (sv 23) c) (182 :: en) h Q = Q [198] h := propext ⟨fun ⟨r, h1, h2⟩ => (Option.some.inj (fr_23.symm.trans h1)) ▸ h2, fun h1 => ⟨198, fr_23, h1⟩⟩
theorem wl_23 : wE (a_g3, g0) F (sx 7 (sx 5 (sx 3 z0 z0 z0) (sv 23) z0) b z0) (182 :: en) h Q = (wE (a_g3, g0) F b (182 :: en) h fun y h2 => (0 ≤ j_hd y ∧ j_hd y < 4) ∧ Q [h2 198 (j_hd y).toNat] h2) := by
  rw [we_7, wa_23]
  have e : ∀ y : List Int, ((0 ≤ j_hd y ∧ j_hd y < j_len a_g3 (198 : Int).toNat)) = (0 ≤ j_hd y ∧ j_hd y < 4) := fun y => by rw [fl_198]
  show (wE (a_g3, g0) F b (182 :: en) h fun y h2 => (0 : Nat) = 0 ∧ (0 ≤ j_hd y ∧ j_hd y < j_len a_g3 (198 : Int).toNat) ∧ Q [h2 198 (j_hd y).toNat] h2) = _
  simp only [e, true_and]
theorem wt_23 {ty_w : Nat} {v : SX} : wS (a_g3, g0) F K (sx 7 (sx 5 (sx 3 z0 z0 z0) (sv 23) z0) b (so ty_w v)) (182 :: en) h R = (wE (a_g3, g0) F b (182 :: en) h fun y h2 => wE (a_g3, g0) F v (182 :: en) h2 fun z h3 => (0 ≤ j_hd y ∧ j_hd y < 4) ∧ R 0 [] (182 :: en) (j_up h3 198 (j_hd y).toNat (w_ty ty_w (j_hd z)))) := by
  rw [ws_7, wa_23]
  have e : ∀ y : List Int, ((0 ≤ j_hd y ∧ j_hd y < j_len a_g3 (198 : Int).toNat)) = (0 ≤ j_hd y ∧ j_hd y < 4) := fun y => by rw [fl_198]
  show (wE (a_g3, g0) F b (182 :: en) h fun y h2 => wE (a_g3, g0) F v (182 :: en) h2 fun z h3 => (0 ≤ j_hd y ∧ j_hd y < j_len a_g3 (198 : Int).toNat) ∧ R 0 [] (182 :: en) (j_up h3 198 (j_hd y).toNat (w_ty ty_w (j_hd z)))) = _
  simp only [e]
theorem wu_23 {op_w : Nat} {v : SX} : wS (a_g3, g0) F K (sx 8 (sx 5 (sx 3 z0 z0 z0) (sv 23) z0) b (so op_w v)) (182 :: en) h R = (wE (a_g3, g0) F b (182 :: en) h fun y h2 => (0 ≤ j_hd y ∧ j_hd y < 4) ∧ wE (a_g3, g0) F v (182 :: en) h2 fun z h3 => R 0 [] (182 :: en) (j_up h3 198 (j_hd y).toNat (j_iop op_w (h2 198 (j_hd y).toNat) (j_hd z)))) := by
  rw [ws_8, wa_23]
  have e : ∀ y : List Int, ((0 ≤ j_hd y ∧ j_hd y < j_len a_g3 (198 : Int).toNat)) = (0 ≤ j_hd y ∧ j_hd y < 4) := fun y => by rw [fl_198]
  show (wE (a_g3, g0) F b (182 :: en) h fun y h2 => (0 ≤ j_hd y ∧ j_hd y < j_len a_g3 (198 : Int).toNat) ∧ wE (a_g3, g0) F v (182 :: en) h2 fun z h3 => R 0 [] (182 :: en) (j_up h3 198 (j_hd y).toNat (j_iop op_w (h2 198 (j_hd y).toNat) (j_hd z)))) = _
  simp only [e]
theorem fr_24 : j_rf a_g3 (182 : Int).toNat 24 = some 199 := by decide +kernel
theorem fl_199 : j_len a_g3 (199 : Int).toNat = 4 := by decide +kernel
theorem wa_24 : wE (a_g3, g0) F (sx 5 (sx 3 z0 z0 z0) (sv 24) c) (182 :: en) h Q = Q [199] h := propext ⟨fun ⟨r, h1, h2⟩ => (Option.some.inj (fr_24.symm.trans h1)) ▸ h2, fun h1 => ⟨199, fr_24, h1⟩⟩
theorem wl_24 : wE (a_g3, g0) F (sx 7 (sx 5 (sx 3 z0 z0 z0) (sv 24) z0) b z0) (182 :: en) h Q = (wE (a_g3, g0) F b (182 :: en) h fun y h2 => (0 ≤ j_hd y ∧ j_hd y < 4) ∧ Q [h2 199 (j_hd y).toNat] h2) := by
  rw [we_7, wa_24]
  have e : ∀ y : List Int, ((0 ≤ j_hd y ∧ j_hd y < j_len a_g3 (199 : Int).toNat)) = (0 ≤ j_hd y ∧ j_hd y < 4) := fun y => by rw [fl_199]
  show (wE (a_g3, g0) F b (182 :: en) h fun y h2 => (0 : Nat) = 0 ∧ (0 ≤ j_hd y ∧ j_hd y < j_len a_g3 (199 : Int).toNat) ∧ Q [h2 199 (j_hd y).toNat] h2) = _
  simp only [e, true_and]
theorem wt_24 {ty_w : Nat} {v : SX} : wS (a_g3, g0) F K (sx 7 (sx 5 (sx 3 z0 z0 z0) (sv 24) z0) b (so ty_w v)) (182 :: en) h R = (wE (a_g3, g0) F b (182 :: en) h fun y h2 => wE (a_g3, g0) F v (182 :: en) h2 fun z h3 => (0 ≤ j_hd y ∧ j_hd y < 4) ∧ R 0 [] (182 :: en) (j_up h3 199 (j_hd y).toNat (w_ty ty_w (j_hd z)))) := by
  rw [ws_7, wa_24]
  have e : ∀ y : List Int, ((0 ≤ j_hd y ∧ j_hd y < j_len a_g3 (199 : Int).toNat)) = (0 ≤ j_hd y ∧ j_hd y < 4) := fun y => by rw [fl_199]
  show (wE (a_g3, g0) F b (182 :: en) h fun y h2 => wE (a_g3, g0) F v (182 :: en) h2 fun z h3 => (0 ≤ j_hd y ∧ j_hd y < j_len a_g3 (199 : Int).toNat) ∧ R 0 [] (182 :: en) (j_up h3 199 (j_hd y).toNat (w_ty ty_w (j_hd z)))) = _
  simp only [e]
theorem wu_24 {op_w : Nat} {v : SX} : wS (a_g3, g0) F K (sx 8 (sx 5 (sx 3 z0 z0 z0) (sv 24) z0) b (so op_w v)) (182 :: en) h R = (wE (a_g3, g0) F b (182 :: en) h fun y h2 => (0 ≤ j_hd y ∧ j_hd y < 4) ∧ wE (a_g3, g0) F v (182 :: en) h2 fun z h3 => R 0 [] (182 :: en) (j_up h3 199 (j_hd y).toNat (j_iop op_w (h2 199 (j_hd y).toNat) (j_hd z)))) := by
  rw [ws_8, wa_24]
  have e : ∀ y : List Int, ((0 ≤ j_hd y ∧ j_hd y < j_len a_g3 (199 : Int).toNat)) = (0 ≤ j_hd y ∧ j_hd y < 4) := fun y => by rw [fl_199]
  show (wE (a_g3, g0) F b (182 :: en) h fun y h2 => (0 ≤ j_hd y ∧ j_hd y < j_len a_g3 (199 : Int).toNat) ∧ wE (a_g3, g0) F v (182 :: en) h2 fun z h3 => R 0 [] (182 :: en) (j_up h3 199 (j_hd y).toNat (j_iop op_w (h2 199 (j_hd y).toNat) (j_hd z)))) = _
  simp only [e]
theorem fr_26 : j_rf a_g3 (182 : Int).toNat 26 = some 200 := by decide +kernel
theorem fl_200 : j_len a_g3 (200 : Int).toNat = 6 := by decide +kernel
theorem wa_26 : wE (a_g3, g0) F (sx 5 (sx 3 z0 z0 z0) (sv 26) c) (182 :: en) h Q = Q [200] h := propext ⟨fun ⟨r, h1, h2⟩ => (Option.some.inj (fr_26.symm.trans h1)) ▸ h2, fun h1 => ⟨200, fr_26, h1⟩⟩
theorem wl_26 : wE (a_g3, g0) F (sx 7 (sx 5 (sx 3 z0 z0 z0) (sv 26) z0) b z0) (182 :: en) h Q = (wE (a_g3, g0) F b (182 :: en) h fun y h2 => (0 ≤ j_hd y ∧ j_hd y < 6) ∧ Q [h2 200 (j_hd y).toNat] h2) := by
  rw [we_7, wa_26]
  have e : ∀ y : List Int, ((0 ≤ j_hd y ∧ j_hd y < j_len a_g3 (200 : Int).toNat)) = (0 ≤ j_hd y ∧ j_hd y < 6) := fun y => by rw [fl_200]
  show (wE (a_g3, g0) F b (182 :: en) h fun y h2 => (0 : Nat) = 0 ∧ (0 ≤ j_hd y ∧ j_hd y < j_len a_g3 (200 : Int).toNat) ∧ Q [h2 200 (j_hd y).toNat] h2) = _
  simp only [e, true_and]
theorem wt_26 {ty_w : Nat} {v : SX} : wS (a_g3, g0) F K (sx 7 (sx 5 (sx 3 z0 z0 z0) (sv 26) z0) b (so ty_w v)) (182 :: en) h R = (wE (a_g3, g0) F b (182 :: en) h fun y h2 => wE (a_g3, g0) F v (182 :: en) h2 fun z h3 => (0 ≤ j_hd y ∧ j_hd y < 6) ∧ R 0 [] (182 :: en) (j_up h3 200 (j_hd y).toNat (w_ty ty_w (j_hd z)))) := by
  rw [ws_7, wa_26]
  have e : ∀ y : List Int, ((0 ≤ j_hd y ∧ j_hd y < j_len a_g3 (200 : Int).toNat)) = (0 ≤ j_hd y ∧ j_hd y < 6) := fun y => by rw [fl_200]
  show (wE (a_g3, g0) F b (182 :: en) h fun y h2 => wE (a_g3, g0) F v (182 :: en) h2 fun z h3 => (0 ≤ j_hd y ∧ j_hd y < j_len a_g3 (200 : Int).toNat) ∧ R 0 [] (182 :: en) (j_up h3 200 (j_hd y).toNat (w_ty ty_w (j_hd z)))) = _
  simp only [e]
theorem wu_26 {op_w : Nat} {v : SX} : wS (a_g3, g0) F K (sx 8 (sx 5 (sx 3 z0 z0 z0) (sv 26) z0) b (so op_w v)) (182 :: en) h R = (wE (a_g3, g0) F b (182 :: en) h fun y h2 => (0 ≤ j_hd y ∧ j_hd y < 6) ∧ wE (a_g3, g0) F v (182 :: en) h2 fun z h3 => R 0 [] (182 :: en) (j_up h3 200 (j_hd y).toNat (j_iop op_w (h2 200 (j_hd y).toNat) (j_hd z)))) := by
  rw [ws_8, wa_26]
  have e : ∀ y : List Int, ((0 ≤ j_hd y ∧ j_hd y < j_len a_g3 (200 : Int).toNat)) = (0 ≤ j_hd y ∧ j_hd y < 6) := fun y => by rw [fl_200]
  show (wE (a_g3, g0) F b (182 :: en) h fun y h2 => (0 ≤ j_hd y ∧ j_hd y < j_len a_g3 (200 : Int).toNat) ∧ wE (a_g3, g0) F v (182 :: en) h2 fun z h3 => R 0 [] (182 :: en) (j_up h3 200 (j_hd y).toNat (j_iop op_w (h2 200 (j_hd y).toNat) (j_hd z)))) = _
  simp only [e]
theorem fr_27 : j_rf a_g3 (182 : Int).toNat 27 = some 201 := by decide +kernel
theorem fl_201 : j_len a_g3 (201 : Int).toNat = 6 := by decide +kernel
theorem wa_27 : wE (a_g3, g0) F (sx 5 (sx 3 z0 z0 z0) (sv 27) c) (182 :: en) h Q = Q [201] h := propext ⟨fun ⟨r, h1, h2⟩ => (Option.some.inj (fr_27.symm.trans h1)) ▸ h2, fun h1 => ⟨201, fr_27, h1⟩⟩
theorem wl_27 : wE (a_g3, g0) F (sx 7 (sx 5 (sx 3 z0 z0 z0) (sv 27) z0) b z0) (182 :: en) h Q = (wE (a_g3, g0) F b (182 :: en) h fun y h2 => (0 ≤ j_hd y ∧ j_hd y < 6) ∧ Q [h2 201 (j_hd y).toNat] h2) := by
  rw [we_7, wa_27]
  have e : ∀ y : List Int, ((0 ≤ j_hd y ∧ j_hd y < j_len a_g3 (201 : Int).toNat)) = (0 ≤ j_hd y ∧ j_hd y < 6) := fun y => by rw [fl_201]
  show (wE (a_g3, g0) F b (182 :: en) h fun y h2 => (0 : Nat) = 0 ∧ (0 ≤ j_hd y ∧ j_hd y < j_len a_g3 (201 : Int).toNat) ∧ Q [h2 201 (j_hd y).toNat] h2) = _
  simp only [e, true_and]
theorem wt_27 {ty_w : Nat} {v : SX} : wS (a_g3, g0) F K (sx 7 (sx 5 (sx 3 z0 z0 z0) (sv 27) z0) b (so ty_w v)) (182 :: en) h R = (wE (a_g3, g0) F b (182 :: en) h fun y h2 => wE (a_g3, g0) F v (182 :: en) h2 fun z h3 => (0 ≤ j_hd y ∧ j_hd y < 6) ∧ R 0 [] (182 :: en) (j_up h3 201 (j_hd y).toNat (w_ty ty_w (j_hd z)))) := by
  rw [ws_7, wa_27]
  have e : ∀ y : List Int, ((0 ≤ j_hd y ∧ j_hd y < j_len a_g3 (201 : Int).toNat)) = (0 ≤ j_hd y ∧ j_hd y < 6) := fun y => by rw [fl_201]
  show (wE (a_g3, g0) F b (182 :: en) h fun y h2 => wE (a_g3, g0) F v (182 :: en) h2 fun z h3 => (0 ≤ j_hd y ∧ j_hd y < j_len a_g3 (201 : Int).toNat) ∧ R 0 [] (182 :: en) (j_up h3 201 (j_hd y).toNat (w_ty ty_w (j_hd z)))) = _
  simp only [e]
theorem wu_27 {op_w : Nat} {v : SX} : wS (a_g3, g0) F K (sx 8 (sx 5 (sx 3 z0 z0 z0) (sv 27) z0) b (so op_w v)) (182 :: en) h R = (wE (a_g3, g0) F b (182 :: en) h fun y h2 => (0 ≤ j_hd y ∧ j_hd y < 6) ∧ wE (a_g3, g0) F v (182 :: en) h2 fun z h3 => R 0 [] (182 :: en) (j_up h3 201 (j_hd y).toNat (j_iop op_w (h2 201 (j_hd y).toNat) (j_hd z)))) := by
  rw [ws_8, wa_27]
  have e : ∀ y : List Int, ((0 ≤ j_hd y ∧ j_hd y < j_len a_g3 (201 : Int).toNat)) = (0 ≤ j_hd y ∧ j_hd y < 6) := fun y => by rw [fl_201]
  show (wE (a_g3, g0) F b (182 :: en) h fun y h2 => (0 ≤ j_hd y ∧ j_hd y < j_len a_g3 (201 : Int).toNat) ∧ wE (a_g3, g0) F v (182 :: en) h2 fun z h3 => R 0 [] (182 :: en) (j_up h3 201 (j_hd y).toNat (j_iop op_w (h2 201 (j_hd y).toNat) (j_hd z)))) = _
  simp only [e]
theorem fr_28 : j_rf a_g3 (182 : Int).toNat 28 = some 202 := by decide +kernel
theorem fl_202 : j_len a_g3 (202 : Int).toNat = 6 := by decide +kernel
theorem wa_28 : wE (a_g3, g0) F (sx 5 (sx 3 z0 z0 z0) (sv 28) c) (182 :: en) h Q = Q [202] h := propext ⟨fun ⟨r, h1, h2⟩ => (Option.some.inj (fr_28.symm.trans h1)) ▸ h2, fun h1 => ⟨202, fr_28, h1⟩⟩
theorem wl_28 : wE (a_g3, g0) F (sx 7 (sx 5 (sx 3 z0 z0 z0) (sv 28) z0) b z0) (182 :: en) h Q = (wE (a_g3, g0) F b (182 :: en) h fun y h2 => (0 ≤ j_hd y ∧ j_hd y < 6) ∧ Q [h2 202 (j_hd y).toNat] h2) := by
  rw [we_7, wa_28]
  have e : ∀ y : List Int, ((0 ≤ j_hd y ∧ j_hd y < j_len a_g3 (202 : Int).toNat)) = (0 ≤ j_hd y ∧ j_hd y < 6) := fun y => by rw [fl_202]
  show (wE (a_g3, g0) F b (182 :: en) h fun y h2 => (0 : Nat) = 0 ∧ (0 ≤ j_hd y ∧ j_hd y < j_len a_g3 (202 : Int).toNat) ∧ Q [h2 202 (j_hd y).toNat] h2) = _
  simp only [e, true_and]
theorem wt_28 {ty_w : Nat} {v : SX} : wS (a_g3, g0) F K (sx 7 (sx 5 (sx 3 z0 z0 z0) (sv 28) z0) b (so ty_w v)) (182 :: en) h R = (wE (a_g3, g0) F b (182 :: en) h fun y h2 => wE (a_g3, g0) F v (182 :: en) h2 fun z h3 => (0 ≤ j_hd y ∧ j_hd y < 6) ∧ R 0 [] (182 :: en) (j_up h3 202 (j_hd y).toNat (w_ty ty_w (j_hd z)))) := by
  rw [ws_7, wa_28]
  have e : ∀ y : List Int, ((0 ≤ j_hd y ∧ j_hd y < j_len a_g3 (202 : Int).toNat)) = (0 ≤ j_hd y ∧ j_hd y < 6) := fun y => by rw [fl_202]
  show (wE (a_g3, g0) F b (182 :: en) h fun y h2 => wE (a_g3, g0) F v (182 :: en) h2 fun z h3 => (0 ≤ j_hd y ∧ j_hd y < j_len a_g3 (202 : Int).toNat) ∧ R 0 [] (182 :: en) (j_up h3 202 (j_hd y).toNat (w_ty ty_w (j_hd z)))) = _
  simp only [e]
theorem wu_28 {op_w : Nat} {v : SX} : wS (a_g3, g0) F K (sx 8 (sx 5 (sx 3 z0 z0 z0) (sv 28) z0) b (so op_w v)) (182 :: en) h R = (wE (a_g3, g0) F b (182 :: en) h fun y h2 => (0 ≤ j_hd y ∧ j_hd y < 6) ∧ wE (a_g3, g0) F v (182 :: en) h2 fun z h3 => R 0 [] (182 :: en) (j_up h3 202 (j_hd y).toNat (j_iop op_w (h2 202 (j_hd y).toNat) (j_hd z)))) := by
  rw [ws_8, wa_28]
  have e : ∀ y : List Int, ((0 ≤ j_hd y ∧ j_hd y < j_len a_g3 (202 : Int).toNat)) = (0 ≤ j_hd y ∧ j_hd y < 6) := fun y => by rw [fl_202]
  show (wE (a_g3, g0) F b (182 :: en) h fun y h2 => (0 ≤ j_hd y ∧ j_hd y < j_len a_g3 (202 : Int).toNat) ∧ wE (a_g3, g0) F v (182 :: en) h2 fun z h3 => R 0 [] (182 :: en) (j_up h3 202 (j_hd y).toNat (j_iop op_w (h2 202 (j_hd y).toNat) (j_hd z)))) = _
  simp only [e]
theorem w_lp (I : List Int → XH → Prop) (m : List Int → XH → Nat) (h0 : I en h) (hs : ∀ en h, I en h → m en h < K ∧ wC g F a en h (fun h1 => wS g F K b en h1 fun k vs en1 h2 => (k = 0 ∨ k = 3 → wS g F K c en1 h2 fun k' _ en2 h3 => k' = 0 ∧ I en2 h3 ∧ m en2 h3 < m en h) ∧ (k = 2 → R 0 [] en1 h2) ∧ (k ≠ 0 → k ≠ 2 → k ≠ 3 → R k vs en1 h2)) (fun h1 => R 0 [] en h1)) : wS g F K (sx 12 a b c) en h R := ⟨I, m, h0, hs⟩
theorem w_dp (I : List Int → XH → Prop) (m : List Int → XH → Nat) (h0 : I en h) (hs : ∀ en h, I en h → m en h < K ∧ wS g F K b en h fun k vs en1 h2 => (k = 0 ∨ k = 3 → wC g F a en1 h2 (fun h3 => I en1 h3 ∧ m en1 h3 < m en h) (fun h3 => R 0 [] en1 h3)) ∧ (k = 2 → R 0 [] en1 h2) ∧ (k ≠ 0 → k ≠ 2 → k ≠ 3 → R k vs en1 h2)) : wS g F K (sx 13 a b c) en h R := ⟨I, m, h0, hs⟩
end WEQ
theorem w_ty6 {v : Int} : w_ty 6 v = v := id rfl
theorem w_ty7 {v : Int} : w_ty 7 v = v := id rfl
section KC_w
variable {b c : SX}
theorem kc_0 : sx_c z0 b z0 = 0 := id rfl
theorem kc_1 : sx_c (sv 1) b z0 = 1 := id rfl
theorem kn_1 : sx_c (sv 1) b (sv 1) = -1 := id rfl
theorem kc_2 : sx_c (sv 2) b z0 = 2 := id rfl
theorem kn_2 : sx_c (sv 2) b (sv 1) = -2 := id rfl
theorem kc_3 : sx_c (sv 3) b z0 = 3 := id rfl
theorem kc_4 : sx_c (sv 4) b z0 = 4 := id rfl
theorem kc_5 : sx_c (sv 5) b z0 = 5 := id rfl
theorem kc_6 : sx_c (sv 6) b z0 = 6 := id rfl
theorem kc_7 : sx_c (sv 7) b z0 = 7 := id rfl
theorem kc_8 : sx_c (sv 8) b z0 = 8 := id rfl
theorem kc_9 : sx_c (sv 9) b z0 = 9 := id rfl
theorem kc_10 : sx_c (sv 10) b z0 = 10 := id rfl
theorem kc_12 : sx_c (sv 12) b z0 = 12 := id rfl
theorem kc_13 : sx_c (sv 13) b z0 = 13 := id rfl
theorem kc_14 : sx_c (sv 14) b z0 = 14 := id rfl
theorem kc_16 : sx_c (sv 16) b z0 = 16 := id rfl
theorem kc_17 : sx_c (sv 17) b z0 = 17 := id rfl
theorem kc_18 : sx_c (sv 18) b z0 = 18 := id rfl
theorem kc_19 : sx_c (sv 19) b z0 = 19 := id rfl
theorem kc_20 : sx_c (sv 20) b z0 = 20 := id rfl
theorem kc_21 : sx_c (sv 21) b z0 = 21 := id rfl
theorem kc_22 : sx_c (sv 22) b z0 = 22 := id rfl
theorem kc_24 : sx_c (sv 24) b z0 = 24 := id rfl
theorem kc_28 : sx_c (sv 28) b z0 = 28 := id rfl
theorem kc_30 : sx_c (sv 30) b z0 = 30 := id rfl
theorem kc_32 : sx_c (sv 32) b z0 = 32 := id rfl
theorem kc_37 : sx_c (sv 37) b z0 = 37 := id rfl
theorem kc_40 : sx_c (sv 40) b z0 = 40 := id rfl
theorem kc_41 : sx_c (sv 41) b z0 = 41 := id rfl
theorem kc_42 : sx_c (sv 42) b z0 = 42 := id rfl
theorem kc_43 : sx_c (sv 43) b z0 = 43 := id rfl
theorem kc_45 : sx_c (sv 45) b z0 = 45 := id rfl
theorem kc_48 : sx_c (sv 48) b z0 = 48 := id rfl
theorem kc_56 : sx_c (sv 56) b z0 = 56 := id rfl
theorem kc_57 : sx_c (sv 57) b z0 = 57 := id rfl
theorem kc_59 : sx_c (sv 59) b z0 = 59 := id rfl
theorem kc_60 : sx_c (sv 60) b z0 = 60 := id rfl
theorem kc_61 : sx_c (sv 61) b z0 = 61 := id rfl
theorem kc_64 : sx_c (sv 64) b z0 = 64 := id rfl
theorem kc_73 : sx_c (sv 73) b z0 = 73 := id rfl
theorem kc_78 : sx_c (sv 78) b z0 = 78 := id rfl
theorem kc_91 : sx_c (sv 91) b z0 = 91 := id rfl
theorem kc_95 : sx_c (sv 95) b z0 = 95 := id rfl
theorem kc_96 : sx_c (sv 96) b z0 = 96 := id rfl
theorem kc_97 : sx_c (sv 97) b z0 = 97 := id rfl
theorem kc_98 : sx_c (sv 98) b z0 = 98 := id rfl
theorem kc_99 : sx_c (sv 99) b z0 = 99 := id rfl
theorem kc_100 : sx_c (sv 100) b z0 = 100 := id rfl
theorem kc_112 : sx_c (sv 112) b z0 = 112 := id rfl
theorem kc_122 : sx_c (sv 122) b z0 = 122 := id rfl
theorem kc_125 : sx_c (sv 125) b z0 = 125 := id rfl
theorem kc_126 : sx_c (sv 126) b z0 = 126 := id rfl
theorem kc_150 : sx_c (sv 150) b z0 = 150 := id rfl
theorem kc_162 : sx_c (sv 162) b z0 = 162 := id rfl
theorem kc_163 : sx_c (sv 163) b z0 = 163 := id rfl
theorem kc_168 : sx_c (sv 168) b z0 = 168 := id rfl
theorem kc_186 : sx_c (sv 186) b z0 = 186 := id rfl
theorem kc_190 : sx_c (sv 190) b z0 = 190 := id rfl
theorem kc_200 : sx_c (sv 200) b z0 = 200 := id rfl
theorem kc_250 : sx_c (sv 250) b z0 = 250 := id rfl
theorem kc_255 : sx_c (sv 255) b z0 = 255 := id rfl
theorem kc_355 : sx_c (sv 355) b z0 = 355 := id rfl
theorem kc_356 : sx_c (sv 356) b z0 = 356 := id rfl
theorem kc_404 : sx_c (sv 404) b z0 = 404 := id rfl
theorem kc_405 : sx_c (sv 405) b z0 = 405 := id rfl
theorem kc_429 : sx_c (sv 429) b z0 = 429 := id rfl
theorem kc_573 : sx_c (sv 573) b z0 = 573 := id rfl
theorem kc_999 : sx_c (sv 999) b z0 = 999 := id rfl
theorem kc_1000 : sx_c (sv 1000) b z0 = 1000 := id rfl
theorem kc_1002 : sx_c (sv 1002) b z0 = 1002 := id rfl
theorem kc_1100 : sx_c (sv 1100) b z0 = 1100 := id rfl
theorem kc_1891 : sx_c (sv 1891) b z0 = 1891 := id rfl
theorem kc_2200 : sx_c (sv 2200) b z0 = 2200 := id rfl
theorem kc_4719 : sx_c (sv 4719) b z0 = 4719 := id rfl
theorem kc_4869 : sx_c (sv 4869) b z0 = 4869 := id rfl
theorem kc_4881 : sx_c (sv 4881) b z0 = 4881 := id rfl
theorem kc_5148 : sx_c (sv 5148) b z0 = 5148 := id rfl
theorem kc_9999 : sx_c (sv 9999) b z0 = 9999 := id rfl
theorem kn_9999 : sx_c (sv 9999) b (sv 1) = -9999 := id rfl
theorem kc_10000 : sx_c (sv 10000) b z0 = 10000 := id rfl
theorem kc_12345 : sx_c (sv 12345) b z0 = 12345 := id rfl
theorem kc_19741 : sx_c (sv 19741) b z0 = 19741 := id rfl
theorem kc_25433 : sx_c (sv 25433) b z0 = 25433 := id rfl
theorem kc_65536 : sx_c (sv 65536) b z0 = 65536 := id rfl
theorem kc_320403 : sx_c (sv 320403) b z0 = 320403 := id rfl
theorem kc_628412 : sx_c (sv 628412) b z0 = 628412 := id rfl
theorem kc_629093 : sx_c (sv 629093) b z0 = 629093 := id rfl
theorem kc_660401 : sx_c (sv 660401) b z0 = 660401 := id rfl
theorem kc_679843 : sx_c (sv 679843) b z0 = 679843 := id rfl
theorem kc_918640 : sx_c (sv 918640) b z0 = 918640 := id rfl
theorem kc_979410 : sx_c (sv 979410) b z0 = 979410 := id rfl
theorem kc_1178088 : sx_c (sv 1178088) b z0 = 1178088 := id rfl
theorem kc_6232410 : sx_c (sv 6232410) b z0 = 6232410 := id rfl
theorem kc_24644941 : sx_c (sv 24644941) b z0 = 24644941 := id rfl
theorem kc_36238189 : sx_c (sv 36238189) b z0 = 36238189 := id rfl
theorem kc_38270444 : sx_c (sv 38270444) b z0 = 38270444 := id rfl
theorem kc_392531318 : sx_c (sv 392531318) b z0 = 392531318 := id rfl
theorem kc_425693491 : sx_c (sv 425693491) b z0 = 425693491 := id rfl
theorem kc_1103515245 : sx_c (sv 1103515245) b z0 = 1103515245 := id rfl
theorem kc_1342154595 : sx_c (sv 1342154595) b z0 = 1342154595 := id rfl
theorem kc_2147483648 : sx_c (sv 2147483648) b z0 = 2147483648 := id rfl
theorem kc_42328242873 : sx_c (sv 42328242873) b z0 = 42328242873 := id rfl
theorem kc_891704255789 : sx_c (sv 891704255789) b z0 = 891704255789 := id rfl
theorem kc_1722105685577 : sx_c (sv 1722105685577) b z0 = 1722105685577 := id rfl
theorem kc_1858726030364 : sx_c (sv 1858726030364) b z0 = 1858726030364 := id rfl
end KC_w
theorem ct_0 {x y : Int} : (j_cmp 0 x y = true) = (x = y) := by
  unfold j_cmp
  simp only [decide_eq_true_eq]
theorem cf_0 {x y : Int} : (j_cmp 0 x y = false) = (x ≠ y) := by
  unfold j_cmp
  simp only [decide_eq_false_iff_not, eq_iff_iff]
  all_goals omega
theorem ct_1 {x y : Int} : (j_cmp 1 x y = true) = (x ≠ y) := by
  unfold j_cmp
  simp only [decide_eq_true_eq]
theorem cf_1 {x y : Int} : (j_cmp 1 x y = false) = (x = y) := by
  unfold j_cmp
  simp only [decide_eq_false_iff_not, eq_iff_iff]
  all_goals omega
theorem ct_2 {x y : Int} : (j_cmp 2 x y = true) = (x < y) := by
  unfold j_cmp
  simp only [decide_eq_true_eq]
theorem cf_2 {x y : Int} : (j_cmp 2 x y = false) = (y ≤ x) := by
  unfold j_cmp
  simp only [decide_eq_false_iff_not, eq_iff_iff]
  all_goals omega
theorem ct_3 {x y : Int} : (j_cmp 3 x y = true) = (x ≥ y) := by
  unfold j_cmp
  simp only [decide_eq_true_eq]
theorem cf_3 {x y : Int} : (j_cmp 3 x y = false) = (x < y) := by
  unfold j_cmp
  simp only [decide_eq_false_iff_not, eq_iff_iff]
  all_goals omega
theorem ct_4 {x y : Int} : (j_cmp 4 x y = true) = (x > y) := by
  unfold j_cmp
  simp only [decide_eq_true_eq]
theorem cf_4 {x y : Int} : (j_cmp 4 x y = false) = (x ≤ y) := by
  unfold j_cmp
  simp only [decide_eq_false_iff_not, eq_iff_iff]
  all_goals omega
theorem ct_5 {x y : Int} : (j_cmp 5 x y = true) = (x ≤ y) := by
  unfold j_cmp
  simp only [decide_eq_true_eq]
theorem cf_5 {x y : Int} : (j_cmp 5 x y = false) = (y < x) := by
  unfold j_cmp
  simp only [decide_eq_false_iff_not, eq_iff_iff]
  all_goals omega
theorem jadd {x y : Int} (h1 : -2147483648 ≤ x + y) (h2 : x + y < 2147483648) : j_iop 0 x y = x + y := j32_in ⟨h1, h2⟩
theorem jsub {x y : Int} (h1 : -2147483648 ≤ x - y) (h2 : x - y < 2147483648) : j_iop 1 x y = x - y := j32_in ⟨h1, h2⟩
theorem jmul {x y : Int} (h1 : -2147483648 ≤ x * y) (h2 : x * y < 2147483648) : j_iop 2 x y = x * y := j32_in ⟨h1, h2⟩
theorem jinc {x : Int} (h1 : -2147483648 ≤ x + 1) (h2 : x + 1 < 2147483648) : j32 (x + 1) = x + 1 := j32_in ⟨h1, h2⟩
theorem jdec {x : Int} (h1 : -2147483648 ≤ x - 1) (h2 : x - 1 < 2147483648) : j32 (x + -1) = x - 1 := j32_in ⟨h1, h2⟩
theorem m_sv {n : Nat} : sx_n (sv n) = n := id rfl
theorem m_z0 : sx_n z0 = 0 := id rfl
theorem m_hd {x : Int} {l : List Int} : j_hd (x :: l) = x := id rfl
theorem m_g0 {x d : Int} {l : List Int} : (x :: l).getD 0 d = x := id rfl
theorem m_gs {x d : Int} {n : Nat} {l : List Int} : (x :: l).getD (n + 1) d = l.getD n d := id rfl
theorem m_s0 {x y : Int} {l : List Int} : (x :: l).set 0 y = y :: l := id rfl
theorem m_ss {x y : Int} {n : Nat} {l : List Int} : (x :: l).set (n + 1) y = x :: l.set n y := id rfl
theorem m_ap {x : Int} {l k : List Int} : (x :: l) ++ k = x :: (l ++ k) := id rfl
theorem m_an {l : List Int} : [] ++ l = l := id rfl
theorem m_it {a b : Int} : (if True then a else b) = a := id rfl
theorem m_if {a b : Int} : (if False then a else b) = b := id rfl
theorem m_c1 : ((1 : Nat) : Int) = 1 := id rfl
theorem m_01 : ((0 : Nat) = 1) = False := propext ⟨by decide, False.elim⟩
theorem m_02 : ((0 : Nat) = 2) = False := propext ⟨by decide, False.elim⟩
theorem m_03 : ((0 : Nat) = 3) = False := propext ⟨by decide, False.elim⟩
theorem m_04 : ((0 : Nat) = 4) = False := propext ⟨by decide, False.elim⟩
theorem m_10 : ((1 : Nat) = 0) = False := propext ⟨by decide, False.elim⟩
theorem m_12 : ((1 : Nat) = 2) = False := propext ⟨by decide, False.elim⟩
theorem m_13 : ((1 : Nat) = 3) = False := propext ⟨by decide, False.elim⟩
theorem m_14 : ((1 : Nat) = 4) = False := propext ⟨by decide, False.elim⟩
theorem m_20 : ((2 : Nat) = 0) = False := propext ⟨by decide, False.elim⟩
theorem m_21 : ((2 : Nat) = 1) = False := propext ⟨by decide, False.elim⟩
theorem m_23 : ((2 : Nat) = 3) = False := propext ⟨by decide, False.elim⟩
theorem m_24 : ((2 : Nat) = 4) = False := propext ⟨by decide, False.elim⟩
theorem m_30 : ((3 : Nat) = 0) = False := propext ⟨by decide, False.elim⟩
theorem m_31 : ((3 : Nat) = 1) = False := propext ⟨by decide, False.elim⟩
theorem m_32 : ((3 : Nat) = 2) = False := propext ⟨by decide, False.elim⟩
theorem m_34 : ((3 : Nat) = 4) = False := propext ⟨by decide, False.elim⟩
theorem m_40 : ((4 : Nat) = 0) = False := propext ⟨by decide, False.elim⟩
theorem m_41 : ((4 : Nat) = 1) = False := propext ⟨by decide, False.elim⟩
theorem m_42 : ((4 : Nat) = 2) = False := propext ⟨by decide, False.elim⟩
theorem m_43 : ((4 : Nat) = 3) = False := propext ⟨by decide, False.elim⟩
theorem gm_186 : g_M 186 = (0, 1, [1], [1], bb_186) := rfl
theorem gm_187 : g_M 187 = (0, 1, [1], [1], bb_187) := rfl
theorem gm_188 : g_M 188 = (0, 1, [1], [1], bb_188) := rfl
theorem gm_189 : g_M 189 = (0, 1, [1], [1], bb_189) := rfl
theorem gm_190 : g_M 190 = (0, 7, [20], [], bb_190) := rfl
theorem gm_191 : g_M 191 = (0, 2, [20, 1], [], bb_191) := rfl
theorem gm_192 : g_M 192 = (0, 2, [20, 1], [1], bb_192) := rfl
theorem gm_193 : g_M 193 = (0, 2, [20, 1], [1], bb_193) := rfl
theorem gm_194 : g_M 194 = (0, 2, [20, 1], [], bb_194) := rfl
theorem gm_195 : g_M 195 = (0, 3, [20, 1], [1], bb_195) := rfl
theorem gm_196 : g_M 196 = (0, 3, [20, 1], [1], bb_196) := rfl
theorem gm_197 : g_M 197 = (0, 2, [20, 1], [], bb_197) := rfl
theorem gm_199 : g_M 199 = (0, 3, [20, 1], [], bb_199) := rfl
theorem gm_200 : g_M 200 = (0, 3, [20, 1, 1], [1], bb_200) := rfl
theorem gm_201 : g_M 201 = (0, 5, [20, 1, 1], [1], bb_201) := rfl
theorem gm_202 : g_M 202 = (0, 4, [20, 1, 1], [1], bb_202) := rfl
theorem gm_203 : g_M 203 = (0, 1, [20], [1], bb_203) := rfl
theorem gm_204 : g_M 204 = (0, 5, [20, 1, 1], [1], bb_204) := rfl
theorem gm_205 : g_M 205 = (0, 4, [20, 1, 1], [1], bb_205) := rfl
theorem gm_206 : g_M 206 = (0, 2, [20], [1], bb_206) := rfl
theorem gm_207 : g_M 207 = (0, 2, [20, 1], [1], bb_207) := rfl
theorem gm_208 : g_M 208 = (0, 4, [20, 1, 1, 1], [], bb_208) := rfl
theorem gm_209 : g_M 209 = (0, 2, [20, 1], [1], bb_209) := rfl
theorem gm_210 : g_M 210 = (0, 1, [20], [], bb_210) := rfl
theorem gm_211 : g_M 211 = (0, 5, [20, 1, 1], [1], bb_211) := rfl
theorem gm_212 : g_M 212 = (0, 5, [20], [], bb_212) := rfl
theorem gm_213 : g_M 213 = (0, 6, [20], [], bb_213) := rfl
theorem gm_214 : g_M 214 = (0, 3, [20], [1], bb_214) := rfl
theorem gm_215 : g_M 215 = (0, 4, [20, 1, 1], [], bb_215) := rfl
theorem gm_216 : g_M 216 = (0, 3, [20, 1, 1], [], bb_216) := rfl
theorem gm_217 : g_M 217 = (0, 3, [20, 1], [], bb_217) := rfl
theorem gm_218 : g_M 218 = (0, 3, [20, 1], [], bb_218) := rfl
theorem gm_219 : g_M 219 = (0, 3, [20, 1], [], bb_219) := rfl
theorem gm_220 : g_M 220 = (0, 2, [20, 1], [], bb_220) := rfl
theorem gm_221 : g_M 221 = (0, 4, [20, 1], [], bb_221) := rfl
theorem gm_222 : g_M 222 = (0, 5, [20, 1], [1], bb_222) := rfl
theorem gm_224 : g_M 224 = (0, 5, [20, 1, 1, 1], [], bb_224) := rfl
theorem gm_225 : g_M 225 = (0, 1, [20], [1], bb_225) := rfl
theorem gm_228 : g_M 228 = (0, 1, [20], [1], bb_228) := rfl
theorem gm_230 : g_M 230 = (0, 2, [20, 1], [1], bb_230) := rfl
theorem gm_232 : g_M 232 = (0, 4, [20, 1, 1], [1], bb_232) := rfl
theorem gm_240 : g_M 240 = (0, 4, [20, 1], [], bb_240) := rfl
theorem gm_241 : g_M 241 = (0, 1, [20], [], bb_241) := rfl
theorem gm_242 : g_M 242 = (0, 2, [20], [], bb_242) := rfl
theorem gm_244 : g_M 244 = (0, 5, [20, 1, 1, 1], [1], bb_244) := rfl
theorem gm_245 : g_M 245 = (0, 5, [20, 1, 1, 1], [1], bb_245) := rfl
theorem gm_247 : g_M 247 = (0, 8, [20, 1, 1, 1, 1], [1], bb_247) := rfl
theorem gm_248 : g_M 248 = (0, 8, [20, 1, 1, 1, 1, 1], [1], bb_248) := rfl
theorem gm_249 : g_M 249 = (0, 6, [20, 1, 1, 1], [1], bb_249) := rfl
theorem gm_251 : g_M 251 = (0, 11, [20, 1, 1], [], bb_251) := rfl
theorem gm_253 : g_M 253 = (0, 4, [20, 1, 1], [1], bb_253) := rfl
theorem gm_269 : g_M 269 = (0, 9, [20, 1, 1, 1, 1], [], bb_269) := rfl
theorem gm_270 : g_M 270 = (0, 5, [20, 1], [], bb_270) := rfl
theorem gm_271 : g_M 271 = (0, 1, [20], [1], bb_271) := rfl
theorem gm_272 : g_M 272 = (0, 1, [20], [1], bb_272) := rfl
theorem gm_273 : g_M 273 = (0, 5, [20, 1], [1], bb_273) := rfl
theorem gm_284 : g_M 284 = (0, 5, [20, 1, 1], [1], bb_284) := rfl
theorem gm_304 : g_M 304 = (0, 5, [20, 1, 1, 1], [1], bb_304) := rfl
theorem gm_305 : g_M 305 = (0, 6, [20], [1], bb_305) := rfl
theorem gm_309 : g_M 309 = (0, 2, [20, 1], [1], bb_309) := rfl
theorem gm_310 : g_M 310 = (0, 7, [20, 1, 1, 1], [1], bb_310) := rfl
theorem gm_311 : g_M 311 = (0, 3, [20, 1, 1], [1], bb_311) := rfl
theorem rp_223 : qP (r_T 0) 223 = [(1, (-2147483648), 2147483647), (1, (-2147483648), 2147483647), (1, (-2147483648), 2147483647)] := rfl
theorem rr_223 : qR (r_T 0) 223 = [(1, (-2147483648), 2147483647)] := rfl
theorem rp_224 : qP (r_T 0) 224 = [(4, 182, 182), (3, 0, 0), (3, 0, 0), (1, 0, 429)] := rfl
theorem rr_224 : qR (r_T 0) 224 = [] := rfl
theorem rp_225 : qP (r_T 0) 225 = [(4, 182, 182)] := rfl
theorem rr_225 : qR (r_T 0) 225 = [(1, 0, 12)] := rfl
theorem rp_227 : qP (r_T 0) 227 = [(4, 182, 182)] := rfl
theorem rr_227 : qR (r_T 0) 227 = [(1, 0, 4)] := rfl
theorem rp_228 : qP (r_T 0) 228 = [(4, 182, 182)] := rfl
theorem rr_228 : qR (r_T 0) 228 = [(7, 0, 0)] := rfl
theorem rp_229 : qP (r_T 0) 229 = [(4, 182, 182), (5, 0, 0)] := rfl
theorem rr_229 : qR (r_T 0) 229 = [(1, 0, 3)] := rfl
theorem rp_230 : qP (r_T 0) 230 = [(4, 182, 182), (5, 0, 0)] := rfl
theorem rr_230 : qR (r_T 0) 230 = [(6, 0, 0)] := rfl
theorem ru_230 : qU (r_T 0) 230 = [(4, 182, 182), (5, 0, 0)] := rfl
theorem rp_231 : qP (r_T 0) 231 = [(4, 182, 182), (6, 0, 0)] := rfl
theorem rr_231 : qR (r_T 0) 231 = [(1, 0, 999)] := rfl
theorem rp_232 : qP (r_T 0) 232 = [(4, 182, 182), (6, 0, 0), (1, 0, 12)] := rfl
theorem rr_232 : qR (r_T 0) 232 = [(1, 0, 99)] := rfl
theorem ru_232 : qU (r_T 0) 232 = [(4, 182, 182), (6, 0, 0), (1, 0, 12)] := rfl
theorem rp_233 : qP (r_T 0) 233 = [(4, 182, 182), (5, 0, 0)] := rfl
theorem rr_233 : qR (r_T 0) 233 = [(1, (-1), 12)] := rfl
theorem rp_234 : qP (r_T 0) 234 = [(4, 182, 182), (5, 0, 0)] := rfl
theorem rr_234 : qR (r_T 0) 234 = [(1, 0, 9999)] := rfl
theorem rp_236 : qP (r_T 0) 236 = [(4, 182, 182), (1, (-2147483648), 2147483647)] := rfl
theorem rr_236 : qR (r_T 0) 236 = [(1, 0, 1)] := rfl
theorem ru_236 : qU (r_T 0) 236 = [(4, 182, 182), (1, 0, 11)] := rfl
theorem rp_239 : qP (r_T 0) 239 = [(4, 182, 182), (1, (-2147483648), 2147483647), (1, (-2147483648), 2147483647)] := rfl
theorem rr_239 : qR (r_T 0) 239 = [(1, 0, 1)] := rfl
theorem ru_239 : qU (r_T 0) 239 = [(4, 182, 182), (5, 0, 0), (1, 0, 12)] := rfl
theorem rp_240 : qP (r_T 0) 240 = [(4, 182, 182), (3, 0, 0)] := rfl
theorem rr_240 : qR (r_T 0) 240 = [] := rfl
theorem ru_240 : qU (r_T 0) 240 = [(4, 182, 182), (3, 0, 0)] := rfl
theorem rp_242 : qP (r_T 0) 242 = [(4, 182, 182)] := rfl
theorem rr_242 : qR (r_T 0) 242 = [] := rfl
theorem rp_243 : qP (r_T 0) 243 = [(4, 182, 182), (3, 0, 0), (5, 0, 0), (1, 0, 12)] := rfl
theorem rr_243 : qR (r_T 0) 243 = [(1, (-1), 9999)] := rfl
theorem rp_244 : qP (r_T 0) 244 = [(4, 182, 182), (3, 0, 0), (5, 0, 0), (1, (-1), 12)] := rfl
theorem rr_244 : qR (r_T 0) 244 = [(1, (-1), 12)] := rfl
theorem ru_244 : qU (r_T 0) 244 = [(4, 182, 182), (3, 0, 0), (5, 0, 0), (1, (-1), 12)] := rfl
theorem rp_245 : qP (r_T 0) 245 = [(4, 182, 182), (3, 0, 0), (5, 0, 0), (1, 0, 12)] := rfl
theorem rr_245 : qR (r_T 0) 245 = [(1, (-1), 12)] := rfl
theorem ru_245 : qU (r_T 0) 245 = [(4, 182, 182), (3, 0, 0), (5, 0, 0), (1, 0, 12)] := rfl
theorem rp_246 : qP (r_T 0) 246 = [(1, (-2147483648), 2147483647), (1, (-2147483648), 2147483647), (1, 1, 2147483647)] := rfl
theorem rr_246 : qR (r_T 0) 246 = [(1, (-2147483648), 2147483647)] := rfl
theorem rp_247 : qP (r_T 0) 247 = [(4, 182, 182), (6, 0, 0), (1, 0, 12), (1, 0, 13), (1, 0, 12)] := rfl
theorem rr_247 : qR (r_T 0) 247 = [(1, (-2147483648), 2147483647)] := rfl
theorem ru_247 : qU (r_T 0) 247 = [(4, 182, 182), (6, 0, 0), (1, 0, 12), (1, 0, 13), (1, 0, 12)] := rfl
theorem rp_249 : qP (r_T 0) 249 = [(4, 182, 182), (3, 0, 0), (5, 0, 0), (1, 0, 11)] := rfl
theorem rr_249 : qR (r_T 0) 249 = [(1, (-2147483648), 2147483647)] := rfl
theorem ru_249 : qU (r_T 0) 249 = [(4, 182, 182), (3, 0, 0), (5, 0, 0), (1, 0, 11)] := rfl
theorem rp_251 : qP (r_T 0) 251 = [(4, 182, 182), (1, (-2147483648), 2147483647), (1, 0, 6)] := rfl
theorem rr_251 : qR (r_T 0) 251 = [] := rfl
theorem ru_251 : qU (r_T 0) 251 = [(4, 182, 182), (1, (-2147483648), 2147483647), (1, 0, 6)] := rfl
theorem rp_252 : qP (r_T 0) 252 = [(4, 182, 182), (1, (-2147483648), 2147483647)] := rfl
theorem rr_252 : qR (r_T 0) 252 = [(1, (-2147483648), 2147483647)] := rfl
theorem rp_253 : qP (r_T 0) 253 = [(4, 182, 182), (6, 0, 0), (1, 0, 11)] := rfl
theorem rr_253 : qR (r_T 0) 253 = [(1, (-2147483648), 2147483647)] := rfl
theorem ru_253 : qU (r_T 0) 253 = [(4, 182, 182), (6, 0, 0), (1, 0, 11)] := rfl
theorem rp_254 : qP (r_T 0) 254 = [(4, 182, 182), (3, 0, 0), (1, 0, 11)] := rfl
theorem rr_254 : qR (r_T 0) 254 = [] := rfl
theorem rp_256 : qP (r_T 0) 256 = [(4, 182, 182), (3, 0, 0), (5, 0, 0), (1, 0, 11)] := rfl
theorem rr_256 : qR (r_T 0) 256 = [(1, 0, 3)] := rfl
theorem rp_257 : qP (r_T 0) 257 = [(4, 182, 182), (3, 0, 0), (1, (-2147483648), 2147483647), (1, 0, 11)] := rfl
theorem rr_257 : qR (r_T 0) 257 = [(1, (-2147483648), 2147483647)] := rfl
theorem rp_259 : qP (r_T 0) 259 = [(4, 182, 182), (3, 0, 0)] := rfl
theorem rr_259 : qR (r_T 0) 259 = [(1, (-2147483648), 2147483647)] := rfl
theorem rp_261 : qP (r_T 0) 261 = [(4, 182, 182), (1, (-2147483648), 2147483647), (1, (-2147483648), 2147483647)] := rfl
theorem rp_262 : qP (r_T 0) 262 = [(4, 182, 182), (1, (-2147483648), 2147483647), (1, (-2147483648), 2147483647)] := rfl
theorem rp_263 : qP (r_T 0) 263 = [(4, 182, 182), (1, (-2147483648), 2147483647), (1, (-2147483648), 2147483647)] := rfl
theorem rp_264 : qP (r_T 0) 264 = [(4, 182, 182), (3, 0, 0), (5, 0, 0), (1, 0, 12), (1, (-1), 9999)] := rfl
theorem rr_264 : qR (r_T 0) 264 = [] := rfl
theorem rp_265 : qP (r_T 0) 265 = [(4, 182, 182), (1, (-2147483648), 2147483647), (1, (-2147483648), 2147483647), (1, (-2147483648), 2147483647)] := rfl
theorem rp_266 : qP (r_T 0) 266 = [(4, 182, 182), (3, 0, 0), (5, 0, 0), (1, 0, 3), (1, 0, 12)] := rfl
theorem rr_266 : qR (r_T 0) 266 = [] := rfl
theorem rp_267 : qP (r_T 0) 267 = [(4, 182, 182), (1, (-2147483648), 2147483647), (1, (-2147483648), 2147483647), (1, (-2147483648), 2147483647)] := rfl
theorem rp_268 : qP (r_T 0) 268 = [(4, 182, 182), (1, (-2147483648), 2147483647), (1, (-2147483648), 2147483647)] := rfl
theorem rp_271 : qP (r_T 0) 271 = [(4, 182, 182)] := rfl
theorem rr_271 : qR (r_T 0) 271 = [(1, (-2147483648), 2147483647)] := rfl
theorem ru_271 : qU (r_T 0) 271 = [(4, 182, 182)] := rfl
theorem rp_272 : qP (r_T 0) 272 = [(4, 182, 182)] := rfl
theorem rr_272 : qR (r_T 0) 272 = [(1, 0, 1)] := rfl
theorem ru_272 : qU (r_T 0) 272 = [(4, 182, 182)] := rfl
theorem rp_273 : qP (r_T 0) 273 = [(4, 182, 182), (1, (-2147483648), 2147483647)] := rfl
theorem rr_273 : qR (r_T 0) 273 = [(1, (-2147483648), 2147483647)] := rfl
theorem ru_273 : qU (r_T 0) 273 = [(4, 182, 182), (1, (-2147483648), 2147483647)] := rfl
theorem rp_275 : qP (r_T 0) 275 = [(4, 182, 182), (1, (-2147483648), 2147483647), (1, (-2147483648), 2147483647)] := rfl
theorem rp_276 : qP (r_T 0) 276 = [(4, 182, 182), (1, (-2147483648), 2147483647), (1, (-2147483648), 2147483647)] := rfl
theorem rp_277 : qP (r_T 0) 277 = [(4, 182, 182), (1, (-2147483648), 2147483647), (1, (-2147483648), 2147483647)] := rfl
theorem rp_278 : qP (r_T 0) 278 = [(4, 182, 182), (1, (-2147483648), 2147483647)] := rfl
theorem rp_279 : qP (r_T 0) 279 = [(4, 182, 182), (1, (-2147483648), 2147483647), (1, (-2147483648), 2147483647)] := rfl
theorem rp_280 : qP (r_T 0) 280 = [(4, 182, 182), (1, (-2147483648), 2147483647), (1, (-2147483648), 2147483647)] := rfl
theorem rp_281 : qP (r_T 0) 281 = [(4, 182, 182), (1, (-2147483648), 2147483647), (1, (-2147483648), 2147483647)] := rfl
theorem rp_282 : qP (r_T 0) 282 = [(4, 182, 182), (1, (-2147483648), 2147483647)] := rfl
theorem rp_283 : qP (r_T 0) 283 = [(4, 182, 182), (1, (-2147483648), 2147483647)] := rfl
theorem rp_284 : qP (r_T 0) 284 = [(4, 182, 182), (1, (-2147483648), 2147483647), (1, (-2147483648), 2147483647)] := rfl
theorem rr_284 : qR (r_T 0) 284 = [(1, (-2147483648), 2147483647)] := rfl
theorem ru_284 : qU (r_T 0) 284 = [(4, 182, 182), (1, (-2147483648), 2147483647), (1, (-2147483648), 2147483647)] := rfl
theorem rp_285 : qP (r_T 0) 285 = [(4, 182, 182), (3, 0, 0), (1, 0, 11)] := rfl
theorem rr_285 : qR (r_T 0) 285 = [(1, (-2147483648), 2147483647)] := rfl
theorem rp_286 : qP (r_T 0) 286 = [(4, 182, 182), (1, (-2147483648), 2147483647)] := rfl
theorem rp_287 : qP (r_T 0) 287 = [(4, 182, 182), (3, 0, 0)] := rfl
theorem rr_287 : qR (r_T 0) 287 = [(1, (-2147483648), 2147483647)] := rfl
theorem rp_288 : qP (r_T 0) 288 = [(4, 182, 182)] := rfl
theorem rp_289 : qP (r_T 0) 289 = [(4, 182, 182)] := rfl
theorem rp_292 : qP (r_T 0) 292 = [(4, 182, 182), (1, (-2147483648), 2147483647), (1, (-2147483648), 2147483647), (1, (-2147483648), 2147483647)] := rfl
theorem rp_293 : qP (r_T 0) 293 = [(4, 182, 182), (1, (-2147483648), 2147483647), (1, (-2147483648), 2147483647), (1, (-2147483648), 2147483647)] := rfl
theorem rp_294 : qP (r_T 0) 294 = [(4, 182, 182), (1, (-2147483648), 2147483647)] := rfl
theorem rp_295 : qP (r_T 0) 295 = [(4, 182, 182)] := rfl
theorem rp_296 : qP (r_T 0) 296 = [(4, 182, 182), (1, (-2147483648), 2147483647), (1, (-2147483648), 2147483647)] := rfl
theorem rp_297 : qP (r_T 0) 297 = [(4, 182, 182), (1, (-2147483648), 2147483647), (1, (-2147483648), 2147483647)] := rfl
theorem rp_298 : qP (r_T 0) 298 = [(4, 182, 182)] := rfl
theorem rr_298 : qR (r_T 0) 298 = [] := rfl
theorem rp_299 : qP (r_T 0) 299 = [(4, 182, 182), (1, (-2147483648), 2147483647), (1, (-2147483648), 2147483647), (1, (-2147483648), 2147483647), (1, (-2147483648), 2147483647)] := rfl
theorem rp_300 : qP (r_T 0) 300 = [(4, 182, 182), (1, (-2147483648), 2147483647), (1, (-2147483648), 2147483647)] := rfl
theorem rp_302 : qP (r_T 0) 302 = [(4, 182, 182), (1, (-2147483648), 2147483647)] := rfl
theorem rp_303 : qP (r_T 0) 303 = [(4, 182, 182)] := rfl
theorem rp_304 : qP (r_T 0) 304 = [(4, 182, 182), (1, (-2147483648), 2147483647), (1, (-2147483648), 2147483647), (1, 0, 1)] := rfl
theorem rr_304 : qR (r_T 0) 304 = [(1, 0, 1)] := rfl
theorem ru_304 : qU (r_T 0) 304 = [(4, 182, 182), (1, (-2147483648), 2147483647), (1, (-2147483648), 2147483647), (1, 0, 1)] := rfl
theorem rp_305 : qP (r_T 0) 305 = [(4, 182, 182)] := rfl
theorem rr_305 : qR (r_T 0) 305 = [(1, (-2147483648), 2147483647)] := rfl
theorem ru_305 : qU (r_T 0) 305 = [(4, 182, 182)] := rfl
theorem rp_306 : qP (r_T 0) 306 = [(4, 182, 182)] := rfl
theorem rp_307 : qP (r_T 0) 307 = [(4, 182, 182)] := rfl
theorem rp_309 : qP (r_T 0) 309 = [(4, 182, 182), (1, 1, 200)] := rfl
theorem rr_309 : qR (r_T 0) 309 = [(1, 0, 199)] := rfl
theorem ru_309 : qU (r_T 0) 309 = [(4, 182, 182), (1, 1, 200)] := rfl
theorem rp_310 : qP (r_T 0) 310 = [(4, 182, 182), (1, (-2147483648), 2147483647), (1, (-2147483648), 2147483647), (1, (-2147483648), 2147483647)] := rfl
theorem rr_310 : qR (r_T 0) 310 = [(1, (-2147483648), 2147483647)] := rfl
theorem ru_310 : qU (r_T 0) 310 = [(4, 182, 182), (1, (-2147483648), 2147483647), (1, (-2147483648), 2147483647), (1, (-2147483648), 2147483647)] := rfl
theorem rp_311 : qP (r_T 0) 311 = [(4, 182, 182), (1, (-2147483648), 2147483647), (1, 0, 1)] := rfl
theorem rr_311 : qR (r_T 0) 311 = [(1, 0, 1)] := rfl
theorem ru_311 : qU (r_T 0) 311 = [(4, 182, 182), (1, (-2147483648), 2147483647), (1, 0, 1)] := rfl
theorem rp_313 : qP (r_T 0) 313 = [(4, 182, 182), (1, (-2147483648), 2147483647)] := rfl
end
section
/-! ===== what the reference's told_w rows hold: grid, law_w, work ===== -/
/-- a law's codes_w, from a height of the pile to another one -/
def htO (t : Nat) : List Int → Option Nat
  | [] => some t
  | x :: l => if x % 16 = 1 ∧ 0 ≤ x then (if t < 63 then htO (t + 1) l else none)
    else if x % 16 = 2 ∧ 0 ≤ x ∧ x < 64 then (if t < 63 then htO (t + 1) l else none)
    else if x % 16 = 3 ∧ 0 ≤ x then (if 1 ≤ t then htO t l else none)
    else if 4 ≤ x % 16 ∧ 0 ≤ x then (if 2 ≤ t then htO (t - 1) l else none)
    else none
/-- codes_w that lie from a place_w on_w -/
def Seg (f : Nat → Int) (at0_w : Nat) (l : List Int) : Prop := ∀ k : Nat, k < l.length → f (at0_w + k) = l.getD k 0
def CodeOK (f : Nat → Int) (at0_w : Nat) : Prop := ∃ l : List Int, Seg f at0_w l ∧ f (at0_w + l.length) = 0 ∧ at0_w + l.length < 1100 ∧ htO 0 l = some 1
/-- the grid that lies from o on_w, with so many_w classes and meters -/
def GridOK (f : Nat → Int) (o : Nat) (nM nC : Int) : Prop := (∀ m : Nat, (m : Int) < nM → 0 ≤ f (o + (74 + 3 * m)) ∧ f (o + (74 + 3 * m)) < nC) ∧ (∀ c : Nat, (c : Int) < nC → 1 ≤ f (o + (18 + 14 * c)) ∧ f (o + (18 + 14 * c)) ≤ 12)
def LineOK (P : Int × Int) (k a b c : Int) : Prop := (k = 0 → 0 ≤ a ∧ a < P.1 ∧ 0 ≤ b ∧ b ≤ 12 ∧ 0 ≤ c ∧ c ≤ 9999) ∧ (k = 1 → 0 ≤ a ∧ a < P.1 ∧ 0 ≤ b ∧ b ≤ 3 ∧ 0 ≤ c ∧ c ≤ 11) ∧ (k = 2 → 0 ≤ a ∧ a ≤ 11 ∧ 0 ≤ b ∧ b ≤ 9999)
def WorkOK (P : Int × Int) (f : Nat → Int) : Prop := ∀ n : Nat, (n : Int) < f 0 → LineOK P (f (1 + 4 * n)) (f (2 + 4 * n)) (f (3 + 4 * n)) (f (4 + 4 * n))
def RJ (P : Int × Int) (h : XH) : Prop := GridOK (h 188) 0 P.1 P.2 ∧ (0 ≤ h 188 4 → CodeOK (h 189) (h 188 4).toNat) ∧ WorkOK P (h 191)
theorem rj_js {P : Int × Int} : JS (r_T 0) (RJ P) := fun h h' hk hj => by
  have e1_w : h' 188 = h 188 := funext fun k => hk 188 k rfl
  have e2_w : h' 189 = h 189 := funext fun k => hk 189 k rfl
  have e3_w : h' 191 = h 191 := funext fun k => hk 191 k rfl
  unfold RJ at hj ⊢
  rw [e1_w, e2_w, e3_w]
  exact hj
section RJS
variable {P : Int × Int} {T : QT} {J : XH → Prop} {h : XH} {g : Nat × Nat} {xs : Nat → Int} {L K : Nat} {ck : Nat → List Nat} {cW : Nat → Nat → Int}
theorem il1 {a : IT} {v : List Int} (hv : IL P [a] v) : ∃ x, v = [x] ∧ IV P a x := IL.one hv
theorem il2 {a b : IT} {v : List Int} (hv : IL P [a, b] v) : ∃ x y, v = [x, y] ∧ IV P a x ∧ IV P b y := by
  match v, hv with
  | [x, y], hv => exact ⟨x, y, rfl, hv.1, hv.2.1⟩
theorem il3 {a b c : IT} {v : List Int} (hv : IL P [a, b, c] v) : ∃ x y z, v = [x, y, z] ∧ IV P a x ∧ IV P b y ∧ IV P c z := by
  match v, hv with
  | [x, y, z], hv => exact ⟨x, y, z, rfl, hv.1, hv.2.1, hv.2.2.1⟩
theorem il4 {a b c d : IT} {v : List Int} (hv : IL P [a, b, c, d] v) : ∃ x y z w, v = [x, y, z, w] ∧ IV P a x ∧ IV P b y ∧ IV P c z ∧ IV P d w := by
  match v, hv with
  | [x, y, z, w], hv => exact ⟨x, y, z, w, rfl, hv.1, hv.2.1, hv.2.2.1, hv.2.2.2.1⟩
theorem il5 {a b c d e : IT} {v : List Int} (hv : IL P [a, b, c, d, e] v) : ∃ x y z w u, v = [x, y, z, w, u] ∧ IV P a x ∧ IV P b y ∧ IV P c z ∧ IV P d w ∧ IV P e u := by
  match v, hv with
  | [x, y, z, w, u], hv => exact ⟨x, y, z, w, u, rfl, hv.1, hv.2.1, hv.2.2.1, hv.2.2.2.1, hv.2.2.2.2.1⟩
/-- what a region of the reference's tables_w says_w of a cell_w -/
theorem q_cell (hQ : QK P (r_T 0) J h) {q r : Nat} {x : Nat × Nat × IT} (hq : 183 ≤ q) (hr : (r_A q).2.2[r]? = some x) (hb_w : (r_A q).2.1 = 0) {i : Nat} (h1 : x.1 ≤ i) (h2 : i < x.2.1) : IV P x.2.2 (h q i) := by
  have k := hQ.2.2.1 q hq x (List.mem_of_getElem? hr) i 0 h1 h2 (by decide)
  have e : (qA (r_T 0) q).2.1 = 0 := hb_w
  rw [e, Nat.zero_mul, Nat.zero_add] at k
  exact k
/-- of a block_w of the state_w -/
theorem s_cell (hQ : QK P (r_T 0) J h) {r : Nat} {x : Nat × Nat × IT} (hr : (r_A 194).2.2[r]? = some x) {i j : Nat} (h1 : x.1 ≤ i) (h2 : i < x.2.1) (hj : j < 12) : IV P x.2.2 (h 194 (429 * j + i)) :=
  hQ.2.2.1 194 (by decide) x (List.mem_of_getElem? hr) i j h1 h2 hj
/-- a method_w by hand_w -/
theorem tr_of {n f o ml_w : Nat} {pk_w rk : List Nat} {bd : SX} {av : List Int} {B : List Int → XH → Prop} (hm_w : g_M f = (o, ml_w, pk_w, rk, bd)) (hw : wS (a_g3, g) (evF xs L ck K cW g_M n) K bd (j_pad 0 ml_w (j_lay pk_w av)) h (fun c vs _ h' => c = 1 ∧ B vs h')) : ∃ r h', evF xs L ck K cW g_M (n + 1) f av ((a_g3, g), h) = some (1, r, ((a_g3, g), h')) ∧ B r h' := wF_ok (M := g_M) (f := f) (by rw [hm_w]; exact hw)
theorem tot_hand {n f o ml_w : Nat} {pk_w rk : List Nat} {bd : SX} {ps_w rs : List IT} (hm_w : g_M f = (o, ml_w, pk_w, rk, bd)) (hP : qP (r_T 0) f = ps_w) (hR : qR (r_T 0) f = rs) (hU : qU (r_T 0) f = ps_w)
    (hw : ∀ av h, QK P (r_T 0) J h → IL P ps_w av → wS (a_g3, g) (evF xs L ck K cW g_M n) K bd (j_pad 0 ml_w (j_lay pk_w av)) h (fun c vs _ h' => c = 1 ∧ QK P (r_T 0) J h' ∧ KR (r_T 0) h h' ∧ IL P rs vs)) : TotR P (r_T 0) J g (evF xs L ck K cW g_M (n + 1)) f := by
  intro av h hQ hv
  rw [hP] at hv
  obtain ⟨r, h', e1_w, e2_w, e3_w, e4_w⟩ := tr_of hm_w (hw av h hQ hv)
  refine ⟨r, h', e1_w, e2_w, e3_w, ?_, fun _ => ?_⟩
  · rw [hR]
    exact e4_w
  · rw [hU]
    exact hv
end RJS
end
section
/-! ===== the reference's methods by hand_w: the grid's rows, the state's blocks_w ===== -/
section HA1
variable {P : Int × Int} {g : Nat × Nat} {xs : Nat → Int} {L K n : Nat} {ck : Nat → List Nat} {cW : Nat → Nat → Int} {h : XH} {J : XH → Prop}
theorem q_nM (hQ : QK P (r_T 0) J h) : h 188 3 = P.1 ∧ 0 ≤ P.1 ∧ P.1 ≤ 6 := by
  have k : IV P (7, 0, 0) (h 188 3) := q_cell hQ (q := 188) (r := 3) (x := (3, 4, (7, 0, 0))) (by decide) rfl rfl (by decide) (by decide)
  obtain ⟨k1_w, k2, k3⟩ := k
  omega
theorem q_nC (hQ : QK P (r_T 0) J h) : h 188 1 = P.2 ∧ 0 ≤ P.2 ∧ P.2 ≤ 4 := by
  have k : IV P (8, 0, 0) (h 188 1) := q_cell hQ (q := 188) (r := 1) (x := (1, 2, (8, 0, 0))) (by decide) rfl rfl (by decide) (by decide)
  obtain ⟨k1_w, k2, k3⟩ := k
  omega
theorem rkd_int : [183, 184, 185, 188, 189, 191, 192, 193, 194, 196, 197, 198, 199, 201].all (fun q => r_kd q == 1) = true := by decide +kernel
theorem ht_int {q : Nat} (hH : HT g_fk a_g3 h) (hq : q ∈ [183, 184, 185, 188, 189, 191, 192, 193, 194, 196, 197, 198, 199, 201]) (i : Nat) : InI (h q i) := by
  have h1 := List.all_eq_true.mp rkd_int q hq
  rw [beq_iff_eq] at h1
  have h2 : 183 ≤ q ∧ q ≤ 202 := by
    simp only [List.mem_cons, List.not_mem_nil, or_false] at hq
    omega
  have h3 := ((r_tab 0).2.2.1 q h2.1 h2.2).2.2.2 i
  exact (hH q i).1 (h3.trans h1)
theorem ht_up {q i : Nat} {v : Int} (hH : HT g_fk a_g3 h) (hq : q ∈ [183, 184, 185, 188, 189, 191, 192, 193, 194, 196, 197, 198, 199, 201]) (hv : InI v) : HT g_fk a_g3 (j_up h q i v) := by
  have h1 := List.all_eq_true.mp rkd_int q hq
  rw [beq_iff_eq] at h1
  have h2 : 183 ≤ q ∧ q ≤ 202 := by
    simp only [List.mem_cons, List.not_mem_nil, or_false] at hq
    omega
  have h3 := (((r_tab 0).2.2.1 q h2.1 h2.2).2.2.2 i).trans h1
  exact hH.up (fun _ => hv) (fun e => absurd (h3.symm.trans e) (by decide)) (fun e => absurd (h3.symm.trans e) (by decide))
theorem st_ok : ar_ok (r_A 194) = true := by decide +kernel
/-- a cell_w of a block_w of the state_w is_w written_w -/
theorem st_QK (hQ : QK P (r_T 0) J h) (hJ : JS (r_T 0) J) {j i : Nat} {v : Int} (hj : j < 12) (hi_w : i < 429) (hv : ∀ r ∈ (r_A 194).2.2, r.1 ≤ i → i < r.2.1 → IV P r.2.2 v) (hin : InI v) : QK P (r_T 0) J (j_up h 194 (429 * j + i) v) ∧ KR (r_T 0) h (j_up h 194 (429 * j + i) v) := by
  have hk : KR (r_T 0) h (j_up h 194 (429 * j + i) v) := KR.up rfl
  refine ⟨⟨ht_up hQ.1 (by decide) hin, fun k => ?_, fun q hq => ?_, hJ _ _ hk hQ.2.2.2⟩, hk⟩
  · rw [up_ne (fun z => absurd z.1 (by decide))]
    exact hQ.2.1 k
  · by_cases hq2 : q = 194
    · subst hq2
      intro r hr i' j' k1_w k2 hj'
      have hr2 := List.all_eq_true.mp st_ok r hr
      rw [Nat.ble_eq] at hr2
      have hr3 : r.2.1 ≤ 429 := hr2
      show IV P r.2.2 (j_up h 194 (429 * j + i) v 194 (429 * j' + i'))
      by_cases e : 429 * j' + i' = 429 * j + i
      · have e1_w : i' = i := by omega
        subst e1_w
        rw [e, up_eq]
        exact hv r hr k1_w k2
      · rw [up_ne (fun z => e z.2)]
        exact hQ.2.2.1 194 hq r hr i' j' k1_w k2 hj'
    · have e2_w : j_up h 194 (429 * j + i) v q = h q := funext fun i => up_ne (fun z => hq2 z.1)
      rw [e2_w]
      exact hQ.2.2.1 q hq
theorem iv_base {b : Int} (hb_w : IV P (3, 0, 0) b) : ∃ j : Nat, j < 12 ∧ b = 429 * (j : Int) := by
  obtain ⟨-, j, h1, h2, h3⟩ := hb_w
  exact ⟨j, h1, by omega⟩
theorem t_230 : TotR P (r_T 0) (RJ P) g (evF xs L ck K cW g_M (n + 1)) 230 := by
  refine tot_hand gm_230 rp_230 rr_230 ru_230 fun av h hQ hv => ?_
  obtain ⟨x, m, rfl, hx, hm_w⟩ := il2 hv
  obtain rfl : x = 182 := hx
  obtain ⟨m0_w, m1_w, m2_w⟩ := hm_w
  show wS _ _ K bb_230 [182, m] h _
  generalize evF xs L ck K cW g_M n = F
  unfold bb_230
  simp only [wf_4, wf_40, wf_5, wf_50, wf_6, wl_1, wt_1, wu_1, wa_1, wl_4, wt_4, wu_4, wa_4, wl_5, wt_5, wu_5, wa_5, wl_6, wt_6, wu_6, wa_6, wl_9, wt_9, wu_9, wa_9, wl_10, wt_10, wu_10, wa_10, wl_11, wt_11, wu_11, wa_11, wl_13, wt_13, wu_13, wa_13, wl_14, wt_14, wu_14, wa_14, wl_15, wt_15, wu_15, wa_15, wl_16, wt_16, wu_16, wa_16, wl_17, wt_17, wu_17, wa_17, wl_20, wt_20, wu_20, wa_20, wl_21, wt_21, wu_21, wa_21, wl_22, wt_22, wu_22, wa_22, wl_23, wt_23, wu_23, wa_23, wl_24, wt_24, wu_24, wa_24, wl_26, wt_26, wu_26, wa_26, wl_27, wt_27, wu_27, wa_27, wl_28, wt_28, wu_28, wa_28, we_1, we_3, we_10, we_14, we_15, we_16, we_17, we_18, we_20, we_21, we_22, we_24, we_25, we_26, we_27, we_28, we_30, we_31, we_32, wc_20, wc_21, wc_22, wc_24, wc_25, wc_26, wc_27, wc_3, wc_4, wc_7, wc_28, wc_32, ws_1, ws_2, ws_3, ws_4, ws_9, ws_10, ws_11, ws_14, ws_15, ws_16, ws_27, ws_17, ws_20, ws_28, kc_0, kc_1, kn_1, kc_2, kn_2, kc_3, kc_4, kc_5, kc_6, kc_7, kc_8, kc_9, kc_10, kc_12, kc_13, kc_14, kc_16, kc_17, kc_18, kc_19, kc_20, kc_21, kc_22, kc_24, kc_28, kc_30, kc_32, kc_37, kc_40, kc_41, kc_42, kc_43, kc_45, kc_48, kc_56, kc_57, kc_59, kc_60, kc_61, kc_64, kc_73, kc_78, kc_91, kc_95, kc_96, kc_97, kc_98, kc_99, kc_100, kc_112, kc_122, kc_125, kc_126, kc_150, kc_162, kc_163, kc_168, kc_186, kc_190, kc_200, kc_250, kc_255, kc_355, kc_356, kc_404, kc_405, kc_429, kc_573, kc_999, kc_1000, kc_1002, kc_1100, kc_1891, kc_2200, kc_4719, kc_4869, kc_4881, kc_5148, kc_9999, kn_9999, kc_10000, kc_12345, kc_19741, kc_25433, kc_65536, kc_320403, kc_628412, kc_629093, kc_660401, kc_679843, kc_918640, kc_979410, kc_1178088, kc_6232410, kc_24644941, kc_36238189, kc_38270444, kc_392531318, kc_425693491, kc_1103515245, kc_1342154595, kc_2147483648, kc_42328242873, kc_891704255789, kc_1722105685577, kc_1858726030364, ct_0, ct_1, ct_2, ct_3, ct_4, ct_5, cf_0, cf_1, cf_2, cf_3, cf_4, cf_5, w_ty6, w_ty7, m_sv, m_z0, m_hd, m_g0, m_gs, m_s0, m_ss, m_ap, m_an, forall_const, true_and, and_true, ne_eq, not_true_eq_false, not_false_eq_true, false_implies, true_implies, implies_true, eq_self, reduceCtorEq, Nat.reduceDiv, Nat.reduceMod, Int.reduceToNat, or_true, true_or, or_false, false_or, or_self, m_it, m_if, m_c1, m_01, m_02, m_03, m_04, m_10, m_12, m_13, m_14, m_20, m_21, m_23, m_24, m_30, m_31, m_32, m_34, m_40, m_41, m_42, m_43]
  simp (disch := omega) only [jmul, jadd]
  have k := hQ.2.2.2.1.1 m.toNat (by omega)
  have k4 := q_nC hQ
  have e : (73 + 3 * m + 1).toNat = 0 + (74 + 3 * m.toNat) := by omega
  rw [e]
  exact ⟨⟨by omega, by omega⟩, hQ, KR.rf, ⟨⟨k.1, k.2, k4.2.2⟩, trivial⟩⟩
theorem gr_prof {c s : Int} (hQ : QK P (r_T 0) J h) (c0 : 0 ≤ c) (c1_w : c < 4) (s0 : 0 ≤ s) (s1_w : s < 12) : IV P (1, 0, 99) (h 188 (19 + 14 * c + s).toNat) := by
  have hc_w : c = 0 ∨ c = 1 ∨ c = 2 ∨ c = 3 := by omega
  rcases hc_w with rfl | rfl | rfl | rfl
  · exact q_cell hQ (q := 188) (r := 9) (x := (19, 31, (1, 0, 99))) (by decide) rfl rfl (by dsimp only; omega) (by dsimp only; omega)
  · exact q_cell hQ (q := 188) (r := 12) (x := (33, 45, (1, 0, 99))) (by decide) rfl rfl (by dsimp only; omega) (by dsimp only; omega)
  · exact q_cell hQ (q := 188) (r := 15) (x := (47, 59, (1, 0, 99))) (by decide) rfl rfl (by dsimp only; omega) (by dsimp only; omega)
  · exact q_cell hQ (q := 188) (r := 18) (x := (61, 73, (1, 0, 99))) (by decide) rfl rfl (by dsimp only; omega) (by dsimp only; omega)
theorem m_232 (hQ : QK P (r_T 0) (RJ P) h) {c s : Int} (hc_w : IV P (6, 0, 0) c) (s0 : 0 ≤ s) (s1_w : s ≤ 12) : ∃ r h', evF xs L ck K cW g_M (n + 1) 232 [182, c, s] ((a_g3, g), h) = some (1, r, ((a_g3, g), h')) ∧ h' = h ∧ ∃ v, r = [v] ∧ IV P (1, 0, 99) v := by
  refine tr_of gm_232 (B := fun r h' => h' = h ∧ ∃ v, r = [v] ∧ IV P (1, 0, 99) v) ?_
  obtain ⟨c0, c1_w, c2⟩ := hc_w
  show wS _ _ K bb_232 [182, c, s, 0] h _
  generalize evF xs L ck K cW g_M n = F
  unfold bb_232
  simp only [wf_4, wf_40, wf_5, wf_50, wf_6, wl_1, wt_1, wu_1, wa_1, wl_4, wt_4, wu_4, wa_4, wl_5, wt_5, wu_5, wa_5, wl_6, wt_6, wu_6, wa_6, wl_9, wt_9, wu_9, wa_9, wl_10, wt_10, wu_10, wa_10, wl_11, wt_11, wu_11, wa_11, wl_13, wt_13, wu_13, wa_13, wl_14, wt_14, wu_14, wa_14, wl_15, wt_15, wu_15, wa_15, wl_16, wt_16, wu_16, wa_16, wl_17, wt_17, wu_17, wa_17, wl_20, wt_20, wu_20, wa_20, wl_21, wt_21, wu_21, wa_21, wl_22, wt_22, wu_22, wa_22, wl_23, wt_23, wu_23, wa_23, wl_24, wt_24, wu_24, wa_24, wl_26, wt_26, wu_26, wa_26, wl_27, wt_27, wu_27, wa_27, wl_28, wt_28, wu_28, wa_28, we_1, we_3, we_10, we_14, we_15, we_16, we_17, we_18, we_20, we_21, we_22, we_24, we_25, we_26, we_27, we_28, we_30, we_31, we_32, wc_20, wc_21, wc_22, wc_24, wc_25, wc_26, wc_27, wc_3, wc_4, wc_7, wc_28, wc_32, ws_1, ws_2, ws_3, ws_4, ws_9, ws_10, ws_11, ws_14, ws_15, ws_16, ws_27, ws_17, ws_20, ws_28, kc_0, kc_1, kn_1, kc_2, kn_2, kc_3, kc_4, kc_5, kc_6, kc_7, kc_8, kc_9, kc_10, kc_12, kc_13, kc_14, kc_16, kc_17, kc_18, kc_19, kc_20, kc_21, kc_22, kc_24, kc_28, kc_30, kc_32, kc_37, kc_40, kc_41, kc_42, kc_43, kc_45, kc_48, kc_56, kc_57, kc_59, kc_60, kc_61, kc_64, kc_73, kc_78, kc_91, kc_95, kc_96, kc_97, kc_98, kc_99, kc_100, kc_112, kc_122, kc_125, kc_126, kc_150, kc_162, kc_163, kc_168, kc_186, kc_190, kc_200, kc_250, kc_255, kc_355, kc_356, kc_404, kc_405, kc_429, kc_573, kc_999, kc_1000, kc_1002, kc_1100, kc_1891, kc_2200, kc_4719, kc_4869, kc_4881, kc_5148, kc_9999, kn_9999, kc_10000, kc_12345, kc_19741, kc_25433, kc_65536, kc_320403, kc_628412, kc_629093, kc_660401, kc_679843, kc_918640, kc_979410, kc_1178088, kc_6232410, kc_24644941, kc_36238189, kc_38270444, kc_392531318, kc_425693491, kc_1103515245, kc_1342154595, kc_2147483648, kc_42328242873, kc_891704255789, kc_1722105685577, kc_1858726030364, ct_0, ct_1, ct_2, ct_3, ct_4, ct_5, cf_0, cf_1, cf_2, cf_3, cf_4, cf_5, w_ty6, w_ty7, m_sv, m_z0, m_hd, m_g0, m_gs, m_s0, m_ss, m_ap, m_an, forall_const, true_and, and_true, ne_eq, not_true_eq_false, not_false_eq_true, false_implies, true_implies, implies_true, eq_self, reduceCtorEq, Nat.reduceDiv, Nat.reduceMod, Int.reduceToNat, or_true, true_or, or_false, false_or, or_self, m_it, m_if, m_c1, m_01, m_02, m_03, m_04, m_10, m_12, m_13, m_14, m_20, m_21, m_23, m_24, m_30, m_31, m_32, m_34, m_40, m_41, m_42, m_43]
  have k := hQ.2.2.2.1.2 c.toNat (by omega)
  have e : j_iop 0 (j_iop 0 17 (j_iop 2 14 c)) 1 = 18 + 14 * c := by
    simp (disch := omega) only [jmul, jadd]
    omega
  have e1_w : (18 + 14 * c).toNat = 0 + (18 + 14 * c.toNat) := by omega
  rw [e, e1_w]
  generalize h 188 (0 + (18 + 14 * c.toNat)) = w at k ⊢
  obtain ⟨k1_w, k2, k3, k4⟩ := emod_bd s0 (show 0 < w by omega)
  have e2_w : j_iop 0 (j_iop 0 (j_iop 0 17 (j_iop 2 14 c)) 2) (j_div 1 s w) = 19 + 14 * c + s % w := by
    show j_iop 0 _ (s.tmod w) = _
    rw [k1_w]
    simp (disch := omega) only [jmul, jadd]
    omega
  rw [e2_w]
  exact ⟨⟨by omega, by omega⟩, by omega, ⟨by omega, by omega⟩, _, rfl, gr_prof hQ c0 (by omega) k2 (by omega)⟩
theorem t_232 : TotR P (r_T 0) (RJ P) g (evF xs L ck K cW g_M (n + 1)) 232 := by
  intro av h hQ hv
  rw [rp_232] at hv
  obtain ⟨x, c, s, rfl, hx, hc_w, hs⟩ := il3 hv
  obtain rfl : x = 182 := hx
  obtain ⟨r, h', e1_w, rfl, v, rfl, e2_w⟩ := m_232 (xs := xs) (L := L) (ck := ck) (cW := cW) (n := n) (K := K) (g := g) hQ hc_w hs.1 hs.2.1
  exact ⟨[v], h', e1_w, hQ, KR.rf, by rw [rr_232]; exact ⟨e2_w, trivial⟩, fun _ => by rw [ru_232]; exact hv⟩
theorem il_this : IL P [(4, 182, 182)] [182] := ⟨rfl, trivial⟩
/-- what a method_w that answers_w one number_w does; one that answers_w none -/
theorem use1 {F : XP} {f : Nat} {av : List Int} {ps_w : List IT} {t : IT} (c : TotR P (r_T 0) J g F f) (hP : qP (r_T 0) f = ps_w) (hR : qR (r_T 0) f = [t]) (hQ : QK P (r_T 0) J h) (hv : IL P ps_w av) : ∃ v h2, F f av ((a_g3, g), h) = some (1, [v], ((a_g3, g), h2)) ∧ QK P (r_T 0) J h2 ∧ KR (r_T 0) h h2 ∧ IV P t v := by
  obtain ⟨r, h2, e1_w, e2_w, e3_w, e4_w, -⟩ := c av h hQ (by rw [hP]; exact hv)
  rw [hR] at e4_w
  obtain ⟨v, rfl, e5_w⟩ := IL.one e4_w
  exact ⟨v, h2, e1_w, e2_w, e3_w, e5_w⟩
theorem use0 {F : XP} {f : Nat} {av : List Int} {ps_w : List IT} (c : TotR P (r_T 0) J g F f) (hP : qP (r_T 0) f = ps_w) (hR : qR (r_T 0) f = []) (hQ : QK P (r_T 0) J h) (hv : IL P ps_w av) : ∃ h2, F f av ((a_g3, g), h) = some (1, [], ((a_g3, g), h2)) ∧ QK P (r_T 0) J h2 ∧ KR (r_T 0) h h2 := by
  obtain ⟨r, h2, e1_w, e2_w, e3_w, e4_w, -⟩ := c av h hQ (by rw [hP]; exact hv)
  rw [hR] at e4_w
  have e5_w : r = [] := List.length_eq_zero_iff.mp (IL.len e4_w)
  subst e5_w
  exact ⟨h2, e1_w, e2_w, e3_w⟩
/-- all_w but one object's cells_w stay_w -/
def But (q : Nat) (h h' : XH) : Prop := ∀ o k, o ≠ q → h' o k = h o k
theorem But.rf {q : Nat} : But q h h := fun _ _ _ => rfl
theorem But.tr {q : Nat} {h1 h2 : XH} (a : But q h h1) (b : But q h1 h2) : But q h h2 := fun o k e => (b o k e).trans (a o k e)
theorem But.up {q i : Nat} {v : Int} : But q h (j_up h q i v) := fun o k e => up_ne (fun z => e z.1)
theorem m_224 (hJ : JS (r_T 0) J) (hK_w : 4294967300 ≤ K) (hQ : QK P (r_T 0) J h) {i j : Nat} {m : Int} (hi_w : i < 12) (hj : j < 12) (m0_w : 0 ≤ m) (m1_w : m ≤ 429) : ∃ r h', evF xs L ck K cW g_M (n + 1) 224 [182, 429 * (i : Int), 429 * (j : Int), m] ((a_g3, g), h) = some (1, r, ((a_g3, g), h')) ∧ QK P (r_T 0) J h' ∧ KR (r_T 0) h h' ∧ But 194 h h' ∧ (∀ p, (p < 429 * j ∨ 429 * j + 429 ≤ p) → h' 194 p = h 194 p) ∧ r = [] := by
  refine tr_of gm_224 (B := fun r h' => QK P (r_T 0) J h' ∧ KR (r_T 0) h h' ∧ But 194 h h' ∧ (∀ p, (p < 429 * j ∨ 429 * j + 429 ≤ p) → h' 194 p = h 194 p) ∧ r = []) ?_
  show wS _ _ K bb_224 [182, 429 * (i : Int), 429 * (j : Int), m, 0] h _
  generalize evF xs L ck K cW g_M n = F
  unfold bb_224
  simp only [wf_4, wf_40, wf_5, wf_50, wf_6, wl_1, wt_1, wu_1, wa_1, wl_4, wt_4, wu_4, wa_4, wl_5, wt_5, wu_5, wa_5, wl_6, wt_6, wu_6, wa_6, wl_9, wt_9, wu_9, wa_9, wl_10, wt_10, wu_10, wa_10, wl_11, wt_11, wu_11, wa_11, wl_13, wt_13, wu_13, wa_13, wl_14, wt_14, wu_14, wa_14, wl_15, wt_15, wu_15, wa_15, wl_16, wt_16, wu_16, wa_16, wl_17, wt_17, wu_17, wa_17, wl_20, wt_20, wu_20, wa_20, wl_21, wt_21, wu_21, wa_21, wl_22, wt_22, wu_22, wa_22, wl_23, wt_23, wu_23, wa_23, wl_24, wt_24, wu_24, wa_24, wl_26, wt_26, wu_26, wa_26, wl_27, wt_27, wu_27, wa_27, wl_28, wt_28, wu_28, wa_28, we_1, we_3, we_10, we_14, we_15, we_16, we_17, we_18, we_20, we_21, we_22, we_24, we_25, we_26, we_27, we_28, we_30, we_31, we_32, wc_20, wc_21, wc_22, wc_24, wc_25, wc_26, wc_27, wc_3, wc_4, wc_7, wc_28, wc_32, ws_1, ws_2, ws_3, ws_4, ws_9, ws_10, ws_11, ws_14, ws_15, ws_16, ws_27, ws_17, ws_20, ws_28, kc_0, kc_1, kn_1, kc_2, kn_2, kc_3, kc_4, kc_5, kc_6, kc_7, kc_8, kc_9, kc_10, kc_12, kc_13, kc_14, kc_16, kc_17, kc_18, kc_19, kc_20, kc_21, kc_22, kc_24, kc_28, kc_30, kc_32, kc_37, kc_40, kc_41, kc_42, kc_43, kc_45, kc_48, kc_56, kc_57, kc_59, kc_60, kc_61, kc_64, kc_73, kc_78, kc_91, kc_95, kc_96, kc_97, kc_98, kc_99, kc_100, kc_112, kc_122, kc_125, kc_126, kc_150, kc_162, kc_163, kc_168, kc_186, kc_190, kc_200, kc_250, kc_255, kc_355, kc_356, kc_404, kc_405, kc_429, kc_573, kc_999, kc_1000, kc_1002, kc_1100, kc_1891, kc_2200, kc_4719, kc_4869, kc_4881, kc_5148, kc_9999, kn_9999, kc_10000, kc_12345, kc_19741, kc_25433, kc_65536, kc_320403, kc_628412, kc_629093, kc_660401, kc_679843, kc_918640, kc_979410, kc_1178088, kc_6232410, kc_24644941, kc_36238189, kc_38270444, kc_392531318, kc_425693491, kc_1103515245, kc_1342154595, kc_2147483648, kc_42328242873, kc_891704255789, kc_1722105685577, kc_1858726030364, ct_0, ct_1, ct_2, ct_3, ct_4, ct_5, cf_0, cf_1, cf_2, cf_3, cf_4, cf_5, w_ty6, w_ty7, m_sv, m_z0, m_hd, m_g0, m_gs, m_s0, m_ss, m_ap, m_an, forall_const, true_and, and_true, ne_eq, not_true_eq_false, not_false_eq_true, false_implies, true_implies, implies_true, eq_self, reduceCtorEq, Nat.reduceDiv, Nat.reduceMod, Int.reduceToNat, or_true, true_or, or_false, false_or, or_self, m_it, m_if, m_c1, m_01, m_02, m_03, m_04, m_10, m_12, m_13, m_14, m_20, m_21, m_23, m_24, m_30, m_31, m_32, m_34, m_40, m_41, m_42, m_43]
  refine w_lp (fun en h' => ∃ k : Int, en = [182, 429 * (i : Int), 429 * (j : Int), m, k] ∧ 0 ≤ k ∧ k ≤ m ∧ QK P (r_T 0) J h' ∧ KR (r_T 0) h h' ∧ But 194 h h' ∧ (∀ p, (p < 429 * j ∨ 429 * j + 429 ≤ p) → h' 194 p = h 194 p)) (fun en _ => (m - en.getD 4 0).toNat) ⟨0, rfl, by omega, m0_w, hQ, KR.rf, But.rf, fun _ _ => rfl⟩ ?_
  rintro en h1 ⟨k, rfl, k0_w, k1_w, q1_w, q2_w, q5_w, q6_w⟩
  refine ⟨?_, ?_⟩
  · show (m - k).toNat < K
    omega
  simp only [wf_4, wf_40, wf_5, wf_50, wf_6, wl_1, wt_1, wu_1, wa_1, wl_4, wt_4, wu_4, wa_4, wl_5, wt_5, wu_5, wa_5, wl_6, wt_6, wu_6, wa_6, wl_9, wt_9, wu_9, wa_9, wl_10, wt_10, wu_10, wa_10, wl_11, wt_11, wu_11, wa_11, wl_13, wt_13, wu_13, wa_13, wl_14, wt_14, wu_14, wa_14, wl_15, wt_15, wu_15, wa_15, wl_16, wt_16, wu_16, wa_16, wl_17, wt_17, wu_17, wa_17, wl_20, wt_20, wu_20, wa_20, wl_21, wt_21, wu_21, wa_21, wl_22, wt_22, wu_22, wa_22, wl_23, wt_23, wu_23, wa_23, wl_24, wt_24, wu_24, wa_24, wl_26, wt_26, wu_26, wa_26, wl_27, wt_27, wu_27, wa_27, wl_28, wt_28, wu_28, wa_28, we_1, we_3, we_10, we_14, we_15, we_16, we_17, we_18, we_20, we_21, we_22, we_24, we_25, we_26, we_27, we_28, we_30, we_31, we_32, wc_20, wc_21, wc_22, wc_24, wc_25, wc_26, wc_27, wc_3, wc_4, wc_7, wc_28, wc_32, ws_1, ws_2, ws_3, ws_4, ws_9, ws_10, ws_11, ws_14, ws_15, ws_16, ws_27, ws_17, ws_20, ws_28, kc_0, kc_1, kn_1, kc_2, kn_2, kc_3, kc_4, kc_5, kc_6, kc_7, kc_8, kc_9, kc_10, kc_12, kc_13, kc_14, kc_16, kc_17, kc_18, kc_19, kc_20, kc_21, kc_22, kc_24, kc_28, kc_30, kc_32, kc_37, kc_40, kc_41, kc_42, kc_43, kc_45, kc_48, kc_56, kc_57, kc_59, kc_60, kc_61, kc_64, kc_73, kc_78, kc_91, kc_95, kc_96, kc_97, kc_98, kc_99, kc_100, kc_112, kc_122, kc_125, kc_126, kc_150, kc_162, kc_163, kc_168, kc_186, kc_190, kc_200, kc_250, kc_255, kc_355, kc_356, kc_404, kc_405, kc_429, kc_573, kc_999, kc_1000, kc_1002, kc_1100, kc_1891, kc_2200, kc_4719, kc_4869, kc_4881, kc_5148, kc_9999, kn_9999, kc_10000, kc_12345, kc_19741, kc_25433, kc_65536, kc_320403, kc_628412, kc_629093, kc_660401, kc_679843, kc_918640, kc_979410, kc_1178088, kc_6232410, kc_24644941, kc_36238189, kc_38270444, kc_392531318, kc_425693491, kc_1103515245, kc_1342154595, kc_2147483648, kc_42328242873, kc_891704255789, kc_1722105685577, kc_1858726030364, ct_0, ct_1, ct_2, ct_3, ct_4, ct_5, cf_0, cf_1, cf_2, cf_3, cf_4, cf_5, w_ty6, w_ty7, m_sv, m_z0, m_hd, m_g0, m_gs, m_s0, m_ss, m_ap, m_an, forall_const, true_and, and_true, ne_eq, not_true_eq_false, not_false_eq_true, false_implies, true_implies, implies_true, eq_self, reduceCtorEq, Nat.reduceDiv, Nat.reduceMod, Int.reduceToNat, or_true, true_or, or_false, false_or, or_self, m_it, m_if, m_c1, m_01, m_02, m_03, m_04, m_10, m_12, m_13, m_14, m_20, m_21, m_23, m_24, m_30, m_31, m_32, m_34, m_40, m_41, m_42, m_43]
  refine ⟨fun hk => ?_, fun hk => ⟨q1_w, q2_w, q5_w, q6_w⟩⟩
  simp (disch := omega) only [jadd, jinc]
  have e1_w : (429 * (j : Int) + k).toNat = 429 * j + k.toNat := by omega
  have e2_w : (429 * (i : Int) + k).toNat = 429 * i + k.toNat := by omega
  rw [e1_w, e2_w]
  obtain ⟨q3_w, q4_w⟩ := st_QK q1_w hJ (j := j) (i := k.toNat) (v := h1 194 (429 * i + k.toNat)) hj (by omega) (fun r hr r1_w r2 => q1_w.2.2.1 194 (by decide) r hr k.toNat i r1_w r2 hi_w) (ht_int q1_w.1 (by decide) _)
  refine ⟨⟨by omega, by omega⟩, ⟨by omega, by omega⟩, ⟨k + 1, rfl, by omega, by omega, q3_w, q2_w.tr q4_w, q5_w.tr But.up, fun p hp => (up_ne (fun z => by have := z.2; omega)).trans (q6_w p hp)⟩, ?_⟩
  show (m - (k + 1)).toNat < (m - k).toNat
  omega
theorem t_224 (hJ : JS (r_T 0) J) (hK_w : 4294967300 ≤ K) : TotR P (r_T 0) J g (evF xs L ck K cW g_M (n + 1)) 224 := by
  intro av h hQ hv
  rw [rp_224] at hv
  obtain ⟨x, a, b, m, rfl, hx, ha_w, hb_w, hm_w⟩ := il4 hv
  obtain rfl : x = 182 := hx
  obtain ⟨i, hi_w, rfl⟩ := iv_base ha_w
  obtain ⟨j, hj, rfl⟩ := iv_base hb_w
  obtain ⟨m0_w, m1_w, -⟩ := hm_w
  obtain ⟨r, h', e1_w, e2_w, e3_w, -, -, rfl⟩ := m_224 (xs := xs) (L := L) (ck := ck) (cW := cW) (n := n) (g := g) hJ hK_w hQ hi_w hj m0_w m1_w
  exact ⟨[], h', e1_w, e2_w, e3_w, by rw [rr_224]; trivial, fun k => absurd rfl k⟩
end HA1
end
section
/-! ===== the reference's methods by hand_w: starts, keeps_w, what was read ===== -/
section HA2
variable {P : Int × Int} {g : Nat × Nat} {xs : Nat → Int} {L K n : Nat} {ck : Nat → List Nat} {cW : Nat → Nat → Int} {h : XH} {J : XH → Prop}
/-- what is_w stored_w in a part of a block_w fits_w all_w regions there_w -/
def st_fit (lo_w hi_w : Nat) (t : IT) : Bool := (r_A 194).2.2.all fun r => Nat.ble r.2.1 lo_w || Nat.ble hi_w r.1 || i_sub t r.2.2
theorem st_fit_ok {lo_w hi_w i : Nat} {t : IT} {v : Int} (hc_w : st_fit lo_w hi_w t = true) (h1 : lo_w ≤ i) (h2 : i < hi_w) (hv : IV P t v) : ∀ r ∈ (r_A 194).2.2, r.1 ≤ i → i < r.2.1 → IV P r.2.2 v := by
  intro r hr k1_w k2
  have h3 := List.all_eq_true.mp hc_w r hr
  simp only [Bool.or_eq_true, Nat.ble_eq] at h3
  exact IV.sub (h3.resolve_left (by omega)) hv
theorem st_init : (List.range 404).all (fun i => (r_A 194).2.2.all fun r => Nat.ble r.2.1 i || Nat.blt i r.1 || i_sub (bif Nat.blt i 78 then (1, -1, -1) else (1, 0, 0)) r.2.2) = true := by decide +kernel
theorem st_init_ok {i : Nat} (hi_w : i < 404) {v : Int} (hv : v = if i < 78 then -1 else 0) : ∀ r ∈ (r_A 194).2.2, r.1 ≤ i → i < r.2.1 → IV P r.2.2 v := by
  intro r hr k1_w k2
  have h3 := List.all_eq_true.mp (List.all_eq_true.mp st_init i (List.mem_range.mpr hi_w)) r hr
  simp only [Bool.or_eq_true, Nat.ble_eq, Nat.blt_eq] at h3
  refine IV.sub (h3.resolve_left (by omega)) ?_
  subst hv
  by_cases h : i < 78
  · rw [if_pos h, show Nat.blt i 78 = true from Nat.blt_eq.mpr h]
    exact ⟨by decide, by decide, by decide, by decide⟩
  · rw [if_neg h, show Nat.blt i 78 = false from by cases hb_w : Nat.blt i 78 with | false => rfl | true => exact absurd (Nat.blt_eq.mp hb_w) h]
    exact ⟨by decide, by decide, by decide, by decide⟩
theorem gr_met {m k : Int} (hQ : QK P (r_T 0) J h) (m0_w : 0 ≤ m) (m1_w : m < 6) (k0_w : 0 ≤ k) (k1_w : k < 3) : IV P (1, 0, 3) (h 188 (73 + 3 * m + k).toNat) := by
  have hc_w : m = 0 ∨ m = 1 ∨ m = 2 ∨ m = 3 ∨ m = 4 ∨ m = 5 := by omega
  rcases hc_w with rfl | rfl | rfl | rfl | rfl | rfl
  · exact q_cell hQ (q := 188) (r := 19) (x := (73, 76, (1, 0, 3))) (by decide) rfl rfl (by dsimp only; omega) (by dsimp only; omega)
  · exact q_cell hQ (q := 188) (r := 20) (x := (76, 79, (1, 0, 3))) (by decide) rfl rfl (by dsimp only; omega) (by dsimp only; omega)
  · exact q_cell hQ (q := 188) (r := 21) (x := (79, 82, (1, 0, 3))) (by decide) rfl rfl (by dsimp only; omega) (by dsimp only; omega)
  · exact q_cell hQ (q := 188) (r := 22) (x := (82, 85, (1, 0, 3))) (by decide) rfl rfl (by dsimp only; omega) (by dsimp only; omega)
  · exact q_cell hQ (q := 188) (r := 23) (x := (85, 88, (1, 0, 3))) (by decide) rfl rfl (by dsimp only; omega) (by dsimp only; omega)
  · exact q_cell hQ (q := 188) (r := 24) (x := (88, 91, (1, 0, 3))) (by decide) rfl rfl (by dsimp only; omega) (by dsimp only; omega)
theorem gr_feed {s : Int} (hQ : QK P (r_T 0) J h) (s0 : 0 ≤ s) (s1_w : s < 12) : IV P (1, 0, 9999) (h 188 (5 + s).toNat) :=
  q_cell hQ (q := 188) (r := 5) (x := (5, 17, (1, 0, 9999))) (by decide) rfl rfl (by dsimp only; omega) (by dsimp only; omega)
theorem t_240 (hJ : JS (r_T 0) J) (hK_w : 4294967300 ≤ K) (c228 : TotR P (r_T 0) J g (evF xs L ck K cW g_M n) 228) (c225 : TotR P (r_T 0) J g (evF xs L ck K cW g_M n) 225) : TotR P (r_T 0) J g (evF xs L ck K cW g_M (n + 1)) 240 := by
  refine tot_hand gm_240 rp_240 rr_240 ru_240 fun av h hQ hv => ?_
  obtain ⟨x, b, rfl, hx, hb_w⟩ := il2 hv
  obtain rfl : x = 182 := hx
  obtain ⟨j, hj, rfl⟩ := iv_base hb_w
  show wS _ _ K bb_240 [182, 429 * (j : Int), 0, 0] h _
  generalize evF xs L ck K cW g_M n = F at c228 c225 ⊢
  unfold bb_240
  simp only [wf_4, wf_40, wf_5, wf_50, wf_6, wl_1, wt_1, wu_1, wa_1, wl_4, wt_4, wu_4, wa_4, wl_5, wt_5, wu_5, wa_5, wl_6, wt_6, wu_6, wa_6, wl_9, wt_9, wu_9, wa_9, wl_10, wt_10, wu_10, wa_10, wl_11, wt_11, wu_11, wa_11, wl_13, wt_13, wu_13, wa_13, wl_14, wt_14, wu_14, wa_14, wl_15, wt_15, wu_15, wa_15, wl_16, wt_16, wu_16, wa_16, wl_17, wt_17, wu_17, wa_17, wl_20, wt_20, wu_20, wa_20, wl_21, wt_21, wu_21, wa_21, wl_22, wt_22, wu_22, wa_22, wl_23, wt_23, wu_23, wa_23, wl_24, wt_24, wu_24, wa_24, wl_26, wt_26, wu_26, wa_26, wl_27, wt_27, wu_27, wa_27, wl_28, wt_28, wu_28, wa_28, we_1, we_3, we_10, we_14, we_15, we_16, we_17, we_18, we_20, we_21, we_22, we_24, we_25, we_26, we_27, we_28, we_30, we_31, we_32, wc_20, wc_21, wc_22, wc_24, wc_25, wc_26, wc_27, wc_3, wc_4, wc_7, wc_28, wc_32, ws_1, ws_2, ws_3, ws_4, ws_9, ws_10, ws_11, ws_14, ws_15, ws_16, ws_27, ws_17, ws_20, ws_28, kc_0, kc_1, kn_1, kc_2, kn_2, kc_3, kc_4, kc_5, kc_6, kc_7, kc_8, kc_9, kc_10, kc_12, kc_13, kc_14, kc_16, kc_17, kc_18, kc_19, kc_20, kc_21, kc_22, kc_24, kc_28, kc_30, kc_32, kc_37, kc_40, kc_41, kc_42, kc_43, kc_45, kc_48, kc_56, kc_57, kc_59, kc_60, kc_61, kc_64, kc_73, kc_78, kc_91, kc_95, kc_96, kc_97, kc_98, kc_99, kc_100, kc_112, kc_122, kc_125, kc_126, kc_150, kc_162, kc_163, kc_168, kc_186, kc_190, kc_200, kc_250, kc_255, kc_355, kc_356, kc_404, kc_405, kc_429, kc_573, kc_999, kc_1000, kc_1002, kc_1100, kc_1891, kc_2200, kc_4719, kc_4869, kc_4881, kc_5148, kc_9999, kn_9999, kc_10000, kc_12345, kc_19741, kc_25433, kc_65536, kc_320403, kc_628412, kc_629093, kc_660401, kc_679843, kc_918640, kc_979410, kc_1178088, kc_6232410, kc_24644941, kc_36238189, kc_38270444, kc_392531318, kc_425693491, kc_1103515245, kc_1342154595, kc_2147483648, kc_42328242873, kc_891704255789, kc_1722105685577, kc_1858726030364, ct_0, ct_1, ct_2, ct_3, ct_4, ct_5, cf_0, cf_1, cf_2, cf_3, cf_4, cf_5, w_ty6, w_ty7, m_sv, m_z0, m_hd, m_g0, m_gs, m_s0, m_ss, m_ap, m_an, forall_const, true_and, and_true, ne_eq, not_true_eq_false, not_false_eq_true, false_implies, true_implies, implies_true, eq_self, reduceCtorEq, Nat.reduceDiv, Nat.reduceMod, Int.reduceToNat, or_true, true_or, or_false, false_or, or_self, m_it, m_if, m_c1, m_01, m_02, m_03, m_04, m_10, m_12, m_13, m_14, m_20, m_21, m_23, m_24, m_30, m_31, m_32, m_34, m_40, m_41, m_42, m_43]
  refine w_lp (fun en h' => ∃ k : Int, en = [182, 429 * (j : Int), k, 0] ∧ 0 ≤ k ∧ k ≤ 404 ∧ QK P (r_T 0) J h' ∧ KR (r_T 0) h h') (fun en _ => (404 - en.getD 2 0).toNat) ⟨0, rfl, by omega, by omega, hQ, KR.rf⟩ ?_
  rintro en h1 ⟨k, rfl, k0_w, k1_w, q1_w, q2_w⟩
  refine ⟨?_, ?_⟩
  · show (404 - k).toNat < K
    omega
  simp only [wf_4, wf_40, wf_5, wf_50, wf_6, wl_1, wt_1, wu_1, wa_1, wl_4, wt_4, wu_4, wa_4, wl_5, wt_5, wu_5, wa_5, wl_6, wt_6, wu_6, wa_6, wl_9, wt_9, wu_9, wa_9, wl_10, wt_10, wu_10, wa_10, wl_11, wt_11, wu_11, wa_11, wl_13, wt_13, wu_13, wa_13, wl_14, wt_14, wu_14, wa_14, wl_15, wt_15, wu_15, wa_15, wl_16, wt_16, wu_16, wa_16, wl_17, wt_17, wu_17, wa_17, wl_20, wt_20, wu_20, wa_20, wl_21, wt_21, wu_21, wa_21, wl_22, wt_22, wu_22, wa_22, wl_23, wt_23, wu_23, wa_23, wl_24, wt_24, wu_24, wa_24, wl_26, wt_26, wu_26, wa_26, wl_27, wt_27, wu_27, wa_27, wl_28, wt_28, wu_28, wa_28, we_1, we_3, we_10, we_14, we_15, we_16, we_17, we_18, we_20, we_21, we_22, we_24, we_25, we_26, we_27, we_28, we_30, we_31, we_32, wc_20, wc_21, wc_22, wc_24, wc_25, wc_26, wc_27, wc_3, wc_4, wc_7, wc_28, wc_32, ws_1, ws_2, ws_3, ws_4, ws_9, ws_10, ws_11, ws_14, ws_15, ws_16, ws_27, ws_17, ws_20, ws_28, kc_0, kc_1, kn_1, kc_2, kn_2, kc_3, kc_4, kc_5, kc_6, kc_7, kc_8, kc_9, kc_10, kc_12, kc_13, kc_14, kc_16, kc_17, kc_18, kc_19, kc_20, kc_21, kc_22, kc_24, kc_28, kc_30, kc_32, kc_37, kc_40, kc_41, kc_42, kc_43, kc_45, kc_48, kc_56, kc_57, kc_59, kc_60, kc_61, kc_64, kc_73, kc_78, kc_91, kc_95, kc_96, kc_97, kc_98, kc_99, kc_100, kc_112, kc_122, kc_125, kc_126, kc_150, kc_162, kc_163, kc_168, kc_186, kc_190, kc_200, kc_250, kc_255, kc_355, kc_356, kc_404, kc_405, kc_429, kc_573, kc_999, kc_1000, kc_1002, kc_1100, kc_1891, kc_2200, kc_4719, kc_4869, kc_4881, kc_5148, kc_9999, kn_9999, kc_10000, kc_12345, kc_19741, kc_25433, kc_65536, kc_320403, kc_628412, kc_629093, kc_660401, kc_679843, kc_918640, kc_979410, kc_1178088, kc_6232410, kc_24644941, kc_36238189, kc_38270444, kc_392531318, kc_425693491, kc_1103515245, kc_1342154595, kc_2147483648, kc_42328242873, kc_891704255789, kc_1722105685577, kc_1858726030364, ct_0, ct_1, ct_2, ct_3, ct_4, ct_5, cf_0, cf_1, cf_2, cf_3, cf_4, cf_5, w_ty6, w_ty7, m_sv, m_z0, m_hd, m_g0, m_gs, m_s0, m_ss, m_ap, m_an, forall_const, true_and, and_true, ne_eq, not_true_eq_false, not_false_eq_true, false_implies, true_implies, implies_true, eq_self, reduceCtorEq, Nat.reduceDiv, Nat.reduceMod, Int.reduceToNat, or_true, true_or, or_false, false_or, or_self, m_it, m_if, m_c1, m_01, m_02, m_03, m_04, m_10, m_12, m_13, m_14, m_20, m_21, m_23, m_24, m_30, m_31, m_32, m_34, m_40, m_41, m_42, m_43]
  refine ⟨fun hk => ?_, fun hk => ?_⟩
  · simp (disch := omega) only [jadd, jinc]
    have e1_w : (429 * (j : Int) + k).toNat = 429 * j + k.toNat := by omega
    rw [e1_w]
    refine ⟨fun h78 => ?_, fun h78 => ?_⟩
    · obtain ⟨q3_w, q4_w⟩ := st_QK q1_w hJ (j := j) (i := k.toNat) (v := -1) hj (by omega) (st_init_ok (by omega) (by rw [if_pos (by omega)])) ⟨by decide, by decide⟩
      refine ⟨⟨by omega, by omega⟩, ⟨k + 1, rfl, by omega, by omega, q3_w, q2_w.tr q4_w⟩, ?_⟩
      show (404 - (k + 1)).toNat < (404 - k).toNat
      omega
    · obtain ⟨q3_w, q4_w⟩ := st_QK q1_w hJ (j := j) (i := k.toNat) (v := 0) hj (by omega) (st_init_ok (by omega) (by rw [if_neg (by omega)])) ⟨by decide, by decide⟩
      refine ⟨⟨by omega, by omega⟩, ⟨k + 1, rfl, by omega, by omega, q3_w, q2_w.tr q4_w⟩, ?_⟩
      show (404 - (k + 1)).toNat < (404 - k).toNat
      omega
  · refine w_lp (fun en h' => ∃ m z : Int, en = [182, 429 * (j : Int), m, z] ∧ 0 ≤ m ∧ m ≤ 6 ∧ QK P (r_T 0) J h' ∧ KR (r_T 0) h h') (fun en _ => (6 - en.getD 2 0).toNat) ⟨0, 0, rfl, by omega, by omega, q1_w, q2_w⟩ ?_
    rintro en h2 ⟨m, z, rfl, m0_w, m1_w, q3_w, q4_w⟩
    refine ⟨?_, ?_⟩
    · show (6 - m).toNat < K
      omega
    simp only [wf_4, wf_40, wf_5, wf_50, wf_6, wl_1, wt_1, wu_1, wa_1, wl_4, wt_4, wu_4, wa_4, wl_5, wt_5, wu_5, wa_5, wl_6, wt_6, wu_6, wa_6, wl_9, wt_9, wu_9, wa_9, wl_10, wt_10, wu_10, wa_10, wl_11, wt_11, wu_11, wa_11, wl_13, wt_13, wu_13, wa_13, wl_14, wt_14, wu_14, wa_14, wl_15, wt_15, wu_15, wa_15, wl_16, wt_16, wu_16, wa_16, wl_17, wt_17, wu_17, wa_17, wl_20, wt_20, wu_20, wa_20, wl_21, wt_21, wu_21, wa_21, wl_22, wt_22, wu_22, wa_22, wl_23, wt_23, wu_23, wa_23, wl_24, wt_24, wu_24, wa_24, wl_26, wt_26, wu_26, wa_26, wl_27, wt_27, wu_27, wa_27, wl_28, wt_28, wu_28, wa_28, we_1, we_3, we_10, we_14, we_15, we_16, we_17, we_18, we_20, we_21, we_22, we_24, we_25, we_26, we_27, we_28, we_30, we_31, we_32, wc_20, wc_21, wc_22, wc_24, wc_25, wc_26, wc_27, wc_3, wc_4, wc_7, wc_28, wc_32, ws_1, ws_2, ws_3, ws_4, ws_9, ws_10, ws_11, ws_14, ws_15, ws_16, ws_27, ws_17, ws_20, ws_28, kc_0, kc_1, kn_1, kc_2, kn_2, kc_3, kc_4, kc_5, kc_6, kc_7, kc_8, kc_9, kc_10, kc_12, kc_13, kc_14, kc_16, kc_17, kc_18, kc_19, kc_20, kc_21, kc_22, kc_24, kc_28, kc_30, kc_32, kc_37, kc_40, kc_41, kc_42, kc_43, kc_45, kc_48, kc_56, kc_57, kc_59, kc_60, kc_61, kc_64, kc_73, kc_78, kc_91, kc_95, kc_96, kc_97, kc_98, kc_99, kc_100, kc_112, kc_122, kc_125, kc_126, kc_150, kc_162, kc_163, kc_168, kc_186, kc_190, kc_200, kc_250, kc_255, kc_355, kc_356, kc_404, kc_405, kc_429, kc_573, kc_999, kc_1000, kc_1002, kc_1100, kc_1891, kc_2200, kc_4719, kc_4869, kc_4881, kc_5148, kc_9999, kn_9999, kc_10000, kc_12345, kc_19741, kc_25433, kc_65536, kc_320403, kc_628412, kc_629093, kc_660401, kc_679843, kc_918640, kc_979410, kc_1178088, kc_6232410, kc_24644941, kc_36238189, kc_38270444, kc_392531318, kc_425693491, kc_1103515245, kc_1342154595, kc_2147483648, kc_42328242873, kc_891704255789, kc_1722105685577, kc_1858726030364, ct_0, ct_1, ct_2, ct_3, ct_4, ct_5, cf_0, cf_1, cf_2, cf_3, cf_4, cf_5, w_ty6, w_ty7, m_sv, m_z0, m_hd, m_g0, m_gs, m_s0, m_ss, m_ap, m_an, forall_const, true_and, and_true, ne_eq, not_true_eq_false, not_false_eq_true, false_implies, true_implies, implies_true, eq_self, reduceCtorEq, Nat.reduceDiv, Nat.reduceMod, Int.reduceToNat, or_true, true_or, or_false, false_or, or_self, m_it, m_if, m_c1, m_01, m_02, m_03, m_04, m_10, m_12, m_13, m_14, m_20, m_21, m_23, m_24, m_30, m_31, m_32, m_34, m_40, m_41, m_42, m_43]
    obtain ⟨v, h3, e1_w, e2_w, e3_w, e4_w, e5_w, e6_w⟩ := use1 c228 rp_228 rr_228 q3_w il_this
    refine ⟨[v], h3, e1_w, fun hm_w => ?_, fun hm_w => ?_⟩
    · simp only [m_hd] at hm_w
      refine w_lp (fun en h' => ∃ s : Int, en = [182, 429 * (j : Int), m, s] ∧ 0 ≤ s ∧ s ≤ 12 ∧ QK P (r_T 0) J h' ∧ KR (r_T 0) h h') (fun en _ => (12 - en.getD 3 0).toNat) ⟨0, rfl, by omega, by omega, e2_w, q4_w.tr e3_w⟩ ?_
      rintro en h4 ⟨s, rfl, s0, s1_w, q5_w, q6_w⟩
      refine ⟨?_, ?_⟩
      · show (12 - s).toNat < K
        omega
      simp only [wf_4, wf_40, wf_5, wf_50, wf_6, wl_1, wt_1, wu_1, wa_1, wl_4, wt_4, wu_4, wa_4, wl_5, wt_5, wu_5, wa_5, wl_6, wt_6, wu_6, wa_6, wl_9, wt_9, wu_9, wa_9, wl_10, wt_10, wu_10, wa_10, wl_11, wt_11, wu_11, wa_11, wl_13, wt_13, wu_13, wa_13, wl_14, wt_14, wu_14, wa_14, wl_15, wt_15, wu_15, wa_15, wl_16, wt_16, wu_16, wa_16, wl_17, wt_17, wu_17, wa_17, wl_20, wt_20, wu_20, wa_20, wl_21, wt_21, wu_21, wa_21, wl_22, wt_22, wu_22, wa_22, wl_23, wt_23, wu_23, wa_23, wl_24, wt_24, wu_24, wa_24, wl_26, wt_26, wu_26, wa_26, wl_27, wt_27, wu_27, wa_27, wl_28, wt_28, wu_28, wa_28, we_1, we_3, we_10, we_14, we_15, we_16, we_17, we_18, we_20, we_21, we_22, we_24, we_25, we_26, we_27, we_28, we_30, we_31, we_32, wc_20, wc_21, wc_22, wc_24, wc_25, wc_26, wc_27, wc_3, wc_4, wc_7, wc_28, wc_32, ws_1, ws_2, ws_3, ws_4, ws_9, ws_10, ws_11, ws_14, ws_15, ws_16, ws_27, ws_17, ws_20, ws_28, kc_0, kc_1, kn_1, kc_2, kn_2, kc_3, kc_4, kc_5, kc_6, kc_7, kc_8, kc_9, kc_10, kc_12, kc_13, kc_14, kc_16, kc_17, kc_18, kc_19, kc_20, kc_21, kc_22, kc_24, kc_28, kc_30, kc_32, kc_37, kc_40, kc_41, kc_42, kc_43, kc_45, kc_48, kc_56, kc_57, kc_59, kc_60, kc_61, kc_64, kc_73, kc_78, kc_91, kc_95, kc_96, kc_97, kc_98, kc_99, kc_100, kc_112, kc_122, kc_125, kc_126, kc_150, kc_162, kc_163, kc_168, kc_186, kc_190, kc_200, kc_250, kc_255, kc_355, kc_356, kc_404, kc_405, kc_429, kc_573, kc_999, kc_1000, kc_1002, kc_1100, kc_1891, kc_2200, kc_4719, kc_4869, kc_4881, kc_5148, kc_9999, kn_9999, kc_10000, kc_12345, kc_19741, kc_25433, kc_65536, kc_320403, kc_628412, kc_629093, kc_660401, kc_679843, kc_918640, kc_979410, kc_1178088, kc_6232410, kc_24644941, kc_36238189, kc_38270444, kc_392531318, kc_425693491, kc_1103515245, kc_1342154595, kc_2147483648, kc_42328242873, kc_891704255789, kc_1722105685577, kc_1858726030364, ct_0, ct_1, ct_2, ct_3, ct_4, ct_5, cf_0, cf_1, cf_2, cf_3, cf_4, cf_5, w_ty6, w_ty7, m_sv, m_z0, m_hd, m_g0, m_gs, m_s0, m_ss, m_ap, m_an, forall_const, true_and, and_true, ne_eq, not_true_eq_false, not_false_eq_true, false_implies, true_implies, implies_true, eq_self, reduceCtorEq, Nat.reduceDiv, Nat.reduceMod, Int.reduceToNat, or_true, true_or, or_false, false_or, or_self, m_it, m_if, m_c1, m_01, m_02, m_03, m_04, m_10, m_12, m_13, m_14, m_20, m_21, m_23, m_24, m_30, m_31, m_32, m_34, m_40, m_41, m_42, m_43]
      refine ⟨fun hs => ?_, fun hs => ?_⟩
      · simp (disch := omega) only [jadd, jmul, jinc]
        have e7_w : (429 * (j : Int) + 78 + 12 * m + s).toNat = 429 * j + (78 + 12 * m + s).toNat := by omega
        rw [e7_w]
        obtain ⟨q7_w, q8_w⟩ := st_QK q5_w hJ (j := j) (i := (78 + 12 * m + s).toNat) (v := h4 188 (73 + 3 * m + 2).toNat) hj (by omega) (st_fit_ok (lo_w := 78) (hi_w := 150) (t := (1, 0, 3)) (by decide +kernel) (by omega) (by omega) (gr_met q5_w m0_w (by omega) (by decide) (by decide))) (ht_int q5_w.1 (by decide) _)
        refine ⟨⟨by omega, by omega⟩, ⟨by omega, by omega⟩, ⟨s + 1, rfl, by omega, by omega, q7_w, q6_w.tr q8_w⟩, ?_⟩
        show (12 - (s + 1)).toNat < (12 - s).toNat
        omega
      · simp (disch := omega) only [jinc]
        refine ⟨⟨m + 1, s, rfl, by omega, by omega, q5_w, q6_w⟩, ?_⟩
        show (6 - (m + 1)).toNat < (6 - m).toNat
        omega
    · refine w_lp (fun en h' => ∃ s : Int, en = [182, 429 * (j : Int), s, z] ∧ 0 ≤ s ∧ s ≤ 12 ∧ QK P (r_T 0) J h' ∧ KR (r_T 0) h h') (fun en _ => (12 - en.getD 2 0).toNat) ⟨0, rfl, by omega, by omega, e2_w, q4_w.tr e3_w⟩ ?_
      rintro en h4 ⟨s, rfl, s0, s1_w, q5_w, q6_w⟩
      refine ⟨?_, ?_⟩
      · show (12 - s).toNat < K
        omega
      simp only [wf_4, wf_40, wf_5, wf_50, wf_6, wl_1, wt_1, wu_1, wa_1, wl_4, wt_4, wu_4, wa_4, wl_5, wt_5, wu_5, wa_5, wl_6, wt_6, wu_6, wa_6, wl_9, wt_9, wu_9, wa_9, wl_10, wt_10, wu_10, wa_10, wl_11, wt_11, wu_11, wa_11, wl_13, wt_13, wu_13, wa_13, wl_14, wt_14, wu_14, wa_14, wl_15, wt_15, wu_15, wa_15, wl_16, wt_16, wu_16, wa_16, wl_17, wt_17, wu_17, wa_17, wl_20, wt_20, wu_20, wa_20, wl_21, wt_21, wu_21, wa_21, wl_22, wt_22, wu_22, wa_22, wl_23, wt_23, wu_23, wa_23, wl_24, wt_24, wu_24, wa_24, wl_26, wt_26, wu_26, wa_26, wl_27, wt_27, wu_27, wa_27, wl_28, wt_28, wu_28, wa_28, we_1, we_3, we_10, we_14, we_15, we_16, we_17, we_18, we_20, we_21, we_22, we_24, we_25, we_26, we_27, we_28, we_30, we_31, we_32, wc_20, wc_21, wc_22, wc_24, wc_25, wc_26, wc_27, wc_3, wc_4, wc_7, wc_28, wc_32, ws_1, ws_2, ws_3, ws_4, ws_9, ws_10, ws_11, ws_14, ws_15, ws_16, ws_27, ws_17, ws_20, ws_28, kc_0, kc_1, kn_1, kc_2, kn_2, kc_3, kc_4, kc_5, kc_6, kc_7, kc_8, kc_9, kc_10, kc_12, kc_13, kc_14, kc_16, kc_17, kc_18, kc_19, kc_20, kc_21, kc_22, kc_24, kc_28, kc_30, kc_32, kc_37, kc_40, kc_41, kc_42, kc_43, kc_45, kc_48, kc_56, kc_57, kc_59, kc_60, kc_61, kc_64, kc_73, kc_78, kc_91, kc_95, kc_96, kc_97, kc_98, kc_99, kc_100, kc_112, kc_122, kc_125, kc_126, kc_150, kc_162, kc_163, kc_168, kc_186, kc_190, kc_200, kc_250, kc_255, kc_355, kc_356, kc_404, kc_405, kc_429, kc_573, kc_999, kc_1000, kc_1002, kc_1100, kc_1891, kc_2200, kc_4719, kc_4869, kc_4881, kc_5148, kc_9999, kn_9999, kc_10000, kc_12345, kc_19741, kc_25433, kc_65536, kc_320403, kc_628412, kc_629093, kc_660401, kc_679843, kc_918640, kc_979410, kc_1178088, kc_6232410, kc_24644941, kc_36238189, kc_38270444, kc_392531318, kc_425693491, kc_1103515245, kc_1342154595, kc_2147483648, kc_42328242873, kc_891704255789, kc_1722105685577, kc_1858726030364, ct_0, ct_1, ct_2, ct_3, ct_4, ct_5, cf_0, cf_1, cf_2, cf_3, cf_4, cf_5, w_ty6, w_ty7, m_sv, m_z0, m_hd, m_g0, m_gs, m_s0, m_ss, m_ap, m_an, forall_const, true_and, and_true, ne_eq, not_true_eq_false, not_false_eq_true, false_implies, true_implies, implies_true, eq_self, reduceCtorEq, Nat.reduceDiv, Nat.reduceMod, Int.reduceToNat, or_true, true_or, or_false, false_or, or_self, m_it, m_if, m_c1, m_01, m_02, m_03, m_04, m_10, m_12, m_13, m_14, m_20, m_21, m_23, m_24, m_30, m_31, m_32, m_34, m_40, m_41, m_42, m_43]
      obtain ⟨w, h5, f1_w, f2_w, f3_w, f4_w, f5_w, f6_w⟩ := use1 c225 rp_225 rr_225 q5_w il_this
      refine ⟨[w], h5, f1_w, fun hs => ?_, fun hs => ⟨f2_w, q6_w.tr f3_w, trivial⟩⟩
      simp only [m_hd] at hs
      simp (disch := omega) only [jadd, jinc]
      have e7_w : (429 * (j : Int) + 150 + s).toNat = 429 * j + (150 + s).toNat := by omega
      rw [e7_w]
      obtain ⟨q7_w, q8_w⟩ := st_QK f2_w hJ (j := j) (i := (150 + s).toNat) (v := h5 188 (5 + s).toNat) hj (by omega) (st_fit_ok (lo_w := 150) (hi_w := 162) (t := (1, 0, 9999)) (by decide +kernel) (by omega) (by omega) (gr_feed f2_w s0 (by omega))) (ht_int f2_w.1 (by decide) _)
      refine ⟨⟨by omega, by omega⟩, ⟨by omega, by omega⟩, ⟨s + 1, rfl, by omega, by omega, q7_w, (q6_w.tr f3_w).tr q8_w⟩, ?_⟩
      show (12 - (s + 1)).toNat < (12 - s).toNat
      omega
/-- a field_w of the reference_w is_w written_w -/
theorem fd_QK (hQ : QK P (r_T 0) J h) (hJ : JS (r_T 0) J) {k : Nat} {v : Int} (hk : (r_F k).1 = 1 ∨ (r_F k).1 = 2) (hv : IV P (r_F k) v) : QK P (r_T 0) J (j_up h 182 k v) ∧ KR (r_T 0) h (j_up h 182 k v) :=
  ⟨⟨fld_HT (T := r_T 0) (r_tab 0) hQ.1 hk hv, RI.fld hJ rfl hQ.2 hv⟩, KR.up rfl⟩
theorem q_undos (hQ : QK P (r_T 0) J h) : 0 ≤ h 182 18 ∧ h 182 18 ≤ 8 := by
  have k : IV P (1, 0, 8) (h 182 18) := hQ.2.1 18
  exact ⟨k.1, k.2.1⟩
theorem m_242 (hJ : JS (r_T 0) J) (hK_w : 4294967300 ≤ K) (hQ : QK P (r_T 0) J h) : ∃ r h', evF xs L ck K cW g_M (n + 2) 242 [182] ((a_g3, g), h) = some (1, r, ((a_g3, g), h')) ∧ QK P (r_T 0) J h' ∧ KR (r_T 0) h h' ∧ (∀ p, p < 858 → h' 194 p = h 194 p) ∧ r = [] := by
  refine tr_of gm_242 (B := fun r h' => QK P (r_T 0) J h' ∧ KR (r_T 0) h h' ∧ (∀ p, p < 858 → h' 194 p = h 194 p) ∧ r = []) ?_
  show wS _ _ K bb_242 [182, 0] h _
  have c224 := fun (h : XH) (hQ : QK P (r_T 0) J h) i j (hi_w : i < 12) (hj : j < 12) => m_224 (xs := xs) (L := L) (ck := ck) (cW := cW) (n := n) (g := g) (m := 404) hJ hK_w hQ hi_w hj (by decide) (by decide)
  generalize evF xs L ck K cW g_M (n + 1) = F at c224 ⊢
  have fin_w : ∀ h1, QK P (r_T 0) J h1 → KR (r_T 0) h h1 → (∀ p, p < 858 → h1 194 p = h 194 p) → h1 182 18 < 8 → ∃ r h2, F 224 [182, 0, j_iop 2 429 (j_iop 0 3 (h1 182 18)), 404] ((a_g3, g), h1) = some (1, r, ((a_g3, g), h2)) ∧ QK P (r_T 0) J (j_up h2 182 18 (j_iop 0 (h2 182 18) 1)) ∧ KR (r_T 0) h (j_up h2 182 18 (j_iop 0 (h2 182 18) 1)) ∧ (∀ p, p < 858 → j_up h2 182 18 (j_iop 0 (h2 182 18) 1) 194 p = h 194 p) := by
    intro h1 q1_w q2_w q9_w q3_w
    have u := q_undos q1_w
    obtain ⟨r, h2, e1_w, e2_w, e3_w, e4_w, e5_w, -⟩ := c224 h1 q1_w 0 (3 + (h1 182 18).toNat) (by decide) (by omega)
    refine ⟨r, h2, ?_, ?_⟩
    · simp (disch := omega) only [jadd, jmul]
      have k1_w : 429 * (3 + h1 182 18) = 429 * ((3 + (h1 182 18).toNat : Nat) : Int) := by omega
      rw [k1_w]
      exact e1_w
    · have k2 := e4_w 182 18 (by decide)
      rw [k2]
      simp (disch := omega) only [jadd]
      obtain ⟨z1, z2⟩ := fd_QK e2_w hJ (k := 18) (v := h1 182 18 + 1) (Or.inl rfl) ⟨by omega, by omega, by omega, by omega⟩
      exact ⟨z1, (q2_w.tr e3_w).tr z2, fun p hp => (up_ne (fun z => absurd z.1 (by decide))).trans ((e5_w p (Or.inl (by omega))).trans (q9_w p hp))⟩
  unfold bb_242
  simp only [wf_4, wf_40, wf_5, wf_50, wf_6, wl_1, wt_1, wu_1, wa_1, wl_4, wt_4, wu_4, wa_4, wl_5, wt_5, wu_5, wa_5, wl_6, wt_6, wu_6, wa_6, wl_9, wt_9, wu_9, wa_9, wl_10, wt_10, wu_10, wa_10, wl_11, wt_11, wu_11, wa_11, wl_13, wt_13, wu_13, wa_13, wl_14, wt_14, wu_14, wa_14, wl_15, wt_15, wu_15, wa_15, wl_16, wt_16, wu_16, wa_16, wl_17, wt_17, wu_17, wa_17, wl_20, wt_20, wu_20, wa_20, wl_21, wt_21, wu_21, wa_21, wl_22, wt_22, wu_22, wa_22, wl_23, wt_23, wu_23, wa_23, wl_24, wt_24, wu_24, wa_24, wl_26, wt_26, wu_26, wa_26, wl_27, wt_27, wu_27, wa_27, wl_28, wt_28, wu_28, wa_28, we_1, we_3, we_10, we_14, we_15, we_16, we_17, we_18, we_20, we_21, we_22, we_24, we_25, we_26, we_27, we_28, we_30, we_31, we_32, wc_20, wc_21, wc_22, wc_24, wc_25, wc_26, wc_27, wc_3, wc_4, wc_7, wc_28, wc_32, ws_1, ws_2, ws_3, ws_4, ws_9, ws_10, ws_11, ws_14, ws_15, ws_16, ws_27, ws_17, ws_20, ws_28, kc_0, kc_1, kn_1, kc_2, kn_2, kc_3, kc_4, kc_5, kc_6, kc_7, kc_8, kc_9, kc_10, kc_12, kc_13, kc_14, kc_16, kc_17, kc_18, kc_19, kc_20, kc_21, kc_22, kc_24, kc_28, kc_30, kc_32, kc_37, kc_40, kc_41, kc_42, kc_43, kc_45, kc_48, kc_56, kc_57, kc_59, kc_60, kc_61, kc_64, kc_73, kc_78, kc_91, kc_95, kc_96, kc_97, kc_98, kc_99, kc_100, kc_112, kc_122, kc_125, kc_126, kc_150, kc_162, kc_163, kc_168, kc_186, kc_190, kc_200, kc_250, kc_255, kc_355, kc_356, kc_404, kc_405, kc_429, kc_573, kc_999, kc_1000, kc_1002, kc_1100, kc_1891, kc_2200, kc_4719, kc_4869, kc_4881, kc_5148, kc_9999, kn_9999, kc_10000, kc_12345, kc_19741, kc_25433, kc_65536, kc_320403, kc_628412, kc_629093, kc_660401, kc_679843, kc_918640, kc_979410, kc_1178088, kc_6232410, kc_24644941, kc_36238189, kc_38270444, kc_392531318, kc_425693491, kc_1103515245, kc_1342154595, kc_2147483648, kc_42328242873, kc_891704255789, kc_1722105685577, kc_1858726030364, ct_0, ct_1, ct_2, ct_3, ct_4, ct_5, cf_0, cf_1, cf_2, cf_3, cf_4, cf_5, w_ty6, w_ty7, m_sv, m_z0, m_hd, m_g0, m_gs, m_s0, m_ss, m_ap, m_an, forall_const, true_and, and_true, ne_eq, not_true_eq_false, not_false_eq_true, false_implies, true_implies, implies_true, eq_self, reduceCtorEq, Nat.reduceDiv, Nat.reduceMod, Int.reduceToNat, or_true, true_or, or_false, false_or, or_self, m_it, m_if, m_c1, m_01, m_02, m_03, m_04, m_10, m_12, m_13, m_14, m_20, m_21, m_23, m_24, m_30, m_31, m_32, m_34, m_40, m_41, m_42, m_43]
  have u := q_undos hQ
  refine ⟨fun h8 => ?_, fun h8 => ?_⟩
  · refine w_lp (fun en h' => ∃ k : Int, en = [182, k] ∧ 1 ≤ k ∧ k ≤ 8 ∧ QK P (r_T 0) J h' ∧ KR (r_T 0) h h' ∧ h' 182 18 = 8 ∧ (∀ p, p < 858 → h' 194 p = h 194 p)) (fun en _ => (8 - en.getD 1 0).toNat) ⟨1, rfl, by omega, by omega, hQ, KR.rf, h8, fun _ _ => rfl⟩ ?_
    rintro en h1 ⟨k, rfl, k0_w, k1_w, q1_w, q2_w, q3_w, q4_w⟩
    refine ⟨?_, ?_⟩
    · show (8 - k).toNat < K
      omega
    simp only [wf_4, wf_40, wf_5, wf_50, wf_6, wl_1, wt_1, wu_1, wa_1, wl_4, wt_4, wu_4, wa_4, wl_5, wt_5, wu_5, wa_5, wl_6, wt_6, wu_6, wa_6, wl_9, wt_9, wu_9, wa_9, wl_10, wt_10, wu_10, wa_10, wl_11, wt_11, wu_11, wa_11, wl_13, wt_13, wu_13, wa_13, wl_14, wt_14, wu_14, wa_14, wl_15, wt_15, wu_15, wa_15, wl_16, wt_16, wu_16, wa_16, wl_17, wt_17, wu_17, wa_17, wl_20, wt_20, wu_20, wa_20, wl_21, wt_21, wu_21, wa_21, wl_22, wt_22, wu_22, wa_22, wl_23, wt_23, wu_23, wa_23, wl_24, wt_24, wu_24, wa_24, wl_26, wt_26, wu_26, wa_26, wl_27, wt_27, wu_27, wa_27, wl_28, wt_28, wu_28, wa_28, we_1, we_3, we_10, we_14, we_15, we_16, we_17, we_18, we_20, we_21, we_22, we_24, we_25, we_26, we_27, we_28, we_30, we_31, we_32, wc_20, wc_21, wc_22, wc_24, wc_25, wc_26, wc_27, wc_3, wc_4, wc_7, wc_28, wc_32, ws_1, ws_2, ws_3, ws_4, ws_9, ws_10, ws_11, ws_14, ws_15, ws_16, ws_27, ws_17, ws_20, ws_28, kc_0, kc_1, kn_1, kc_2, kn_2, kc_3, kc_4, kc_5, kc_6, kc_7, kc_8, kc_9, kc_10, kc_12, kc_13, kc_14, kc_16, kc_17, kc_18, kc_19, kc_20, kc_21, kc_22, kc_24, kc_28, kc_30, kc_32, kc_37, kc_40, kc_41, kc_42, kc_43, kc_45, kc_48, kc_56, kc_57, kc_59, kc_60, kc_61, kc_64, kc_73, kc_78, kc_91, kc_95, kc_96, kc_97, kc_98, kc_99, kc_100, kc_112, kc_122, kc_125, kc_126, kc_150, kc_162, kc_163, kc_168, kc_186, kc_190, kc_200, kc_250, kc_255, kc_355, kc_356, kc_404, kc_405, kc_429, kc_573, kc_999, kc_1000, kc_1002, kc_1100, kc_1891, kc_2200, kc_4719, kc_4869, kc_4881, kc_5148, kc_9999, kn_9999, kc_10000, kc_12345, kc_19741, kc_25433, kc_65536, kc_320403, kc_628412, kc_629093, kc_660401, kc_679843, kc_918640, kc_979410, kc_1178088, kc_6232410, kc_24644941, kc_36238189, kc_38270444, kc_392531318, kc_425693491, kc_1103515245, kc_1342154595, kc_2147483648, kc_42328242873, kc_891704255789, kc_1722105685577, kc_1858726030364, ct_0, ct_1, ct_2, ct_3, ct_4, ct_5, cf_0, cf_1, cf_2, cf_3, cf_4, cf_5, w_ty6, w_ty7, m_sv, m_z0, m_hd, m_g0, m_gs, m_s0, m_ss, m_ap, m_an, forall_const, true_and, and_true, ne_eq, not_true_eq_false, not_false_eq_true, false_implies, true_implies, implies_true, eq_self, reduceCtorEq, Nat.reduceDiv, Nat.reduceMod, Int.reduceToNat, or_true, true_or, or_false, false_or, or_self, m_it, m_if, m_c1, m_01, m_02, m_03, m_04, m_10, m_12, m_13, m_14, m_20, m_21, m_23, m_24, m_30, m_31, m_32, m_34, m_40, m_41, m_42, m_43]
    refine ⟨fun hk => ?_, fun hk => ?_⟩
    · obtain ⟨r, h2, e1_w, e2_w, e3_w, e4_w, e5_w, -⟩ := c224 h1 q1_w (3 + k.toNat) (2 + k.toNat) (by omega) (by omega)
      simp (disch := omega) only [jadd, jsub, jmul, jinc]
      refine ⟨r, h2, ?_, ⟨k + 1, rfl, by omega, by omega, e2_w, q2_w.tr e3_w, (e4_w 182 18 (by decide)).trans q3_w, fun p hp => (e5_w p (Or.inl (by omega))).trans (q4_w p hp)⟩, ?_⟩
      · rw [show 429 * (3 + k) = 429 * ((3 + k.toNat : Nat) : Int) by omega, show 429 * (3 + k - 1) = 429 * ((2 + k.toNat : Nat) : Int) by omega]
        exact e1_w
      · show (8 - (k + 1)).toNat < (8 - k).toNat
        omega
    · rw [q3_w]
      have e8 : j_iop 1 8 1 = 7 := by decide
      rw [e8]
      obtain ⟨z1, z2⟩ := fd_QK q1_w hJ (k := 18) (v := 7) (Or.inl rfl) ⟨by decide, by decide, by decide, by decide⟩
      obtain ⟨r, h2, f1_w, f2_w, f3_w⟩ := fin_w _ z1 (q2_w.tr z2) (fun p hp => (up_ne (fun z => absurd z.1 (by decide))).trans (q4_w p hp)) (by rw [up_eq]; decide)
      exact ⟨r, h2, f1_w, f2_w, f3_w.1, f3_w.2⟩
  · obtain ⟨r, h2, f1_w, f2_w, f3_w⟩ := fin_w h hQ KR.rf (fun _ _ => rfl) (by omega)
    exact ⟨r, h2, f1_w, f2_w, f3_w.1, f3_w.2⟩
theorem t_242 (hJ : JS (r_T 0) J) (hK_w : 4294967300 ≤ K) : TotR P (r_T 0) J g (evF xs L ck K cW g_M (n + 2)) 242 := by
  intro av h hQ hv
  rw [rp_242] at hv
  obtain ⟨x, rfl, hx⟩ := il1 hv
  obtain rfl : x = 182 := hx
  obtain ⟨r, h', e1_w, e2_w, e3_w, -, rfl⟩ := m_242 (xs := xs) (L := L) (ck := ck) (cW := cW) (n := n) (g := g) hJ hK_w hQ
  exact ⟨[], h', e1_w, e2_w, e3_w, by rw [rr_242]; trivial, fun k => absurd rfl k⟩
end HA2
end
