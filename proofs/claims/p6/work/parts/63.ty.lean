/-! ===== the third reading of statements is right ===== -/
def OutS (g g' : XS × Nat × Nat) (z : Nat → Int) (rt : List Nat) (thr : Bool) (o : TO) (c : Nat) (vals en' : List Int) : Prop :=
  (c = 0 ∧ g' = g ∧ ∃ τ', o.1 = some τ' ∧ VL z g.1 τ' en') ∨ (c = 1 ∧ g' = g ∧ VL z g.1 rt vals) ∨ (c = 2 ∧ g' = g ∧ ∃ τ', o.2.1 = some τ' ∧ VL z g.1 τ' en') ∨ (c = 3 ∧ g' = g ∧ ∃ τ', o.2.2 = some τ' ∧ VL z g.1 τ' en') ∨ (c = 4 ∧ thr = true ∧ g' = (g.1, g.2.1 + 1, g.2.2 + 6))
def TotS (T : TT) (g : XS × Nat × Nat) (ro : Nat → Nat → Bool) (z : Nat → Int) (rt : List Nat) (thr : Bool) (τ : List Nat) (o : TO) (A : XR) : Prop :=
  ∀ (en : List Int) (h : XH), VL z g.1 τ en → HT T.1 g.1 h → ∃ c vals en' g' h', A en (g, h) = some (c, vals, en', (g', h')) ∧ HT T.1 g.1 h' ∧ FR ro h h' ∧ OutS g g' z rt thr o c vals en'
theorem sub_rf : ∀ {x : List Nat}, t_subs x x = true
  | [] => rfl
  | a :: x => (Bool.and_eq_true _ _).mpr ⟨by simp [t_sub], sub_rf⟩
theorem join_l {x y r : Option (List Nat)} (h : t_join x y = some r) {τ : List Nat} (e : x = some τ) : ∃ τ', r = some τ' ∧ t_subs τ τ' = true := by
  subst e
  cases y with
  | none => cases h; exact ⟨τ, rfl, sub_rf⟩
  | some b =>
    obtain ⟨h1, h⟩ := j_if h
    cases h
    exact ⟨_, rfl, lubs_l h1⟩
theorem join_r {x y r : Option (List Nat)} (h : t_join x y = some r) {τ : List Nat} (e : y = some τ) : ∃ τ', r = some τ' ∧ t_subs τ τ' = true := by
  subst e
  cases x with
  | none => cases h; exact ⟨τ, rfl, sub_rf⟩
  | some b =>
    obtain ⟨h1, h⟩ := j_if h
    cases h
    exact ⟨_, rfl, lubs_r h1⟩
def leO (o o' : TO) : Prop := (∀ τ, o.1 = some τ → ∃ τ', o'.1 = some τ' ∧ t_subs τ τ' = true) ∧ (∀ τ, o.2.1 = some τ → ∃ τ', o'.2.1 = some τ' ∧ t_subs τ τ' = true) ∧ ∀ τ, o.2.2 = some τ → ∃ τ', o'.2.2 = some τ' ∧ t_subs τ τ' = true
theorem joins_l {x y r : TO} (h : t_joins x y = some r) : leO x r := by
  obtain ⟨a, h1, h⟩ := j_bd h
  obtain ⟨b, h2, h⟩ := j_bd h
  obtain ⟨c, h3, h⟩ := j_bd h
  cases h
  exact ⟨fun τ e => join_l h1 e, fun τ e => join_l h2 e, fun τ e => join_l h3 e⟩
theorem joins_r {x y r : TO} (h : t_joins x y = some r) : leO y r := by
  obtain ⟨a, h1, h⟩ := j_bd h
  obtain ⟨b, h2, h⟩ := j_bd h
  obtain ⟨c, h3, h⟩ := j_bd h
  cases h
  exact ⟨fun τ e => join_r h1 e, fun τ e => join_r h2 e, fun τ e => join_r h3 e⟩
theorem OutS.mono {g g' : XS × Nat × Nat} {z : Nat → Int} {rt : List Nat} {thr : Bool} {o o' : TO} {c : Nat} {vals en' : List Int} (hle : leO o o') (h : OutS g g' z rt thr o c vals en') : OutS g g' z rt thr o' c vals en' := by
  rcases h with ⟨h1, h2, τ, h3, h4⟩ | h | ⟨h1, h2, τ, h3, h4⟩ | ⟨h1, h2, τ, h3, h4⟩ | h
  · obtain ⟨τ', e1, e2⟩ := hle.1 τ h3
    exact Or.inl ⟨h1, h2, τ', e1, VL.sub e2 h4⟩
  · exact Or.inr (Or.inl h)
  · obtain ⟨τ', e1, e2⟩ := hle.2.1 τ h3
    exact Or.inr (Or.inr (Or.inl ⟨h1, h2, τ', e1, VL.sub e2 h4⟩))
  · obtain ⟨τ', e1, e2⟩ := hle.2.2 τ h3
    exact Or.inr (Or.inr (Or.inr (Or.inl ⟨h1, h2, τ', e1, VL.sub e2 h4⟩)))
  · exact Or.inr (Or.inr (Or.inr (Or.inr h)))
theorem sub_len : ∀ {x y : List Nat}, t_subs x y = true → x.length = y.length
  | [], [], _ => rfl
  | _ :: _, _ :: _, h => by rw [List.length_cons, List.length_cons, sub_len ((Bool.and_eq_true _ _).mp h).2]
  | [], _ :: _, h => by cases h
  | _ :: _, [], h => by cases h
theorem VL.put {z : Nat → Int} {g : XS} {t : Nat} : ∀ {ts : List Nat} {vs : List Int} (i : Nat), i < ts.length → VL z g ts vs → TV z g t (vs.getD i 0) → VL z g (ts.set i t) vs
  | _ :: _, _ :: _, 0, _, h, ht => ⟨ht, h.2⟩
  | _ :: _, _ :: _, i + 1, hl, h, ht => ⟨h.1, VL.put i (by simpa using hl) h.2 ht⟩
  | [], [], _, hl, _, _ => absurd hl (by simp)
  | [], _ :: _, _, _, h, _ => h.elim
  | _ :: _, [], _, _, h, _ => h.elim
/-- the numbers that kinds name may be named anew, but for those that are used -/
theorem VL.zch {z z' : Nat → Int} {g : XS} {i : Nat} (hz : ∀ k, k ≠ i → z' k = z k) : ∀ {ts : List Nat} {vs : List Int}, t_no i ts = true → VL z g ts vs → VL z' g ts vs
  | [], [], _, _ => trivial
  | t :: ts, v :: vs, h, hv => by
    rw [t_no, List.all_cons, Bool.and_eq_true] at h
    have h1 : t ≠ 300 + i := by simpa using h.1
    refine ⟨⟨hv.1.1, hv.1.2.1, hv.1.2.2.1, hv.1.2.2.2.1, hv.1.2.2.2.2.1, fun e => ?_⟩, VL.zch hz h.2 hv.2⟩
    have h2 := hv.1.2.2.2.2.2 e
    rw [hz (t - 300) (by omega)]
    exact h2
  | [], _ :: _, _, h => h.elim
  | _ :: _, [], _, h => h.elim
theorem t_setD {l : List Int} {i : Nat} {v : Int} (h : i < l.length) : (l.set i v).getD i 0 = v := by
  rw [List.getD_eq_getElem?_getD, List.getElem?_set]
  simp [h]
section TYS
variable {T : TT} {g : XS × Nat × Nat} {ro : Nat → Nat → Bool} {z : Nat → Int} {rt : List Nat} {thr : Bool} {τ : List Nat} {o : TO}
/-- how far the counter has to go -/
def mea (u : Bool) (v : Int) : Nat := if u then (2147483648 - v).toNat else (v + 1).toNat
def dir (u : Bool) : Int := if u then 1 else -1
theorem mea_lt {u : Bool} {v : Int} (hv : InI v) (h : if u = true then v < 2147483647 else 0 ≤ v) : mea u (j32 (v + dir u)) < mea u v := by
  unfold InI at hv
  unfold mea dir
  cases u with
  | true =>
    simp only [if_true] at h ⊢
    rw [j32_in ⟨by omega, by omega⟩]
    omega
  | false =>
    simp only [Bool.false_eq_true, if_false] at h ⊢
    rw [j32_in ⟨by omega, by omega⟩]
    omega
theorem mea_b {u : Bool} {v : Int} (hv : InI v) : mea u v < 4294967300 := by
  unfold InI at hv
  unfold mea
  cases u <;> simp <;> omega
/-- a loop whose head keeps its kinds and whose counter goes its way -/
theorem lp_run {i : Nat} {u : Bool} {τ1 x : List Nat} {C' : XE} {B' P' : XR} (hi : i < τ1.length) (h1 : τ1.getD i 0 = 1) (hx : t_subs τ1 x = true)
    (hC : ∀ en h, VL z g.1 τ1 en → HT T.1 g.1 h → ∃ v h', C' en (g, h) = some ([v], (g, h')) ∧ HT T.1 g.1 h' ∧ FR ro h h' ∧ (v ≠ 0 → if u = true then en.getD i 0 < 2147483647 else 0 ≤ en.getD i 0))
    (hB : ∀ en h, VL z g.1 τ1 en → HT T.1 g.1 h → ∃ c vals en' g' h', B' en (g, h) = some (c, vals, en', (g', h')) ∧ HT T.1 g.1 h' ∧ FR ro h h' ∧
      (((c = 0 ∨ c = 3) ∧ g' = g ∧ ∃ en2, P' en' (g, h') = some (0, [], en2, (g, h')) ∧ VL z g.1 τ1 en2 ∧ en2.getD i 0 = j32 (en.getD i 0 + dir u)) ∨ (c = 2 ∧ g' = g ∧ VL z g.1 x en') ∨ (c = 1 ∧ g' = g ∧ VL z g.1 rt vals) ∨ (c = 4 ∧ thr = true ∧ g' = (g.1, g.2.1 + 1, g.2.2 + 6)))) :
    ∀ (k m : Nat) (en : List Int) (h : XH), VL z g.1 τ1 en → HT T.1 g.1 h → mea u (en.getD i 0) ≤ m → m < k → ∃ c vals en' g' h', s_loop C' B' P' k en (g, h) = some (c, vals, en', (g', h')) ∧ HT T.1 g.1 h' ∧ FR ro h h' ∧ OutS g g' z rt thr (some x, none, none) c vals en' := by
  intro k
  induction k with
  | zero => exact fun m en h _ _ _ hk => absurd hk (by omega)
  | succ k ih =>
    intro m en h hv hH hm hk
    obtain ⟨v, h2, e1, e2, e3, e4⟩ := hC en h hv hH
    by_cases hv0 : v = 0
    · refine ⟨0, [], en, g, h2, ?_, e2, e3, Or.inl ⟨rfl, rfl, x, rfl, VL.sub hx hv⟩⟩
      unfold s_loop
      rw [e1, Option.bind_some]
      exact if_pos hv0
    · obtain ⟨c, vals, en', g', h3, f1, f2, f3, f4⟩ := hB en h2 hv e2
      have hs : s_loop C' B' P' (k + 1) en (g, h) = (if c = 0 ∨ c = 3 then (P' en' (g', h3)).bind fun q => if q.1 = 0 then s_loop C' B' P' k q.2.2.1 q.2.2.2 else none else if c = 2 then some (0, [], en', (g', h3)) else some (c, vals, en', (g', h3))) := by
        conv => lhs; unfold s_loop
        rw [e1, Option.bind_some]
        refine (if_neg hv0).trans ?_
        dsimp only
        rw [f1, Option.bind_some]
      rcases f4 with ⟨hc, rfl, en2, p1, p2, p3⟩ | ⟨rfl, rfl, p1⟩ | ⟨rfl, rfl, p1⟩ | ⟨rfl, p1, p2⟩
      · have hin : InI (en.getD i 0) := by
          have := VL.at i hv
          rw [h1] at this
          exact this.1 rfl
        have hml := mea_lt hin (e4 hv0)
        cases m with
        | zero => exact absurd hml (by omega)
        | succ m =>
          obtain ⟨c9, v9, n9, g9, h9, q1, q2, q3, q4⟩ := ih m en2 h3 p2 f2 (by rw [p3]; omega) (by omega)
          refine ⟨c9, v9, n9, g9, h9, ?_, q2, (e3.tr f3).tr q3, q4⟩
          rw [hs, if_pos hc, p1, Option.bind_some]
          exact q1
      · refine ⟨0, [], en', g', h3, ?_, f2, e3.tr f3, Or.inl ⟨rfl, rfl, x, rfl, p1⟩⟩
        rw [hs]
        rfl
      · refine ⟨1, vals, en', g', h3, ?_, f2, e3.tr f3, Or.inr (Or.inl ⟨rfl, rfl, p1⟩)⟩
        rw [hs]
        rfl
      · refine ⟨4, vals, en', g', h3, ?_, f2, e3.tr f3, Or.inr (Or.inr (Or.inr (Or.inr ⟨rfl, p1, p2⟩)))⟩
        rw [hs]
        rfl
theorem lp_ok {i : Nat} {u c3 : Bool} {K : Nat} {TA : List Nat → Option (List Nat)} {TB : List Nat → Option TO} {C' : XE} {B' P' : XR} (hK : 4294967300 ≤ K) (hrt : rt.all (fun t => Nat.blt t 300) = true)
    (hA : ∀ z τ us, TA τ = some us → TotE T g ro z τ us C')
    (hN : ∀ en h v h', C' en (g, h) = some ([v], (g, h')) → v ≠ 0 → HT T.1 g.1 h → InI (en.getD i 0) → ∀ z τ us, TA τ = some us → VL z g.1 τ en → if u = true then en.getD i 0 < 2147483647 else 0 ≤ en.getD i 0)
    (hB : c3 = true → ∀ z τ o, TB τ = some o → TotS T g ro z rt thr τ o B')
    (hP : c3 = true → ∀ en st, P' en st = some (0, [], en.set i (j32 (en.getD i 0 + dir u)), st))
    (hB2 : c3 = false → ∀ en st, B' en st = some (0, [], en.set i (j32 (en.getD i 0 + dir u)), st))
    (hP2 : c3 = false → ∀ en st, P' en st = some (0, [], en, st)) : ∀ (n : Nat) (τ : List Nat) (o : TO), ty_lp T i c3 TA TB n τ = some o → ∀ z, TotS T g ro z rt thr τ o (s_loop C' B' P' K)
  | 0, _, _, h, _ => by cases h
  | n + 1, τ, o, h, z => by
    unfold ty_lp at h
    dsimp only at h
    obtain ⟨⟨c1, c2, c4, c5⟩, h⟩ := j_ifx h
    obtain ⟨ob, b1, h⟩ := j_bd h
    obtain ⟨e, b2, h⟩ := j_bd h
    obtain ⟨ex, b3, h⟩ := j_bd h
    have hlen : i < (τ.set i 1).length := by rw [List.length_set]; exact c1
    have hone : (τ.set i 1).getD i 0 = 1 := by
      rw [List.getD_eq_getElem?_getD, List.getElem?_set]
      simp [c1]
    have hto : ∀ en, VL z g.1 τ en → VL z g.1 (τ.set i 1) en := fun en hv => VL.put i c1 hv (TV.sub c5 (VL.at i hv))
    obtain ⟨x, hx1, hx2⟩ := join_l b3 rfl
    subst hx1
    dsimp only at h
    obtain ⟨c6, h⟩ := j_ifx h
    -- at the head, with the counter named
    have hz : ∀ (en : List Int) (k : Nat), k ≠ i → (fun k => if k = i then en.getD i 0 else z k) k = z k := fun en k hk => if_neg hk
    have hth : ∀ en, VL z g.1 (τ.set i 1) en → VL (fun k => if k = i then en.getD i 0 else z k) g.1 ((τ.set i 1).set i (300 + i)) en := fun en hv => by
      have hin : InI (en.getD i 0) := by
        have := VL.at i hv
        rw [hone] at this
        exact this.1 rfl
      refine VL.put i hlen (VL.zch (hz en) c2 hv) ⟨fun e => absurd e (by omega), fun e => absurd e (by omega), fun e => absurd e (by omega), fun e => absurd e (by omega), fun _ e => absurd e (by omega), fun _ => ⟨?_, hin⟩⟩
      rw [Nat.add_sub_cancel_left]
      exact (if_pos rfl).symm
    have hC : ∀ en h, VL z g.1 (τ.set i 1) en → HT T.1 g.1 h → ∃ v h', C' en (g, h) = some ([v], (g, h')) ∧ HT T.1 g.1 h' ∧ FR ro h h' ∧ (v ≠ 0 → if u = true then en.getD i 0 < 2147483647 else 0 ≤ en.getD i 0) := fun en h hv hH => by
      have hA1 := t_one_some (x := TA ((τ.set i 1).set i (300 + i))) rfl (isI_0 c4)
      obtain ⟨v, h', e1, e2, e3, e4⟩ := te_one (hA _ _ _ hA1) (hth en hv) hH
      have hin : InI (en.getD i 0) := by
        have := VL.at i hv
        rw [hone] at this
        exact this.1 rfl
      exact ⟨v, h', e1, e2, e3, fun hv0 => hN en h v h' e1 hv0 hH hin _ _ _ hA1 (hth en hv)⟩
    have hrun : ∀ (w : Option (List Nat)), (∀ w', w = some w' → w'.getD i 0 = 300 + i ∧ t_subs (w'.set i 1) (τ.set i 1) = true) → e = w → TotS T g ro z rt thr τ (some x, none, none) (s_loop C' B' P' K) := fun w hw he en h hv hH => by
      have hv1 := hto en hv
      have hin0 : InI (en.getD i 0) := by
        have := VL.at i hv1
        rw [hone] at this
        exact this.1 rfl
      refine lp_run hlen hone hx2 hC (fun en hp hv hH => ?_) K _ en h hv1 hH (Nat.le_refl _) (Nat.lt_of_lt_of_le (mea_b hin0) hK)
      have hin : InI (en.getD i 0) := by
        have := VL.at i hv
        rw [hone] at this
        exact this.1 rfl
      -- what stands behind the body
      have hback : ∀ (w' : List Nat) (en1 : List Int), w = some w' → VL (fun k => if k = i then en.getD i 0 else z k) g.1 w' en1 → VL z g.1 (τ.set i 1) (en1.set i (j32 (en1.getD i 0 + dir u))) ∧ (en1.set i (j32 (en1.getD i 0 + dir u))).getD i 0 = j32 (en.getD i 0 + dir u) := fun w' en1 hw1 hv1 => by
        obtain ⟨a1, a2⟩ := hw w' hw1
        have hat := VL.at i hv1
        rw [a1] at hat
        have heq : en1.getD i 0 = en.getD i 0 := by
          have h9 := (hat.2.2.2.2.2 (by omega)).1
          rw [Nat.add_sub_cancel_left] at h9
          exact h9.trans (if_pos rfl)
        have hl1 : i < en1.length := by
          rw [VL.len hv1]
          have hl2 : (w'.set i 1).length = (τ.set i 1).length := sub_len a2
          rw [List.length_set] at hl2
          omega
        refine ⟨VL.zch (fun k hk => (if_neg hk).symm) c2 (VL.sub a2 (VL.set i hv1 (TV.int (in_j32 _)))), ?_⟩
        rw [t_setD hl1, heq]
      cases c3 with
      | true =>
        have hb1 : TB ((τ.set i 1).set i (300 + i)) = some ob := b1
        obtain ⟨c, vals, en', g', h', f1, f2, f3, f4⟩ := hB rfl _ _ _ hb1 en hp (hth en hv) hH
        refine ⟨c, vals, en', g', h', f1, f2, f3, ?_⟩
        rcases f4 with ⟨k1, k2, τ', k3, k4⟩ | ⟨k1, k2, k3⟩ | ⟨k1, k2, τ', k3, k4⟩ | ⟨k1, k2, τ', k3, k4⟩ | k
        · obtain ⟨w', j1, j2⟩ := join_l b2 k3
          obtain ⟨m1, m2⟩ := hback w' en' (he ▸ j1) (VL.sub j2 k4)
          exact Or.inl ⟨Or.inl k1, k2, _, hP rfl _ _, m1, m2⟩
        · exact Or.inr (Or.inr (Or.inl ⟨k1, k2, VL.z0 hrt k3⟩))
        · obtain ⟨x', j1, j2⟩ := join_r b3 k3
          cases j1
          exact Or.inr (Or.inl ⟨k1, k2, VL.zch (fun k hk => (if_neg hk).symm) c6 (VL.sub j2 k4)⟩)
        · obtain ⟨w', j1, j2⟩ := join_r b2 k3
          obtain ⟨m1, m2⟩ := hback w' en' (he ▸ j1) (VL.sub j2 k4)
          exact Or.inl ⟨Or.inr k1, k2, _, hP rfl _ _, m1, m2⟩
        · exact Or.inr (Or.inr (Or.inr k))
      | false =>
        have hb1 : some (some ((τ.set i 1).set i (300 + i)), none, none) = some ob := b1
        cases hb1
        obtain ⟨w', j1, j2⟩ := join_l b2 rfl
        obtain ⟨m1, m2⟩ := hback w' en (he ▸ j1) (VL.sub j2 (hth en hv))
        exact ⟨0, [], _, g, hp, hB2 rfl _ _, hH, FR.rf, Or.inl ⟨Or.inl rfl, rfl, _, hP2 rfl _ _, m1, m2⟩⟩
    cases e with
    | none =>
      cases h
      exact hrun none (fun w' hw => by cases hw) rfl
    | some w =>
      dsimp only at h
      obtain ⟨d1, h⟩ := j_ifx h
      by_cases d2 : t_subs (w.set i 1) (τ.set i 1) = true
      · rw [if_pos d2] at h
        cases h
        exact hrun (some w) (fun w' hw => by cases hw; exact ⟨d1, d2⟩) rfl
      · rw [if_neg d2] at h
        obtain ⟨d3, h⟩ := j_ifx h
        have ih := lp_ok hK hrt hA hN hB hP hB2 hP2 n _ _ h z
        exact fun en hh hv hH => ih en hh (VL.sub (lubs_l d3) (hto en hv)) hH
end TYS
