section JNT
variable {dec : XD} {lk lp : XK} {pk rk : Nat → List Nat} {thr : Nat → Bool} {rt : List Nat} {rz : Bool} {xs : Nat → Int} {L : Nat} {ck : Nat → List Nat} {F : XP} {cW : Nat → Nat → Int} {hnd : Nat → Option (Nat × Nat)} {R : List Int → XT → Prop} {X : XT → Prop} {K : Nat}
  {J : Nat → List Nat → List Int → List (Nat × Int) → XT → Prop} {a b c : SX} {A B C : XG} {EA EB EC : XR}
def PKc (dec : XD) (rt : List Nat) (R : List Int → XT → Prop) (X : XT → Prop) (J : Nat → List Nat → List Int → List (Nat × Int) → XT → Prop) (N : XG) (E : XR) (s : SX) : Prop := ∀ sw w τ τB τC pc τ' pc' al br ct en st c v en' st', N ((500 + sw) :: τ) τB τC pc = some (τ', pc', al, br, ct) → k_ok τ = true → en.length = τ.length → E (w :: en) st = some (c, v, en', st') →
  c_swOk dec sw = true → ((sx_all s).any (fun n => decide (w = sx_z n)) = true ∨ c_swT dec sw w = c_swD dec sw) →
  en'.length = τ.length ∧ (c = 0 → al = true) ∧ c ≤ 4 ∧ (c = 1 → v.length = rt.length) ∧ (c = 2 → br ≠ []) ∧
  ((c = 0 → J (j_ult dec pc') τ en' [] st') → (c = 1 → R v st') → (c = 2 → ∀ t ∈ br, J (j_ult dec t) τB en' [] st') → (c = 3 → ∀ t ∈ ct, J (j_ult dec t) τC en' [] st') → (c = 4 → X st') → J (j_ult dec sw) τ en [(1, w)] st)
theorem t_24 (HC : XClo dec lk lp pk rk thr rt rz xs L ck F cW hnd R X J) : PG dec rt R X J (nodeG dec lk pk rk thr lp rt rz hnd 24 a b c A B C) (nodeS xs L ck F K cW 24 a b c EA EB EC) := by
  have HE := snd_E HC
  have one : (1 : Nat) ≠ 0 := by decide
  obtain ⟨hconst, -, -, -, -, -, -, -, -, -, -, -, -, -, -, -, -, hun, -, -, -, -, -, -, -, -, -, -, -, -, hast, hret, -, -, -, -, -, hlen, hx, -⟩ := HC
  intro τ τB τC pc τ' pc' al br ct en st c' v en' st' h hk hl he
  obtain ⟨⟨ka, p1, t1⟩, h1, h⟩ := j_bd h
  obtain ⟨⟨e1, e2⟩, h⟩ := j_ifx h
  obtain ⟨⟨kb, p2, t2⟩, h2, h⟩ := j_bd h
  obtain ⟨⟨f, p3⟩, h3, h⟩ := j_bd h
  obtain ⟨⟨q, k0⟩, h4, h⟩ := j_bd h
  obtain ⟨⟨g1, g2, g3, g4, g5, g6, gz, g7, g8, g9, g10, g11, g12, g13⟩, h⟩ := j_if h
  obtain ⟨⟨x, s0⟩, hx0, he⟩ := j_bd he
  obtain ⟨⟨y, s1⟩, hy, he⟩ := j_bd he
  obtain ⟨⟨cc, r, s2⟩, hr, he⟩ := j_bd he
  cases h
  dsimp only at *
  subst e1; subst g1; subst g2; subst g3
  obtain ⟨-, k1⟩ := (HE a).1.one (S := []) h1 hx0 hl (Nat.le_refl _)
  obtain ⟨a2, k2⟩ := (HE b).1 _ _ _ _ _ _ _ [(1, 0), (7, j_hd x)] _ _ _ h2 hy hl (Nat.le_refl _)
  have call := hx _ _ _ _ τ en [(1, 0), (7, j_hd x)] _ _ _ _ _ h3 g5 h4 g7 g8 hr a2 (Nat.le_of_ble_eq_true rfl)
  split at he
  · rename_i hc
    obtain ⟨i1, he⟩ := j_if he
    cases he
    subst hc
    have er : r = [j_hd r] := j_z1 (k := 1) (by rw [hlen _ _ _ _ _ hr, g4])
    refine pq0 hk hl rfl (fun k => k1 (hconst _ _ (1, 0) _ _ _ _ (c_one_spec e2) one (k2 (call ?_ ?_ (Or.inl rfl)))))
    · intro _
      rw [g4, er]
      refine hun _ _ _ _ _ _ _ _ _ g9 (hast _ 7 7 _ _ _ _ _ _ _ g10 (by decide) (by decide) rfl (Int.le_refl _) i1 ?_)
      rw [g11]
      exact k
    · intro n
      cases n
  · rename_i hc
    obtain ⟨hc4, he⟩ := j_if he
    cases he
    refine ⟨hl, fun h => (by cases h), by decide, fun _ => (by rw [g6]; rfl), fun h => (by cases h), fun _ kr _ _ _ => k1 (hconst _ _ (1, 0) _ _ _ _ (c_one_spec e2) one (k2 (call ?_ ?_ (Or.inr hc4))))⟩
    · intro n
      exact absurd n hc
    · intro _
      exact hconst _ _ (1, 1) _ _ _ _ (c_one_spec g12) one (hret _ 1 1 _ _ _ g6 gz one g13 (kr rfl))
theorem t_23 (HC : XClo dec lk lp pk rk thr rt rz xs L ck F cW hnd R X J) : PG dec rt R X J (nodeG dec lk pk rk thr lp rt rz hnd 23 a b c A B C) (nodeS xs L ck F K cW 23 a b c EA EB EC) := by
  have HE := snd_E HC
  obtain ⟨-, -, -, -, -, -, -, -, -, -, -, -, -, -, -, -, -, -, -, -, -, -, -, -, -, -, -, -, -, -, -, -, -, -, -, -, -, -, -, hp, -⟩ := HC
  intro τ τB τC pc τ' pc' al br ct en st c' v en' st' h hk hl he
  obtain ⟨⟨ka, p1, t1⟩, h1, h⟩ := j_bd h
  obtain ⟨⟨kb, p2, t2⟩, h2, h⟩ := j_bd h
  obtain ⟨⟨⟨r1, r2, r3, r4⟩, p3⟩, h3, h⟩ := j_bd h
  obtain ⟨⟨e1, e2, e3, e4, e5, e6⟩, h⟩ := j_if h
  obtain ⟨⟨y, s1⟩, hy, he⟩ := j_bd he
  obtain ⟨⟨z, s2⟩, hz, he⟩ := j_bd he
  obtain ⟨e7, he⟩ := j_if he
  cases h; cases he
  dsimp only at *
  subst e1; subst e2; subst e3; subst e4; subst e5; subst e6
  obtain ⟨-, k1⟩ := (HE a).1.one (S := []) h1 hy hl (Nat.le_refl _)
  obtain ⟨-, k2⟩ := (HE b).1.one (S := [(10 + r2, j_hd y)]) h2 hz hl (kc1 _ (by omega))
  exact pq0 hk hl rfl (fun k => k1 (k2 (hp _ _ _ _ _ _ _ _ _ h3 e7 k)))
theorem t_27 (HC : XClo dec lk lp pk rk thr rt rz xs L ck F cW hnd R X J) : PG dec rt R X J (nodeG dec lk pk rk thr lp rt rz hnd 27 a b c A B C) (nodeS xs L ck F K cW 27 a b c EA EB EC) := by
  have HE := snd_E HC
  obtain ⟨-, -, -, -, -, -, -, -, -, -, -, -, -, -, -, -, -, -, -, -, -, -, -, -, -, -, -, -, -, -, -, -, -, -, -, -, -, -, -, -, hret⟩ := HC
  intro τ τB τC pc τ' pc' al br ct en st c' v en' st' h hk hl he
  obtain ⟨⟨ka, p1, t1⟩, h1, h⟩ := j_bd h
  obtain ⟨⟨e0, e1, e2, e3⟩, h⟩ := j_if h
  obtain ⟨⟨x, s0⟩, hx, he⟩ := j_bd he
  obtain ⟨e4, he⟩ := j_if he
  cases h; cases he
  dsimp only at *
  subst e0
  obtain ⟨ex, k1⟩ := (HE a).1.one (S := []) h1 hx hl (Nat.le_refl _)
  refine ⟨hl, fun h => (by cases h), by decide, fun _ => (by rw [ex, e1]; rfl), fun h => (by cases h), fun _ k _ _ _ => k1 (hret _ _ _ _ _ e1 e2 e3 e4 ?_)⟩
  have := k rfl
  rw [ex] at this
  exact this
theorem t_28 (HC : XClo dec lk lp pk rk thr rt rz xs L ck F cW hnd R X J) (hB : PG dec rt R X J B EB) : PG dec rt R X J (nodeG dec lk pk rk thr lp rt rz hnd 28 a b c A B C) (nodeS xs L ck F K cW 28 a b c EA EB EC) := by
  have HE := snd_E HC
  obtain ⟨-, -, -, -, -, -, -, -, -, -, -, -, -, -, -, -, -, -, -, -, -, -, -, -, -, -, -, -, -, -, -, -, -, -, -, -, hmono, -⟩ := HC
  intro τ τB τC pc τ' pc' al br ct en st c' v en' st' h hk hl he
  obtain ⟨⟨ka, p1, t1⟩, h1, h⟩ := j_bd h
  obtain ⟨⟨τ1, p2, al1, br1, ct1⟩, h2, h⟩ := j_bd h
  obtain ⟨⟨e1, e2, e3⟩, h⟩ := j_if h
  obtain ⟨⟨x, s0⟩, hx, he⟩ := j_bd he
  cases h
  dsimp only at *
  have key := (HE a).2 τ 0 1 pc _ _ _ en [] st x s0 (Or.inl rfl) h1 hx hl (Nat.le_refl _)
  split at he
  · rename_i hz
    cases he
    exact ⟨hl, fun h => (by cases h), by decide, fun h => (by cases h), fun _ => (by simp [e2]), fun k0 k1 k2 k3 k4 => key (fun _ t ht => hmono _ _ _ _ _ _ e3 (k2 rfl t (List.mem_append_left _ ht))) (fun n => absurd hz n)⟩
  · rename_i hz
    obtain ⟨r1, r2, r5, r6, r7, r8⟩ := hB _ _ _ _ _ _ _ _ _ _ _ _ _ _ _ h2 hk hl he
    have hal : c' ≠ 0 := fun h => by
      have := (r2 h).1
      rw [e1] at this
      cases this
    exact ⟨r1, fun h => absurd h hal, r5, r6, fun h => (by simp [r7 h]), fun k0 k1 k2 k3 k4 => key (fun n => absurd n hz) (fun _ => r8 (fun h => absurd h hal) k1 (fun h t ht => k2 h t (List.mem_append_right _ ht)) k3 k4)⟩
theorem t_25 (HC : XClo dec lk lp pk rk thr rt rz xs L ck F cW hnd R X J) (hB : PG dec rt R X J B EB) (hC : PKc dec rt R X J C EC c) : PKc dec rt R X J (nodeG dec lk pk rk thr lp rt rz hnd 25 a b c A B C) (nodeS xs L ck F K cW 25 a b c EA EB EC) (.op (.var 25) (.op a (.op b c))) := by
  obtain ⟨-, -, -, -, -, -, -, -, -, -, -, -, -, -, -, -, -, -, -, -, -, -, -, -, -, -, -, -, -, -, -, -, -, -, -, hsw, -⟩ := HC
  intro sw w τ τB τC pc τ' pc' al br ct en st c' v en' st' h hk hl he hok hlab
  obtain ⟨⟨e0, e1⟩, h⟩ := j_ifx h
  obtain ⟨⟨τ1, p1, al1, br1, ct1⟩, h1, h⟩ := j_bd h
  obtain ⟨e2, h⟩ := j_ifx h
  obtain ⟨⟨τ2, p2, al2, br2, ct2⟩, h2, h⟩ := j_bd h
  cases h
  dsimp only at *
  rw [Nat.add_sub_cancel_left] at e1
  have he : (if (sx_l a).any (fun n => decide (w = sx_z n)) then (EB en st).bind fun r => if r.1 = 0 then none else some r else EC (w :: en) st) = some (c', v, en', st') := he
  split at he
  · rename_i hin
    obtain ⟨⟨c1, v1, en1, s1⟩, hb, he⟩ := j_bd he
    dsimp only at he
    split at he
    · cases he
    · rename_i hc0
      cases he
      obtain ⟨n, hn, hw⟩ := List.any_eq_true.mp hin
      have ht := List.all_eq_true.mp e1 n hn
      rw [← of_decide_eq_true hw, beq_iff_eq] at ht
      obtain ⟨r1, r2, r5, r6, r7, r8⟩ := hB _ _ _ _ _ _ _ _ _ _ _ _ _ _ _ h1 hk hl hb
      exact ⟨r1, fun h => absurd h hc0, r5, r6, fun h => (by simp [r7 h]), fun k0 k1 k2 k3 k4 => hsw _ _ _ _ _ _ _ hok ht (r8 (fun h => absurd h hc0) k1 (fun h t ht => k2 h t (List.mem_append_left _ ht)) (fun h t ht => k3 h t (List.mem_append_left _ ht)) k4)⟩
  · rename_i hin
    have hlab2 : (sx_all c).any (fun n => decide (w = sx_z n)) = true ∨ c_swT dec sw w = c_swD dec sw := by
      rcases hlab with q | q
      · have q : (sx_l a ++ sx_all c).any (fun n => decide (w = sx_z n)) = true := q
        rw [List.any_append, Bool.or_eq_true] at q
        rcases q with q | q
        · exact absurd q hin
        · exact Or.inl q
      · exact Or.inr q
    obtain ⟨r1, r2, r5, r6, r7, r8⟩ := hC _ _ _ _ _ _ _ _ _ _ _ _ _ _ _ _ _ h2 hk hl he hok hlab2
    exact ⟨r1, r2, r5, r6, fun h => (by simp [r7 h]), fun k0 k1 k2 k3 k4 => r8 k0 k1 (fun h t ht => k2 h t (List.mem_append_right _ ht)) (fun h t ht => k3 h t (List.mem_append_right _ ht)) k4⟩
theorem t_26 (HC : XClo dec lk lp pk rk thr rt rz xs L ck F cW hnd R X J) (hA : PG dec rt R X J A EA) : PKc dec rt R X J (nodeG dec lk pk rk thr lp rt rz hnd 26 a b c A B C) (nodeS xs L ck F K cW 26 a b c EA EB EC) (.op (.var 26) (.op a (.op b c))) := by
  obtain ⟨-, -, -, -, -, -, -, -, -, -, -, -, -, -, -, -, -, -, -, -, -, -, -, -, -, -, -, -, -, -, -, -, -, -, -, hsw, hmono, -⟩ := HC
  intro sw w τ τB τC pc τ' pc' al br ct en st c' v en' st' h hk hl he hok hlab
  obtain ⟨⟨e0, e1⟩, h⟩ := j_ifx h
  obtain ⟨⟨τ1, p1, al1, br1, ct1⟩, h1, h⟩ := j_bd h
  obtain ⟨e2, h⟩ := j_if h
  cases h
  dsimp only at *
  rw [Nat.add_sub_cancel_left] at e1
  have he : EA en st = some (c', v, en', st') := he
  obtain ⟨r1, r2, r5, r6, r7, r8⟩ := hA _ _ _ _ _ _ _ _ _ _ _ _ _ _ _ h1 hk hl he
  have ht : c_swT dec sw w = some pc := by
    rcases hlab with q | q
    · cases q
    · rw [q, e1]
  exact ⟨r1, fun h => (r2 h).1, r5, r6, r7, fun k0 k1 k2 k3 k4 => hsw _ _ _ _ _ _ _ hok ht (r8 (fun h => hmono _ _ _ _ _ _ e2 (k0 h)) k1 k2 k3 k4)⟩
theorem sw_off (df w : Int) : ∀ ps : List (Int × Int), w ∉ ps.map (·.1) → Op.lookupswitch.offset ps df w = df := by
  intro ps
  induction ps with
  | nil => intro _; rfl
  | cons q ps ih =>
    intro h
    obtain ⟨m, o⟩ := q
    simp only [List.map_cons, List.mem_cons, not_or] at h
    unfold Op.lookupswitch.offset
    rw [if_neg (fun e => h.1 (by simp_all))]
    exact ih h.2
theorem sw_out {pc : Nat} {w : Int} (hok : c_swOk dec pc = true) (h : w ∉ c_swL dec pc) : c_swT dec pc w = c_swD dec pc := by
  unfold c_swOk at hok
  unfold c_swL at h
  unfold c_swT c_swD
  split at hok
  · rename_i df lo hi offs n hd
    rw [hd] at h ⊢
    simp only [Option.bind_some]
    rw [if_pos]
    apply Classical.byContradiction
    intro hn
    refine h (List.mem_map.mpr ⟨(w - lo).toNat, List.mem_range.mpr ?_, ?_⟩) <;> omega
  · rename_i df ps n hd
    rw [hd] at h ⊢
    simp only [Option.bind_some]
    rw [sw_off _ _ _ h]
  · cases hok
theorem t_19 (HC : XClo dec lk lp pk rk thr rt rz xs L ck F cW hnd R X J) (hB : sx_cases b = true → PKc dec rt R X J B EB b) : PG dec rt R X J (nodeG dec lk pk rk thr lp rt rz hnd 19 a b c A B C) (nodeS xs L ck F K cW 19 a b c EA EB EC) := by
  have HE := snd_E HC
  obtain ⟨-, -, -, -, -, -, -, -, -, -, -, -, -, -, -, -, -, -, -, -, -, -, -, -, -, -, -, -, -, -, -, -, -, -, -, hsw, -⟩ := HC
  intro τ τB τC pc τ' pc' al br ct en st c' v en' st' h hk hl he
  obtain ⟨⟨ka, p1, t1⟩, h1, h⟩ := j_bd h
  obtain ⟨⟨wi, wl⟩, h2, h⟩ := j_bd h
  obtain ⟨df, h3, h⟩ := j_bd h
  obtain ⟨⟨τ1, p2, al1, br1, ct1⟩, h4, h⟩ := j_bd h
  obtain ⟨⟨e1, e2, e3, e4, e5⟩, h⟩ := j_if h
  obtain ⟨⟨x, s0⟩, hx, he⟩ := j_bd he
  obtain ⟨⟨c1, v1, en1, s1⟩, hb, he⟩ := j_bd he
  cases h
  dsimp only at *
  subst e1
  obtain ⟨-, k1⟩ := (HE a).1.one (S := []) h1 hx hl (Nat.le_refl _)
  have hlab : (sx_all b).any (fun n => decide (j_hd x = sx_z n)) = true ∨ c_swT dec p1 (j_hd x) = c_swD dec p1 := by
    by_cases hm : j_hd x ∈ c_swL dec p1
    · have := List.all_eq_true.mp e5 _ hm
      rw [Bool.or_eq_true, beq_iff_eq] at this
      rcases this with q | q
      · exact Or.inl q
      · exact Or.inr (q.trans h3.symm)
    · exact Or.inr (sw_out e2 hm)
  obtain ⟨r1, r2, r5, r6, r7, r8⟩ := hB e3 _ _ _ _ _ _ _ _ _ _ _ _ _ _ _ _ _ h4 hk hl hb e2 hlab
  split at he
  · rename_i hc
    cases he
    subst hc
    refine ⟨r1, fun _ => ⟨?_, rfl, hk⟩, by decide, fun h => (by cases h), fun h => (by cases h), fun k0 _ _ _ _ => k1 (r8 (fun h => (by cases h)) (fun h => (by cases h)) (fun _ t ht => ?_) (fun h => (by cases h)) (fun h => (by cases h)))⟩
    · have := r7 rfl
      cases br1 with
      | nil => exact absurd rfl this
      | cons t0 br1 => simp
    · rw [c_all_spec e4 ht]
      exact k0 rfl
  · rename_i hc
    cases he
    exact ⟨r1, fun h => ⟨by simp [r2 h], rfl, hk⟩, r5, r6, fun h => absurd h hc, fun k0 k1' _ k3 k4 => k1 (r8 k0 k1' (fun h => absurd h hc) k3 k4)⟩
theorem pg_none {t : Nat} (h : ∀ τ τB τC pc, nodeG dec lk pk rk thr lp rt rz hnd t a b c A B C τ τB τC pc = none) {E : XR} : PG dec rt R X J (nodeG dec lk pk rk thr lp rt rz hnd t a b c A B C) E := fun τ τB τC pc _ _ _ _ _ _ _ _ _ _ _ h1 => by rw [h τ τB τC pc] at h1; cases h1
theorem pg_25 : PG dec rt R X J (nodeG dec lk pk rk thr lp rt rz hnd 25 a b c A B C) (nodeS xs L ck F K cW 25 a b c EA EB EC) := by
  intro τ τB τC pc τ' pc' al br ct en st c' v en' st' h hk hl he
  cases τ with
  | nil => cases h
  | cons t0 τ =>
    obtain ⟨⟨e0, e1⟩, h⟩ := j_ifx h
    have : t0 < 500 := of_decide_eq_true hk
    omega
theorem pg_26 : PG dec rt R X J (nodeG dec lk pk rk thr lp rt rz hnd 26 a b c A B C) (nodeS xs L ck F K cW 26 a b c EA EB EC) := by
  intro τ τB τC pc τ' pc' al br ct en st c' v en' st' h hk hl he
  cases τ with
  | nil => cases h
  | cons t0 τ =>
    obtain ⟨⟨e0, e1⟩, h⟩ := j_ifx h
    have : t0 < 500 := of_decide_eq_true hk
    omega
theorem snd_nodeS (HC : XClo dec lk lp pk rk thr rt rz xs L ck F cW hnd R X J) {t : Nat} (hA : PG dec rt R X J A EA) (hB : PG dec rt R X J B EB) (hB2 : sx_cases b = true → PKc dec rt R X J B EB b) (hC : PG dec rt R X J C EC) :
    PG dec rt R X J (nodeG dec lk pk rk thr lp rt rz hnd t a b c A B C) (nodeS xs L ck F K cW t a b c EA EB EC) := by
  by_cases e : t = 1
  · subst e; exact t_1
  by_cases e : t = 2
  · subst e; exact t_2 hA hB
  by_cases e : t = 3
  · subst e; exact t_3 HC
  by_cases e : t = 4
  · subst e; exact t_4 HC
  by_cases e : t = 5
  · subst e; exact t_5 HC
  by_cases e : t = 6
  · subst e; exact t_6 HC
  by_cases e : t = 7
  · subst e; exact t_7 HC
  by_cases e : t = 8
  · subst e; exact t_8 HC
  by_cases e : t = 9
  · subst e; exact t_9 HC
  by_cases e : t = 10
  · subst e; exact t_10 HC hB
  by_cases e : t = 11
  · subst e; exact t_11 HC hB hC
  by_cases e : t = 12
  · subst e; exact t_12 HC hB hC
  by_cases e : t = 13
  · subst e; exact t_13 HC hB
  by_cases e : t = 14
  · subst e; exact t_14 HC
  by_cases e : t = 15
  · subst e; exact t_15 HC
  by_cases e : t = 16
  · subst e; exact t_16 HC
  by_cases e : t = 17
  · subst e; exact t_17 HC
  by_cases e : t = 18
  · subst e; exact t_18 HC
  by_cases e : t = 19
  · subst e; exact t_19 HC hB2
  by_cases e : t = 20
  · subst e; exact t_20 HC hA
  by_cases e : t = 21
  · subst e; exact t_21 HC
  by_cases e : t = 22
  · subst e; exact t_22 HC
  by_cases e : t = 27
  · subst e; exact t_27 HC
  by_cases e : t = 23
  · subst e; exact t_23 HC
  by_cases e : t = 24
  · subst e; exact t_24 HC
  by_cases e : t = 28
  · subst e; exact t_28 HC hB
  by_cases e : t = 25
  · subst e; exact pg_25
  by_cases e : t = 26
  · subst e; exact pg_26
  refine pg_none (fun τ τB τC pc => ?_)
  unfold nodeG
  split <;> first | contradiction | rfl
theorem snd_S (HC : XClo dec lk lp pk rk thr rt rz xs L ck F cW hnd R X J) : (s : SX) → PG dec rt R X J (chS dec lk pk rk thr lp rt rz hnd s) (evS xs L ck F K cW s) ∧ (sx_cases s = true → PKc dec rt R X J (chS dec lk pk rk thr lp rt rz hnd s) (evS xs L ck F K cW s) s)
  | .op (.var t) (.op a (.op b c)) => by
    have ha := snd_S HC a
    have hb := snd_S HC b
    have hc := snd_S HC c
    refine ⟨snd_nodeS HC ha.1 hb.1 hb.2 hc.1, fun hs => ?_⟩
    by_cases e : t = 25
    · subst e
      exact t_25 HC hb.1 (hc.2 hs)
    by_cases e : t = 26
    · subst e
      exact t_26 HC ha.1
    · exfalso
      unfold sx_cases at hs
      split at hs
      · rename_i h
        cases h
        contradiction
      · rename_i h
        cases h
        contradiction
      · cases hs
  | .var _ => ⟨fun _ _ _ _ _ _ _ _ _ _ _ _ _ _ _ h => (by cases h), fun h => (by cases h)⟩
  | .op (.op _ _) _ => ⟨fun _ _ _ _ _ _ _ _ _ _ _ _ _ _ _ h => (by cases h), fun h => (by cases h)⟩
  | .op (.var _) (.var _) => ⟨fun _ _ _ _ _ _ _ _ _ _ _ _ _ _ _ h => (by cases h), fun h => (by unfold sx_cases at h; split at h <;> simp_all [chS, PKc])⟩
  | .op (.var _) (.op _ (.var _)) => ⟨fun _ _ _ _ _ _ _ _ _ _ _ _ _ _ _ h => (by cases h), fun h => (by unfold sx_cases at h; split at h <;> simp_all [chS, PKc])⟩
end JNT
