section JNS
variable {dec : XD} {lk lp : XK} {pk rk : Nat → List Nat} {thr : Nat → Bool} {rt : List Nat} {rz : Bool} {xs : Nat → Int} {L : Nat} {ck : Nat → List Nat} {F : XP} {cW : Nat → Nat → Int} {hnd : Nat → Option (Nat × Nat)} {R : List Int → XT → Prop} {X : XT → Prop} {K : Nat}
  {J : Nat → List Nat → List Int → List (Nat × Int) → XT → Prop} {a b c : SX} {A B C : XG} {EA EB EC : XR}
def PQ (dec : XD) (rt : List Nat) (R : List Int → XT → Prop) (X : XT → Prop) (J : Nat → List Nat → List Int → List (Nat × Int) → XT → Prop) (τ τB τC τ' : List Nat) (pc' : Nat) (al : Bool) (br ct : List Nat) (c : Nat) (v en' : List Int) (st' : XT) (G : Prop) : Prop :=
  en'.length = τ.length ∧ (c = 0 → al = true ∧ τ'.length = τ.length ∧ k_ok τ' = true) ∧ c ≤ 4 ∧ (c = 1 → v.length = rt.length) ∧ (c = 2 → br ≠ []) ∧
  ((c = 0 → J (j_ult dec pc') τ' en' [] st') → (c = 1 → R v st') → (c = 2 → ∀ t ∈ br, J (j_ult dec t) τB en' [] st') → (c = 3 → ∀ t ∈ ct, J (j_ult dec t) τC en' [] st') → (c = 4 → X st') → G)
def PG (dec : XD) (rt : List Nat) (R : List Int → XT → Prop) (X : XT → Prop) (J : Nat → List Nat → List Int → List (Nat × Int) → XT → Prop) (N : XG) (E : XR) : Prop := ∀ τ τB τC pc τ' pc' al br ct en st c v en' st', N τ τB τC pc = some (τ', pc', al, br, ct) → k_ok τ = true → en.length = τ.length → E en st = some (c, v, en', st') →
  PQ dec rt R X J τ τB τC τ' pc' al br ct c v en' st' (J (j_ult dec pc) τ en [] st)
theorem k_sub_len {τ τ' : List Nat} (h : k_sub τ τ' = true) : τ'.length = τ.length := by
  unfold k_sub at h
  rw [Bool.and_eq_true, beq_iff_eq] at h
  exact h.1.symm
/-- a statement that ends normally -/
theorem pq0 {τ τB τC : List Nat} {pc' : Nat} {en' : List Int} {st' : XT} {G : Prop} {τ' : List Nat} {br ct : List Nat} {v : List Int} (hk : k_ok τ' = true) (h1 : en'.length = τ.length) (h2 : τ'.length = τ.length) (g : J (j_ult dec pc') τ' en' [] st' → G) : PQ dec rt R X J τ τB τC τ' pc' true br ct 0 v en' st' G :=
  ⟨h1, fun _ => ⟨rfl, h2, hk⟩, by decide, fun h => (by cases h), fun h => (by cases h), fun k _ _ _ _ => g (k rfl)⟩
theorem t_1 : PG dec rt R X J (nodeG dec lk pk rk thr lp rt rz hnd 1 a b c A B C) (nodeS xs L ck F K cW 1 a b c EA EB EC) := by
  intro τ τB τC pc τ' pc' al br ct en st c v en' st' h hk hl he
  cases h; cases he
  exact pq0 hk hl rfl (fun k => k)
theorem t_2 (hA : PG dec rt R X J A EA) (hB : PG dec rt R X J B EB) : PG dec rt R X J (nodeG dec lk pk rk thr lp rt rz hnd 2 a b c A B C) (nodeS xs L ck F K cW 2 a b c EA EB EC) := by
  intro τ τB τC pc τ' pc' al br ct en st c v en' st' h hk hl he
  obtain ⟨⟨τ1, p1, al1, br1, ct1⟩, h1, h⟩ := j_bd h
  obtain ⟨h0, h⟩ := j_ifx h
  obtain ⟨⟨τ2, p2, al2, br2, ct2⟩, h2, h⟩ := j_bd h
  obtain ⟨⟨c1, v1, en1, s1⟩, he1, he⟩ := j_bd he
  cases h
  dsimp only at *
  obtain ⟨q1, q2, q5, q6, q7, q8⟩ := hA _ _ _ _ _ _ _ _ _ _ _ _ _ _ _ h1 hk hl he1
  split at he
  · rename_i hc
    subst hc
    obtain ⟨-, q3, q4⟩ := q2 rfl
    obtain ⟨r1, r2, r5, r6, r7, r8⟩ := hB _ _ _ _ _ _ _ _ _ _ _ _ _ _ _ h2 q4 (q1.trans q3.symm) he
    exact ⟨r1.trans q3, fun h => ⟨(r2 h).1, (r2 h).2.1.trans q3, (r2 h).2.2⟩, r5, r6, fun h => (by simp [r7 h]), fun k0 k1 k2 k3 k4 => q8 (fun _ => r8 k0 k1 (fun h t ht => k2 h t (List.mem_append_right _ ht)) (fun h t ht => k3 h t (List.mem_append_right _ ht)) k4) (fun h => (by cases h)) (fun h => (by cases h)) (fun h => (by cases h)) (fun h => (by cases h))⟩
  · rename_i hc
    cases he
    exact ⟨q1, fun h => absurd h hc, q5, q6, fun h => (by simp [q7 h]), fun k0 k1 k2 k3 k4 => q8 (fun h => absurd h hc) k1 (fun h t ht => k2 h t (List.mem_append_left _ ht)) (fun h t ht => k3 h t (List.mem_append_left _ ht)) k4⟩
theorem t_3 (HC : XClo dec lk lp pk rk thr rt rz xs L ck F cW hnd R X J) : PG dec rt R X J (nodeG dec lk pk rk thr lp rt rz hnd 3 a b c A B C) (nodeS xs L ck F K cW 3 a b c EA EB EC) := by
  have HE := snd_E HC
  obtain ⟨-, -, hst, -⟩ := HC
  intro τ τB τC pc τ' pc' al br ct en st c v en' st' h hk hl he
  obtain ⟨⟨kk, p1, t1⟩, h1, h⟩ := j_bd h
  dsimp only at h
  split at h
  · rename_i kd
    obtain ⟨⟨⟨g1, g2⟩, p2⟩, h2, h⟩ := j_bd h
    obtain ⟨⟨e1, e2, e3⟩, h⟩ := j_if h
    obtain ⟨⟨y, s1⟩, hy, he⟩ := j_bd he
    cases h; cases he
    cases e1
    obtain ⟨-, kk⟩ := (HE b).1.one (S := []) h1 hy hl (Nat.le_refl _)
    refine pq0 ?_ (by simp [hl]) (by simp) (fun k => kk (hst _ _ _ _ _ _ _ _ _ h2 e2 hl k))
    unfold k_ok at hk ⊢
    cases τ with
    | nil => simp
    | cons t0 τ =>
      cases hs : sx_n a with
      | zero => simpa [hs] using e3
      | succ i => simpa [hs] using hk
  · cases h
theorem t_4 (HC : XClo dec lk lp pk rk thr rt rz xs L ck F cW hnd R X J) : PG dec rt R X J (nodeG dec lk pk rk thr lp rt rz hnd 4 a b c A B C) (nodeS xs L ck F K cW 4 a b c EA EB EC) := by
  obtain ⟨-, -, -, hi, -⟩ := HC
  intro τ τB τC pc τ' pc' al br ct en st c v en' st' h hk hl he
  obtain ⟨⟨g, p1⟩, h1, h⟩ := j_bd h
  obtain ⟨⟨e1, e2, e3⟩, h⟩ := j_if h
  cases h; cases he
  dsimp only at *
  subst e1
  exact pq0 hk (by simp [hl]) rfl (fun k => hi _ _ _ _ _ _ _ _ h1 e2 e3 hl k)
theorem kc1 {k : Nat} (v : Int) (h : k ≠ 2) : k_cats (([(k, v)] : List (Nat × Int)).map (·.1)) ≤ 1 := by simp [k_cats, k_cat, h]
theorem kc2 {k k2 : Nat} (v w : Int) (h : k ≠ 2) (h2 : k2 ≠ 2) : k_cats (([(k, v), (k2, w)] : List (Nat × Int)).map (·.1)) ≤ 2 := by simp [k_cats, k_cat, h, h2]
theorem t_5 (HC : XClo dec lk lp pk rk thr rt rz xs L ck F cW hnd R X J) : PG dec rt R X J (nodeG dec lk pk rk thr lp rt rz hnd 5 a b c A B C) (nodeS xs L ck F K cW 5 a b c EA EB EC) := by
  have HE := snd_E HC
  obtain ⟨-, -, -, -, -, -, -, -, -, -, -, -, -, -, -, -, -, -, -, -, -, -, -, -, -, -, -, -, hp, -⟩ := HC
  intro τ τB τC pc τ' pc' al br ct en st c v en' st' h hk hl he
  obtain ⟨⟨ka, p1, t1⟩, h1, h⟩ := j_bd h
  obtain ⟨⟨kb, p2, t2⟩, h2, h⟩ := j_bd h
  obtain ⟨⟨⟨r1, r2, r3, r4⟩, p3⟩, h3, h⟩ := j_bd h
  obtain ⟨⟨e1, e2, e3, e4, e5, e6⟩, h⟩ := j_if h
  obtain ⟨⟨y, s1⟩, hy, he⟩ := j_bd he
  obtain ⟨⟨z, s2⟩, hz, he⟩ := j_bd he
  cases h; cases he
  dsimp only at *
  subst e1; subst e2; subst e3; subst e4; subst e6
  obtain ⟨-, k1⟩ := (HE a).1.one (S := []) h1 hy hl (Nat.le_refl _)
  obtain ⟨-, k2⟩ := (HE b).1.one (S := [(10 + r2, j_hd y)]) h2 hz hl (kc1 _ (by omega))
  exact pq0 hk hl rfl (fun k => k1 (k2 (hp _ _ _ _ _ _ _ _ _ _ h3 e5 k)))
theorem t_6 (HC : XClo dec lk lp pk rk thr rt rz xs L ck F cW hnd R X J) : PG dec rt R X J (nodeG dec lk pk rk thr lp rt rz hnd 6 a b c A B C) (nodeS xs L ck F K cW 6 a b c EA EB EC) := by
  have HE := snd_E HC
  obtain ⟨-, -, -, -, hg, -, -, -, -, -, -, -, -, ho, -, -, -, -, -, -, -, -, -, -, -, hdup, -, -, hp, -⟩ := HC
  intro τ τB τC pc τ' pc' al br ct en st c v en' st' h hk hl he
  obtain ⟨⟨ka, p1, t1⟩, h1, h⟩ := j_bd h
  obtain ⟨d1, h⟩ := j_ifx h
  obtain ⟨⟨⟨r1, r2, r3, r4⟩, p2⟩, h2, h⟩ := j_bd h
  obtain ⟨⟨e1, e2, e3, e4, e5⟩, h⟩ := j_ifx h
  obtain ⟨⟨kb, p3, t3⟩, h3, h⟩ := j_bd h
  obtain ⟨⟨o, p4⟩, h4, h⟩ := j_bd h
  obtain ⟨⟨u, p5⟩, h5, h⟩ := j_bd h
  obtain ⟨⟨f1, f2, f3, f4, f5⟩, h⟩ := j_if h
  obtain ⟨⟨y, s1⟩, hy, he⟩ := j_bd he
  obtain ⟨⟨z, s2⟩, hz, he⟩ := j_bd he
  cases h; cases he
  dsimp only at *
  subst e1; subst e2; subst e4; subst e5; subst f1; subst f2; subst f3; subst f4; subst f5
  rw [← e3]
  obtain ⟨-, k1⟩ := (HE a).1.one (S := []) h1 hy hl (Nat.le_refl _)
  obtain ⟨-, k2⟩ := (HE b).1.one (S := [(1, s1.2 (j_hd y).toNat r3), (10 + r2, j_hd y)]) h3 hz hl (kc2 _ _ (by omega) (by omega))
  exact pq0 hk hl rfl (fun k => k1 (hdup _ _ _ _ _ _ d1 (by dsimp only; omega) (hg _ _ _ _ _ _ _ _ _ h2 (Or.inl rfl) (k2 (ho _ _ _ _ _ _ _ _ h4 (hp _ _ _ _ _ _ _ _ _ _ h5 (Or.inl rfl) k))))))
theorem t_7 (HC : XClo dec lk lp pk rk thr rt rz xs L ck F cW hnd R X J) : PG dec rt R X J (nodeG dec lk pk rk thr lp rt rz hnd 7 a b c A B C) (nodeS xs L ck F K cW 7 a b c EA EB EC) := by
  have HE := snd_E HC
  obtain ⟨-, -, -, -, -, -, -, -, -, -, -, -, -, -, -, -, -, -, -, -, -, -, -, -, -, -, -, -, -, -, hp, -⟩ := HC
  intro τ τB τC pc τ' pc' al br ct en st c' v en' st' h hk hl he
  rcases c with n | ⟨c1, vv⟩
  · cases h
  rcases c1 with ty | ⟨z1, z2⟩
  · have h := h
    obtain ⟨⟨ka, p1, t1⟩, h1, h⟩ := j_bd h
    obtain ⟨⟨kb, p2, t2⟩, h2, h⟩ := j_bd h
    obtain ⟨⟨kc, p3, t3⟩, h3, h⟩ := j_bd h
    obtain ⟨⟨w, p4⟩, h4, h⟩ := j_bd h
    obtain ⟨⟨e1, e2, e3, e4, e5, e6, e7⟩, h⟩ := j_if h
    obtain ⟨⟨x, s0⟩, hx, he⟩ := j_bd he
    obtain ⟨⟨y, s1⟩, hy, he⟩ := j_bd he
    obtain ⟨⟨z, s2⟩, hz, he⟩ := j_bd he
    obtain ⟨⟨f1, f2⟩, he⟩ := j_if he
    cases h; cases he
    dsimp only at *
    subst e3; subst e4; subst e5; subst e7
    obtain ⟨-, k1⟩ := (HE a).1.one (S := []) h1 hx hl (Nat.le_refl _)
    obtain ⟨-, k2⟩ := (HE b).1.one (S := [(ty, j_hd x)]) h2 hy hl (kc1 _ (by omega))
    obtain ⟨-, k3⟩ := (HE vv).1.one (S := [(1, j_hd y), (ty, j_hd x)]) h3 hz hl (kc2 _ _ (by omega) (by omega))
    exact pq0 hk hl rfl (fun k => k1 (k2 (k3 (hp _ _ _ _ _ _ _ _ _ _ h4 e1 e2 e6 f1 f2 k))))
  · cases h
theorem t_8 (HC : XClo dec lk lp pk rk thr rt rz xs L ck F cW hnd R X J) : PG dec rt R X J (nodeG dec lk pk rk thr lp rt rz hnd 8 a b c A B C) (nodeS xs L ck F K cW 8 a b c EA EB EC) := by
  have HE := snd_E HC
  obtain ⟨-, -, -, -, -, -, hld, -, -, -, -, -, -, ho, -, -, -, -, -, -, -, -, -, -, -, -, hdup2, -, -, -, hp, -⟩ := HC
  intro τ τB τC pc τ' pc' al br ct en st c' v en' st' h hk hl he
  rcases c with n | ⟨c1, vv⟩
  · cases h
  rcases c1 with op | ⟨z1, z2⟩
  · have h := h
    obtain ⟨⟨ka, p1, t1⟩, h1, h⟩ := j_bd h
    obtain ⟨⟨kb, p2, t2⟩, h2, h⟩ := j_bd h
    obtain ⟨d1, h⟩ := j_ifx h
    obtain ⟨⟨g, p3⟩, h3, h⟩ := j_bd h
    obtain ⟨⟨e1, e2, e3, e4⟩, h⟩ := j_ifx h
    obtain ⟨⟨kc, p4, t4⟩, h4, h⟩ := j_bd h
    obtain ⟨⟨o, p5⟩, h5, h⟩ := j_bd h
    obtain ⟨⟨w, p6⟩, h6, h⟩ := j_bd h
    obtain ⟨⟨f1, f2, f3, f4, f5⟩, h⟩ := j_if h
    obtain ⟨⟨x, s0⟩, hx, he⟩ := j_bd he
    obtain ⟨⟨y, s1⟩, hy, he⟩ := j_bd he
    obtain ⟨⟨i1, i2⟩, he⟩ := j_ifx he
    obtain ⟨⟨z, s2⟩, hz, he⟩ := j_bd he
    obtain ⟨i3, he⟩ := j_if he
    have d6 : (6 : Nat) ≠ 2 := by decide
    have d5 : (1 : Nat) ≠ 2 := by decide
    cases h; cases he
    dsimp only at *
    subst e1; subst e2; subst e3; subst e4; subst f1; subst f2; subst f3; subst f4; subst f5
    obtain ⟨-, k1⟩ := (HE a).1.one (S := []) h1 hx hl (Nat.le_refl _)
    obtain ⟨-, k2⟩ := (HE b).1.one (S := [(6, j_hd x)]) h2 hy hl (kc1 _ (by omega))
    obtain ⟨-, k3⟩ := (HE vv).1.one (S := [(1, s1.2 (j_hd x).toNat (j_hd y).toNat), (1, j_hd y), (6, j_hd x)]) h4 hz hl (by simp [k_cats, k_cat])
    exact pq0 hk hl rfl (fun k => k1 (k2 (hdup2 _ _ _ _ _ _ _ d1 d5 d6 (hld _ 6 6 _ _ _ _ _ _ h3 (by decide) (by decide) rfl i1 i2 (k3 (ho _ _ _ _ _ _ _ _ h5 (hp _ 6 6 _ _ _ _ _ _ _ h6 (by decide) (by decide) rfl i1 i3 k)))))))
  · cases h
theorem t_9 (HC : XClo dec lk lp pk rk thr rt rz xs L ck F cW hnd R X J) : PG dec rt R X J (nodeG dec lk pk rk thr lp rt rz hnd 9 a b c A B C) (nodeS xs L ck F K cW 9 a b c EA EB EC) := by
  have HE := snd_E HC
  obtain ⟨-, -, -, -, -, -, -, -, -, -, -, -, -, -, -, -, -, -, -, -, -, -, -, -, -, -, -, hpop, -⟩ := HC
  intro τ τB τC pc τ' pc' al br ct en st c' v en' st' h hk hl he
  obtain ⟨⟨ka, p1, t1⟩, h1, h⟩ := j_bd h
  obtain ⟨⟨x, s0⟩, hx, he⟩ := j_bd he
  cases he
  dsimp only at h
  split at h
  · cases h
    obtain ⟨q1, q2⟩ := (HE a).1 _ _ _ _ _ _ _ [] _ _ _ h1 hx hl (Nat.le_refl _)
    have : x = [] := List.length_eq_zero_iff.mp q1
    subst this
    exact pq0 hk hl rfl (fun k => q2 k)
  · obtain ⟨⟨e1, e2⟩, h⟩ := j_if h
    cases h
    obtain ⟨-, k1⟩ := (HE a).1.one (S := []) h1 hx hl (Nat.le_refl _)
    exact pq0 hk hl rfl (fun k => k1 (hpop _ _ _ _ _ _ e2 e1 k))
  · cases h
theorem t_10 (HC : XClo dec lk lp pk rk thr rt rz xs L ck F cW hnd R X J) (hB : PG dec rt R X J B EB) : PG dec rt R X J (nodeG dec lk pk rk thr lp rt rz hnd 10 a b c A B C) (nodeS xs L ck F K cW 10 a b c EA EB EC) := by
  have HE := snd_E HC
  obtain ⟨-, -, -, -, -, -, -, -, -, -, -, -, -, -, -, -, -, -, -, -, -, -, -, -, -, -, -, -, -, -, -, -, -, -, -, -, hmono, -⟩ := HC
  intro τ τB τC pc τ' pc' al br ct en st c' v en' st' h hk hl he
  obtain ⟨⟨ka, p1, t1⟩, h1, h⟩ := j_bd h
  obtain ⟨⟨τ1, p2, al1, br1, ct1⟩, h2, h⟩ := j_bd h
  obtain ⟨⟨e1, e2⟩, h⟩ := j_if h
  obtain ⟨⟨x, s0⟩, hx, he⟩ := j_bd he
  cases h
  dsimp only at *
  have key := (HE a).2 τ 0 1 pc _ _ _ en [] st x s0 (Or.inl rfl) h1 hx hl (Nat.le_refl _)
  split at he
  · rename_i hz
    cases he
    exact pq0 hk hl rfl (fun k => key (fun _ t ht => by rw [c_all_spec e2 ht]; exact k) (fun n => absurd hz n))
  · rename_i hz
    obtain ⟨r1, r2, r5, r6, r7, r8⟩ := hB _ _ _ _ _ _ _ _ _ _ _ _ _ _ _ h2 hk hl he
    exact ⟨r1, fun h => ⟨rfl, rfl, hk⟩, r5, r6, r7, fun k0 k1 k2 k3 k4 => key (fun n => absurd n hz) (fun _ => r8 (fun h => hmono _ _ _ _ _ _ e1 (k0 h)) k1 k2 k3 k4)⟩
theorem t_11 (HC : XClo dec lk lp pk rk thr rt rz xs L ck F cW hnd R X J) (hB : PG dec rt R X J B EB) (hC : PG dec rt R X J C EC) : PG dec rt R X J (nodeG dec lk pk rk thr lp rt rz hnd 11 a b c A B C) (nodeS xs L ck F K cW 11 a b c EA EB EC) := by
  have HE := snd_E HC
  obtain ⟨-, -, -, -, -, -, -, -, -, -, -, -, -, -, -, -, -, -, -, -, -, -, -, -, -, -, -, -, -, -, -, -, -, -, -, -, hmono, -⟩ := HC
  intro τ τB τC pc τ' pc' al br ct en st c' v en' st' h hk hl he
  obtain ⟨⟨ka, p1, t1⟩, h1, h⟩ := j_bd h
  obtain ⟨⟨τ1, p2, al1, br1, ct1⟩, h2, h⟩ := j_bd h
  obtain ⟨⟨e1, e2, e3⟩, h⟩ := j_ifx h
  obtain ⟨⟨τ2, p3, al2, br2, ct2⟩, h3, h⟩ := j_bd h
  obtain ⟨⟨e4, e5⟩, h⟩ := j_if h
  obtain ⟨⟨x, s0⟩, hx, he⟩ := j_bd he
  cases h
  dsimp only at *
  have key := (HE a).2 τ 0 1 pc _ _ _ en [] st x s0 (Or.inl rfl) h1 hx hl (Nat.le_refl _)
  split at he
  · rename_i hz
    obtain ⟨r1, r2, r5, r6, r7, r8⟩ := hC _ _ _ _ _ _ _ _ _ _ _ _ _ _ _ h3 hk hl he
    exact ⟨r1, fun h => ⟨by simp [(r2 h).1], rfl, hk⟩, r5, r6, fun h => (by simp [r7 h]), fun k0 k1 k2 k3 k4 => key (fun _ t ht => by
      rw [c_all_spec e3 ht]
      exact r8 (fun h => hmono _ _ _ _ _ _ e4 (k0 h)) k1 (fun h t ht => k2 h t (List.mem_append_right _ ht)) (fun h t ht => k3 h t (List.mem_append_right _ ht)) k4) (fun n => absurd hz n)⟩
  · rename_i hz
    obtain ⟨r1, r2, r5, r6, r7, r8⟩ := hB _ _ _ _ _ _ _ _ _ _ _ _ _ _ _ h2 hk hl he
    exact ⟨r1, fun h => ⟨by simp [(r2 h).1], rfl, hk⟩, r5, r6, fun h => (by simp [r7 h]), fun k0 k1 k2 k3 k4 => key (fun n => absurd n hz) (fun _ => r8 (fun h => hmono _ _ _ _ _ _ e1 (by
      rw [e5 (r2 h).1]
      exact k0 h)) k1 (fun h t ht => k2 h t (List.mem_append_left _ ht)) (fun h t ht => k3 h t (List.mem_append_left _ ht)) k4)⟩
theorem n03 {c k : Nat} {P : Prop} (h : c = 0 ∨ c = 3) (e : c = k) (h0 : k ≠ 0) (h3 : k ≠ 3) : P := h.elim (fun q => absurd (e.symm.trans q) h0) (fun q => absurd (e.symm.trans q) h3)
theorem m03 {Q P : Prop} (h : ¬ Q) (q : Q) : P := absurd q h
theorem nn2 {c k j : Nat} {P : Prop} (h : c = j) (e : c = k) (h0 : j ≠ k) : P := absurd (h.symm.trans e) h0
theorem t_12 (HC : XClo dec lk lp pk rk thr rt rz xs L ck F cW hnd R X J) (hB : PG dec rt R X J B EB) (hC : PG dec rt R X J C EC) : PG dec rt R X J (nodeG dec lk pk rk thr lp rt rz hnd 12 a b c A B C) (nodeS xs L ck F K cW 12 a b c EA EB EC) := by
  have HE := snd_E HC
  obtain ⟨-, -, -, -, -, -, -, -, -, -, -, -, -, -, -, -, -, -, -, -, -, -, -, -, -, -, -, -, -, -, -, -, -, -, -, -, hmono, -⟩ := HC
  intro τ τB τC pc τ' pc' al br ct en st c' v en' st' h hk hl he
  obtain ⟨⟨ka, p1, t1⟩, h1, h⟩ := j_bd h
  obtain ⟨⟨τ1, p2, al1, br1, ct1⟩, h2, h⟩ := j_bd h
  obtain ⟨⟨τ2, p3, al2, br2, ct2⟩, h3, h⟩ := j_bd h
  obtain ⟨⟨e1, e2, e3, e4, e5, e6, e7, e8⟩, h⟩ := j_if h
  cases h
  dsimp only at *
  cases e3
  have loop : ∀ (n : Nat) (en : List Int) (st : XT), en.length = τ.length → s_loop (evE xs L ck F cW a) EB EC n en st = some (c', v, en', st') → PQ dec rt R X J τ τB τC τ (p3 + 3) true [] [] c' v en' st' (J (j_ult dec pc) τ en [] st) := by
    intro n
    induction n with
    | zero => intro en st hl he; cases he
    | succ n ih =>
      intro en st hl he
      obtain ⟨⟨x, s0⟩, hx, he⟩ := j_bd he
      have key := (HE a).2 τ 0 1 pc _ _ _ en [] st x s0 (Or.inl rfl) h1 hx hl (Nat.le_refl _)
      dsimp only at he
      split at he
      · rename_i hz
        cases he
        exact pq0 hk hl rfl (fun k => key (fun _ t ht => by rw [c_all_spec e6 ht]; exact k) (fun n => absurd hz n))
      · rename_i hz
        obtain ⟨⟨c1, v1, en1, s1⟩, hb, he⟩ := j_bd he
        dsimp only at he
        obtain ⟨r1, r2, r5, r6, r7, r8⟩ := hB _ _ _ _ _ _ _ _ _ _ _ _ _ _ _ h2 hk hl hb
        split at he
        · rename_i h03
          obtain ⟨⟨c2, v2, en2, s2⟩, hp, he⟩ := j_bd he
          dsimp only at he
          obtain ⟨u1, u2, u5, u6, u7, u8⟩ := hC _ _ _ _ _ _ _ _ _ _ _ _ _ _ _ h3 hk r1 hp
          obtain ⟨hc2, he⟩ := j_ifx he
          subst hc2
          obtain ⟨w1, w2, w5, w6, w7, w8⟩ := ih en2 s2 u1 he
          refine ⟨w1, w2, w5, w6, w7, fun k0 k1 k2 k3 k4 => ?_⟩
          have step : J (j_ult dec p2) τ en1 [] s1 := u8 (fun _ => hmono _ _ _ _ _ _ e2 (by rw [e5]; exact w8 k0 k1 k2 k3 k4)) (fun h => (by cases h)) (fun h => (by cases h)) (fun h => (by cases h)) (fun h => (by cases h))
          refine key (fun n => absurd n hz) (fun _ => r8 (fun _ => hmono _ _ _ _ _ _ e1 step) (fun h => n03 h03 h (by decide) (by decide)) (fun h => n03 h03 h (by decide) (by decide)) (fun _ t ht => ?_) (fun h => n03 h03 h (by decide) (by decide)))
          rw [c_all_spec e8 ht]
          exact step
        · rename_i h03
          split at he
          · rename_i hc2
            cases he
            refine pq0 hk r1 rfl (fun k => key (fun n => absurd n hz) (fun _ => r8 (fun h => m03 h03 (Or.inl h)) (fun h => nn2 hc2 h (by decide)) (fun _ t ht => ?_) (fun h => m03 h03 (Or.inr h)) (fun h => nn2 hc2 h (by decide))))
            rw [c_all_spec e7 ht]
            exact k
          · rename_i hc2
            cases he
            exact ⟨r1, fun h => ⟨rfl, rfl, hk⟩, r5, r6, fun h => absurd h hc2, fun k0 k1 k2 k3 k4 => key (fun n => absurd n hz) (fun _ => r8 (fun h => m03 h03 (Or.inl h)) k1 (fun h => absurd h hc2) (fun h => m03 h03 (Or.inr h)) k4)⟩
  exact loop K en st hl he
theorem t_13 (HC : XClo dec lk lp pk rk thr rt rz xs L ck F cW hnd R X J) (hB : PG dec rt R X J B EB) : PG dec rt R X J (nodeG dec lk pk rk thr lp rt rz hnd 13 a b c A B C) (nodeS xs L ck F K cW 13 a b c EA EB EC) := by
  have HE := snd_E HC
  obtain ⟨-, -, -, -, -, -, -, -, -, -, -, -, -, -, -, -, -, -, -, -, -, -, -, -, -, -, -, -, -, -, -, -, -, -, -, -, hmono, -⟩ := HC
  intro τ τB τC pc τ' pc' al br ct en st c' v en' st' h hk hl he
  obtain ⟨⟨τ1, p1, al1, br1, ct1⟩, h1, h⟩ := j_bd h
  obtain ⟨⟨ka, p2, t2⟩, h2, h⟩ := j_bd h
  obtain ⟨⟨e1, e2, e3, e4⟩, h⟩ := j_if h
  cases h
  dsimp only at *
  have loop : ∀ (n : Nat) (en : List Int) (st : XT), en.length = τ.length → s_do EB (evE xs L ck F cW a) n en st = some (c', v, en', st') → PQ dec rt R X J τ τB τC τ p2 true [] [] c' v en' st' (J (j_ult dec pc) τ en [] st) := by
    intro n
    induction n with
    | zero => intro en st hl he; cases he
    | succ n ih =>
      intro en st hl he
      obtain ⟨⟨c1, v1, en1, s1⟩, hb, he⟩ := j_bd he
      dsimp only at he
      obtain ⟨r1, r2, r5, r6, r7, r8⟩ := hB _ _ _ _ _ _ _ _ _ _ _ _ _ _ _ h1 hk hl hb
      split at he
      · rename_i h03
        obtain ⟨⟨x, s2⟩, hx, he⟩ := j_bd he
        dsimp only at he
        have key := (HE a).2 τ 0 2 p1 _ _ _ en1 [] s1 x s2 (Or.inr rfl) h2 hx r1 (Nat.le_refl _)
        split at he
        · rename_i hz
          cases he
          refine pq0 hk r1 rfl (fun k => ?_)
          have step : J (j_ult dec p1) τ en' [] s1 := key (fun n => absurd hz n) (fun _ => k)
          refine r8 (fun _ => hmono _ _ _ _ _ _ e1 step) (fun h => n03 h03 h (by decide) (by decide)) (fun h => n03 h03 h (by decide) (by decide)) (fun _ t ht => ?_) (fun h => n03 h03 h (by decide) (by decide))
          rw [c_all_spec e4 ht]
          exact step
        · rename_i hz
          obtain ⟨w1, w2, w5, w6, w7, w8⟩ := ih en1 s2 r1 he
          refine ⟨w1, w2, w5, w6, w7, fun k0 k1 k2 k3 k4 => ?_⟩
          have step : J (j_ult dec p1) τ en1 [] s1 := key (fun _ t ht => by rw [c_all_spec e2 ht]; exact w8 k0 k1 k2 k3 k4) (fun n => absurd hz n)
          refine r8 (fun _ => hmono _ _ _ _ _ _ e1 step) (fun h => n03 h03 h (by decide) (by decide)) (fun h => n03 h03 h (by decide) (by decide)) (fun _ t ht => ?_) (fun h => n03 h03 h (by decide) (by decide))
          rw [c_all_spec e4 ht]
          exact step
      · rename_i h03
        split at he
        · rename_i hc2
          cases he
          refine pq0 hk r1 rfl (fun k => r8 (fun h => m03 h03 (Or.inl h)) (fun h => nn2 hc2 h (by decide)) (fun _ t ht => ?_) (fun h => m03 h03 (Or.inr h)) (fun h => nn2 hc2 h (by decide)))
          rw [c_all_spec e3 ht]
          exact k
        · rename_i hc2
          cases he
          exact ⟨r1, fun h => ⟨rfl, rfl, hk⟩, r5, r6, fun h => absurd h hc2, fun k0 k1 k2 k3 k4 => r8 (fun h => m03 h03 (Or.inl h)) k1 (fun h => absurd h hc2) (fun h => m03 h03 (Or.inr h)) k4⟩
  exact loop K en st hl he
theorem t_14 (HC : XClo dec lk lp pk rk thr rt rz xs L ck F cW hnd R X J) : PG dec rt R X J (nodeG dec lk pk rk thr lp rt rz hnd 14 a b c A B C) (nodeS xs L ck F K cW 14 a b c EA EB EC) := by
  obtain ⟨-, -, -, -, -, -, -, -, -, -, -, -, -, -, -, -, -, -, -, -, -, -, -, -, -, -, -, -, -, -, -, -, -, -, -, -, hmono, -⟩ := HC
  intro τ τB τC pc τ' pc' al br ct en st c' v en' st' h hk hl he
  obtain ⟨e1, h⟩ := j_if h
  cases h; cases he
  exact ⟨hl, fun h => (by cases h), by decide, fun h => (by cases h), fun _ => (by simp), fun k0 k1 k2 k3 k4 => hmono _ _ _ _ _ _ e1 (k2 rfl _ (List.mem_singleton.mpr rfl))⟩
theorem t_15 (HC : XClo dec lk lp pk rk thr rt rz xs L ck F cW hnd R X J) : PG dec rt R X J (nodeG dec lk pk rk thr lp rt rz hnd 15 a b c A B C) (nodeS xs L ck F K cW 15 a b c EA EB EC) := by
  obtain ⟨-, -, -, -, -, -, -, -, -, -, -, -, -, -, -, -, -, -, -, -, -, -, -, -, -, -, -, -, -, -, -, -, -, -, -, -, hmono, -⟩ := HC
  intro τ τB τC pc τ' pc' al br ct en st c' v en' st' h hk hl he
  obtain ⟨e1, h⟩ := j_if h
  cases h; cases he
  exact ⟨hl, fun h => (by cases h), by decide, fun h => (by cases h), fun h => (by cases h), fun k0 k1 k2 k3 k4 => hmono _ _ _ _ _ _ e1 (k3 rfl _ (List.mem_singleton.mpr rfl))⟩
theorem t_16 (HC : XClo dec lk lp pk rk thr rt rz xs L ck F cW hnd R X J) : PG dec rt R X J (nodeG dec lk pk rk thr lp rt rz hnd 16 a b c A B C) (nodeS xs L ck F K cW 16 a b c EA EB EC) := by
  have HE := snd_E HC
  obtain ⟨-, -, -, -, -, -, -, -, -, -, -, -, -, -, -, -, -, -, -, -, -, -, -, -, -, -, -, -, -, -, -, hret, -⟩ := HC
  intro τ τB τC pc τ' pc' al br ct en st c' v en' st' h hk hl he
  obtain ⟨⟨ka, p1, t1⟩, h1, h⟩ := j_bd h
  obtain ⟨⟨x, s0⟩, hx, he⟩ := j_bd he
  cases he
  dsimp only at h
  split at h
  · obtain ⟨⟨e1, e2, ez, e3⟩, h⟩ := j_if h
    cases h
    obtain ⟨ex, k1⟩ := (HE a).1.one (S := []) h1 hx hl (Nat.le_refl _)
    refine ⟨hl, fun h => (by cases h), by decide, fun _ => (by rw [ex, e2]; rfl), fun h => (by cases h), fun _ k _ _ _ => k1 (hret _ _ _ _ _ _ e2 ez e1 e3 ?_)⟩
    have := k rfl
    rw [ex] at this
    exact this
  · cases h
theorem t_17 (HC : XClo dec lk lp pk rk thr rt rz xs L ck F cW hnd R X J) : PG dec rt R X J (nodeG dec lk pk rk thr lp rt rz hnd 17 a b c A B C) (nodeS xs L ck F K cW 17 a b c EA EB EC) := by
  obtain ⟨-, -, -, -, -, -, -, -, -, -, -, -, -, -, -, -, -, -, -, -, -, -, -, -, -, -, -, -, -, -, -, -, hret, -⟩ := HC
  intro τ τB τC pc τ' pc' al br ct en st c' v en' st' h hk hl he
  obtain ⟨⟨e1, e2⟩, h⟩ := j_if h
  cases h; cases he
  exact ⟨hl, fun h => (by cases h), by decide, fun _ => (by rw [e1]; rfl), fun h => (by cases h), fun _ k _ _ _ => hret _ _ _ _ e1 e2 (k rfl)⟩
theorem t_18 (HC : XClo dec lk lp pk rk thr rt rz xs L ck F cW hnd R X J) : PG dec rt R X J (nodeG dec lk pk rk thr lp rt rz hnd 18 a b c A B C) (nodeS xs L ck F K cW 18 a b c EA EB EC) := by
  obtain ⟨-, -, -, -, -, -, -, -, -, -, -, -, -, -, -, -, -, -, -, -, -, -, -, -, -, -, -, -, -, -, -, -, -, hthr, -⟩ := HC
  intro τ τB τC pc τ' pc' al br ct en st c' v en' st' h hk hl he
  obtain ⟨e1, h⟩ := j_if h
  cases h; cases he
  exact ⟨hl, fun h => (by cases h), by decide, fun h => (by cases h), fun h => (by cases h), fun _ _ _ _ k => hthr _ _ _ _ e1 (k rfl)⟩
theorem t_20 (HC : XClo dec lk lp pk rk thr rt rz xs L ck F cW hnd R X J) (hA : PG dec rt R X J A EA) : PG dec rt R X J (nodeG dec lk pk rk thr lp rt rz hnd 20 a b c A B C) (nodeS xs L ck F K cW 20 a b c EA EB EC) := by
  obtain ⟨-, -, -, -, -, -, -, -, -, -, -, -, -, -, -, -, -, -, -, -, -, -, -, -, -, -, -, -, -, -, -, -, -, -, -, -, hmono, -⟩ := HC
  intro τ τB τC pc τ' pc' al br ct en st c' v en' st' h hk hl he
  obtain ⟨⟨τ1, p1, al1, br1, ct1⟩, h1, h⟩ := j_bd h
  obtain ⟨e1, h⟩ := j_if h
  cases h
  obtain ⟨r1, r2, r5, r6, r7, r8⟩ := hA _ _ _ _ _ _ _ _ _ _ _ _ _ _ _ h1 hk hl he
  exact ⟨r1, fun h => ⟨(r2 h).1, rfl, hk⟩, r5, r6, r7, fun k0 k1 k2 k3 k4 => r8 (fun h => hmono _ _ _ _ _ _ e1 (k0 h)) k1 k2 k3 k4⟩
theorem t_21 (HC : XClo dec lk lp pk rk thr rt rz xs L ck F cW hnd R X J) : PG dec rt R X J (nodeG dec lk pk rk thr lp rt rz hnd 21 a b c A B C) (nodeS xs L ck F K cW 21 a b c EA EB EC) := by
  have HE := snd_E HC
  obtain ⟨-, -, -, -, -, -, -, -, -, -, -, -, -, -, -, -, -, -, -, -, -, -, -, -, -, -, -, -, -, hp, -⟩ := HC
  intro τ τB τC pc τ' pc' al br ct en st c' v en' st' h hk hl he
  obtain ⟨⟨ka, p1, t1⟩, h1, h⟩ := j_bd h
  obtain ⟨⟨kb, p2, t2⟩, h2, h⟩ := j_bd h
  obtain ⟨⟨⟨r1, r2, r3, r4⟩, p3⟩, h3, h⟩ := j_bd h
  obtain ⟨⟨e1, e2, e3, e4, e5, e6⟩, h⟩ := j_if h
  obtain ⟨⟨y, s1⟩, hy, he⟩ := j_bd he
  obtain ⟨⟨z, s2⟩, hz, he⟩ := j_bd he
  cases h; cases he
  dsimp only at *
  subst e1; subst e2; subst e3; subst e4; subst e6
  obtain ⟨-, k1⟩ := (HE a).1.one (S := []) h1 hy hl (Nat.le_refl _)
  obtain ⟨-, k2⟩ := (HE b).1.one (S := [(10 + r2, j_hd y)]) h2 hz hl (kc1 _ (by omega))
  exact pq0 hk hl rfl (fun k => k1 (k2 (hp _ _ _ _ _ _ _ _ _ _ h3 e5 k)))
theorem t_22 (HC : XClo dec lk lp pk rk thr rt rz xs L ck F cW hnd R X J) : PG dec rt R X J (nodeG dec lk pk rk thr lp rt rz hnd 22 a b c A B C) (nodeS xs L ck F K cW 22 a b c EA EB EC) := by
  obtain ⟨-, hload, -, -, -, -, -, -, -, -, -, -, -, -, -, -, -, -, -, -, -, -, -, -, -, -, -, -, -, -, -, -, -, -, hoi, -⟩ := HC
  intro τ τB τC pc τ' pc' al br ct en st c' v en' st' h hk hl he
  obtain ⟨⟨g, p1⟩, h1, h⟩ := j_bd h
  dsimp only at h
  split at h
  · rename_i i hd
    obtain ⟨⟨e1, e2, e3⟩, h⟩ := j_if h
    cases h; cases he
    subst e1
    split at e3
    · rename_i z hz
      have ht : τ[0]? = some (τ.getD 0 0) := by
        cases τ with
        | nil => simp at e2
        | cons t0 τ => simp
      have hcl : k_cl (τ.getD 0 0) = 3 := by
        unfold k_cl
        rw [if_neg (by omega), if_neg (by omega)]
      exact pq0 hk hl rfl (fun k => hload _ _ _ _ _ _ _ _ _ h1 ht (by omega) hcl hl (by
        have q := hoi p1 i z (τ.getD 0 0) (en.getD 0 0) τ en [] st rfl hd hz e2 k
        exact q))
    · cases e3
  · cases h
end JNS
