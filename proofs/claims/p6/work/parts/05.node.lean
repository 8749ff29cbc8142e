section JNV
variable {dec : XD} {lk lp : XK} {pk rk : Nat → List Nat} {thr : Nat → Bool} {rt : List Nat} {rz : Bool} {xs : Nat → Int} {L : Nat} {ck : Nat → List Nat} {F : XP} {cW : Nat → Nat → Int} {hnd : Nat → Option (Nat × Nat)} {R : List Int → XT → Prop} {X : XT → Prop}
  {J : Nat → List Nat → List Int → List (Nat × Int) → XT → Prop} {a b c : SX} {A B C : XN} {EA EB EC : XE}
theorem v_1 (HC : XClo dec lk lp pk rk thr rt rz xs L ck F cW hnd R X J) : PV dec J (fun τ d _ pc => c_val dec lk pk rk thr 1 a b c A B C τ d pc) (nodeE xs L ck F cW 1 a b c EA EB EC) := by
  obtain ⟨hconst, -⟩ := HC
  intro τ d pc ks pc' ts en S st x st' h he hl hd
  obtain ⟨r, h1, h⟩ := j_bd h
  obtain ⟨⟨e1, e0, e2⟩, h⟩ := j_if h
  cases h
  cases he
  refine ⟨rfl, fun k => hconst _ _ r.1 _ _ _ _ h1 e0 ?_⟩
  have e : r.1 = (r.1.1, r.1.2) := rfl
  rw [e2] at e
  rw [e]
  exact k
theorem v_3 (HC : XClo dec lk lp pk rk thr rt rz xs L ck F cW hnd R X J) : PV dec J (fun τ d _ pc => c_val dec lk pk rk thr 3 a b c A B C τ d pc) (nodeE xs L ck F cW 3 a b c EA EB EC) := by
  obtain ⟨-, hload, -⟩ := HC
  intro τ d pc ks pc' ts en S st x st' h he hl hd
  obtain ⟨r, h1, h⟩ := j_bd h
  obtain ⟨kd, h2, h⟩ := j_bd h
  obtain ⟨⟨e1, e0, e2⟩, h⟩ := j_if h
  cases h
  cases he
  refine ⟨rfl, fun k => hload _ _ r.1.1 r.1.2 kd _ _ _ _ h1 (by rw [e1]; exact h2) e0 e2 hl ?_⟩
  rw [e1]
  exact k
theorem v_4 (HC : XClo dec lk lp pk rk thr rt rz xs L ck F cW hnd R X J) (hA : PV dec J A EA) : PV dec J (fun τ d _ pc => c_val dec lk pk rk thr 4 a b c A B C τ d pc) (nodeE xs L ck F cW 4 a b c EA EB EC) := by
  obtain ⟨-, -, -, -, hg, -⟩ := HC
  intro τ d pc ks pc' ts en S st x st' h he hl hd
  obtain ⟨q, h1, h⟩ := j_bd h
  obtain ⟨r, h2, h⟩ := j_bd h
  obtain ⟨⟨e1, e2, e3, e4, e5⟩, h⟩ := j_if h
  obtain ⟨y, hy, he⟩ := j_bd he
  cases h
  cases he
  obtain ⟨⟨r1, r2, r3, r4⟩, p⟩ := r
  obtain ⟨ks, q1, q2⟩ := q
  dsimp only at *
  subst e1; subst e2; subst e3; subst e4
  obtain ⟨-, kk⟩ := hA.one h1 hy hl hd
  exact ⟨rfl, fun k => kk (hg _ _ _ _ _ _ _ _ _ h2 e5 k)⟩
theorem v_5 (HC : XClo dec lk lp pk rk thr rt rz xs L ck F cW hnd R X J) (hA : PV dec J A EA) : PV dec J (fun τ d _ pc => c_val dec lk pk rk thr 5 a b c A B C τ d pc) (nodeE xs L ck F cW 5 a b c EA EB EC) := by
  obtain ⟨-, -, -, -, -, hg, -⟩ := HC
  intro τ d pc ks pc' ts en S st x st' h he hl hd
  obtain ⟨q, h1, h⟩ := j_bd h
  obtain ⟨r, h2, h⟩ := j_bd h
  obtain ⟨⟨e1, e2, e3, e4, e5⟩, h⟩ := j_if h
  obtain ⟨y, hy, he⟩ := j_bd he
  obtain ⟨z, hz, he⟩ := j_bd he
  cases h
  cases he
  obtain ⟨⟨r1, r2, r3, r4⟩, p⟩ := r
  obtain ⟨ks, q1, q2⟩ := q
  dsimp only at *
  subst e1; subst e2; subst e3; subst e4
  obtain ⟨-, kk⟩ := hA.one h1 hy hl hd
  exact ⟨rfl, fun k => kk (hg _ _ _ _ _ _ _ _ _ _ h2 e5 hz k)⟩
theorem v_7 (HC : XClo dec lk lp pk rk thr rt rz xs L ck F cW hnd R X J) (hA : PV dec J A EA) (hB : PV dec J B EB) : PV dec J (fun τ d _ pc => c_val dec lk pk rk thr 7 a b c A B C τ d pc) (nodeE xs L ck F cW 7 a b c EA EB EC) := by
  obtain ⟨-, -, -, -, -, -, hald, hsld, hwld, -⟩ := HC
  intro τ d pc ks pc' ts en S st x st' h he hl hd
  obtain ⟨⟨ka, p1, t1⟩, h1, g1⟩ := j_bd h
  clear h
  obtain ⟨⟨kb, p2, t2⟩, h2, g2⟩ := j_bd g1
  clear g1
  obtain ⟨⟨w, p3⟩, h3, g3⟩ := j_bd g2
  clear g2
  obtain ⟨⟨e1, e2⟩, h⟩ := j_ifx g3
  clear g3
  obtain ⟨⟨y, s1⟩, hy, he1⟩ := j_bd he
  clear he
  obtain ⟨⟨z, s2⟩, hz, he⟩ := j_bd he1
  clear he1
  dsimp only at *
  subst e1; subst e2
  split at h
  · rename_i hc
    rw [hc] at he
    split at h
    · rename_i ty
      obtain ⟨⟨e3, e4, e5⟩, h⟩ := j_if h
      obtain ⟨⟨e6, e7⟩, he⟩ := j_if he
      cases h; cases he
      obtain ⟨-, k1⟩ := hA.one h1 hy hl hd
      obtain ⟨-, k2⟩ := hB.one (S := (ty, j_hd y) :: S) h2 hz hl (by rw [k_cats_cons]; have : k_cats [ty] = 1 := (by simp [k_cats, k_cat]; omega); omega)
      exact ⟨rfl, fun k => k1 (k2 (hald _ _ _ _ _ _ _ _ _ h3 e3 e4 e5 e6 e7 k))⟩
    · cases h
  · rename_i hc
    rw [hc] at he
    obtain ⟨⟨e3, e4⟩, h⟩ := j_if h
    obtain ⟨⟨e6, e7⟩, he⟩ := j_if he
    cases h; cases he
    subst e3; subst e4
    obtain ⟨-, k1⟩ := hA.one h1 hy hl hd
    obtain ⟨-, k2⟩ := hB.one (S := (5, j_hd y) :: S) h2 hz hl (by rw [k_cats_cons]; have : k_cats [5] = 1 := rfl; omega)
    exact ⟨rfl, fun k => k1 (k2 (hsld _ _ _ _ _ _ _ h3 e6 e7 k))⟩
  · rename_i hc
    rw [hc] at he
    obtain ⟨⟨e3, e4⟩, h⟩ := j_if h
    obtain ⟨⟨e6, e7⟩, he⟩ := j_if he
    cases h; cases he
    subst e3; subst e4
    obtain ⟨-, k1⟩ := hA.one h1 hy hl hd
    obtain ⟨-, k2⟩ := hB.one (S := (4, j_hd y) :: S) h2 hz hl (by rw [k_cats_cons]; have : k_cats [4] = 1 := rfl; omega)
    exact ⟨rfl, fun k => k1 (k2 (hwld _ _ _ _ _ _ _ h3 e6 e7 k))⟩
  · cases h
theorem v_10 (HC : XClo dec lk lp pk rk thr rt rz xs L ck F cW hnd R X J) (hA : PV dec J A EA) : PV dec J (fun τ d _ pc => c_val dec lk pk rk thr 10 a b c A B C τ d pc) (nodeE xs L ck F cW 10 a b c EA EB EC) := by
  obtain ⟨-, -, -, -, -, -, -, -, -, hn, hs, hw, -⟩ := HC
  intro τ d pc ks pc' ts en S st x st' h he hl hd
  obtain ⟨⟨ka, p1, t1⟩, h1, h⟩ := j_bd h
  obtain ⟨h2, h⟩ := j_ifx h
  obtain ⟨⟨y, s1⟩, hy, he⟩ := j_bd he
  dsimp only at *
  split at h
  · rename_i hc
    rw [hc] at he
    split at h
    · obtain ⟨⟨e3, e4⟩, h⟩ := j_if h
      cases h; cases he
      obtain ⟨-, k1⟩ := hA.one h1 hy hl hd
      exact ⟨rfl, fun k => k1 (hn _ _ _ _ _ _ _ h2 e3 e4 k)⟩
    · cases h
  · rename_i hc
    rw [hc] at he
    obtain ⟨e3, h⟩ := j_if h
    cases h; cases he
    subst e3
    obtain ⟨-, k1⟩ := hA.one h1 hy hl hd
    exact ⟨rfl, fun k => k1 (hs _ _ _ _ _ _ h2 k)⟩
  · rename_i hc
    rw [hc] at he
    obtain ⟨e3, h⟩ := j_if h
    cases h; cases he
    subst e3
    obtain ⟨-, k1⟩ := hA.one h1 hy hl hd
    exact ⟨rfl, fun k => k1 (hw _ _ _ _ _ _ h2 k)⟩
  · cases h
theorem v_13 (HC : XClo dec lk lp pk rk thr rt rz xs L ck F cW hnd R X J) (hA : PV dec J A EA) : PV dec J (fun τ d _ pc => c_val dec lk pk rk thr 13 a b c A B C τ d pc) (nodeE xs L ck F cW 13 a b c EA EB EC) := by
  obtain ⟨-, -, -, -, -, -, -, -, -, -, -, -, hg, -⟩ := HC
  intro τ d pc ks pc' ts en S st x st' h he hl hd
  obtain ⟨q, h1, h⟩ := j_bd h
  obtain ⟨r, h2, h⟩ := j_bd h
  obtain ⟨⟨e1, e2, e3, e4, e5⟩, h⟩ := j_if h
  obtain ⟨y, hy, he⟩ := j_bd he
  cases h
  cases he
  obtain ⟨⟨r1, r2, r3, r4⟩, p⟩ := r
  obtain ⟨ks, q1, q2⟩ := q
  dsimp only at *
  subst e1; subst e2; subst e3; subst e4
  obtain ⟨-, kk⟩ := hA.one h1 hy hl hd
  exact ⟨rfl, fun k => kk (hg _ _ _ _ _ _ _ _ _ h2 e5 k)⟩
theorem v_14 (HC : XClo dec lk lp pk rk thr rt rz xs L ck F cW hnd R X J) (hA : PV dec J A EA) (hB : PV dec J B EB) : PV dec J (fun τ d _ pc => c_val dec lk pk rk thr 14 a b c A B C τ d pc) (nodeE xs L ck F cW 14 a b c EA EB EC) := by
  obtain ⟨-, -, -, -, -, -, -, -, -, -, -, -, -, hg, -⟩ := HC
  intro τ d pc ks pc' ts en S st x st' h he hl hd
  obtain ⟨p, h1, h⟩ := j_bd h
  obtain ⟨⟨k0, p2⟩, h2, h⟩ := j_bd h
  obtain ⟨⟨e1, e2⟩, h⟩ := j_if h
  obtain ⟨y, hy, he⟩ := j_bd he
  obtain ⟨z, hz, he⟩ := j_bd he
  cases h
  cases he
  dsimp only at *
  subst e1; subst e2
  exact ⟨rfl, fun k => PV.two hA hB h1 hy hz hl hd (hg _ _ _ _ _ _ _ _ h2 k)⟩
theorem v_15 (HC : XClo dec lk lp pk rk thr rt rz xs L ck F cW hnd R X J) (hA : PV dec J A EA) (hB : PV dec J B EB) : PV dec J (fun τ d _ pc => c_val dec lk pk rk thr 15 a b c A B C τ d pc) (nodeE xs L ck F cW 15 a b c EA EB EC) := by
  obtain ⟨-, -, -, -, -, -, -, -, -, -, -, -, -, -, hg, -⟩ := HC
  intro τ d pc ks pc' ts en S st x st' h he hl hd
  obtain ⟨p, h1, h⟩ := j_bd h
  obtain ⟨⟨k0, p2⟩, h2, h⟩ := j_bd h
  obtain ⟨⟨e1, e2⟩, h⟩ := j_if h
  obtain ⟨y, hy, he⟩ := j_bd he
  obtain ⟨z, hz, he⟩ := j_bd he
  cases h
  cases he
  dsimp only at *
  subst e1; subst e2
  exact ⟨rfl, fun k => PV.two hA hB h1 hy hz hl hd (hg _ _ _ _ _ _ _ _ h2 k)⟩
theorem v_16 (HC : XClo dec lk lp pk rk thr rt rz xs L ck F cW hnd R X J) (hA : PV dec J A EA) (hB : PV dec J B EB) : PV dec J (fun τ d _ pc => c_val dec lk pk rk thr 16 a b c A B C τ d pc) (nodeE xs L ck F cW 16 a b c EA EB EC) := by
  obtain ⟨-, -, -, -, -, -, -, -, -, -, -, -, -, -, -, hg, -⟩ := HC
  intro τ d pc ks pc' ts en S st x st' h he hl hd
  obtain ⟨p, h1, h⟩ := j_bd h
  obtain ⟨⟨k0, p2⟩, h2, h⟩ := j_bd h
  obtain ⟨⟨e1, e2⟩, h⟩ := j_if h
  obtain ⟨y, hy, he⟩ := j_bd he
  obtain ⟨z, hz, he⟩ := j_bd he
  cases h
  cases he
  dsimp only at *
  subst e1; subst e2
  exact ⟨rfl, fun k => PV.two hA hB h1 hy hz hl hd (hg _ _ _ _ _ _ _ _ h2 k)⟩
theorem v_17 (HC : XClo dec lk lp pk rk thr rt rz xs L ck F cW hnd R X J) (hA : PV dec J A EA) (hB : PV dec J B EB) : PV dec J (fun τ d _ pc => c_val dec lk pk rk thr 17 a b c A B C τ d pc) (nodeE xs L ck F cW 17 a b c EA EB EC) := by
  obtain ⟨-, -, -, -, -, -, -, -, -, -, -, -, -, -, -, -, hg, -⟩ := HC
  intro τ d pc ks pc' ts en S st x st' h he hl hd
  obtain ⟨p, h1, h⟩ := j_bd h
  obtain ⟨⟨k0, p2⟩, h2, h⟩ := j_bd h
  obtain ⟨⟨e1, e2⟩, h⟩ := j_if h
  obtain ⟨y, hy, he⟩ := j_bd he
  obtain ⟨z, hz, he⟩ := j_bd he
  split at he
  · cases he
  rename_i hne
  cases h
  cases he
  dsimp only at *
  subst e1; subst e2
  exact ⟨rfl, fun k => PV.two hA hB h1 hy hz hl hd (hg _ _ _ _ _ _ _ _ _ h2 hne k)⟩
theorem v_18 (HC : XClo dec lk lp pk rk thr rt rz xs L ck F cW hnd R X J) (hA : PV dec J A EA) : PV dec J (fun τ d _ pc => c_val dec lk pk rk thr 18 a b c A B C τ d pc) (nodeE xs L ck F cW 18 a b c EA EB EC) := by
  obtain ⟨-, -, -, -, -, -, -, -, -, -, -, -, -, -, -, -, -, hg, -⟩ := HC
  intro τ d pc ks pc' ts en S st x st' h he hl hd
  obtain ⟨⟨ka, p1, t1⟩, h1, h⟩ := j_bd h
  obtain ⟨⟨⟨k0, k1, k2⟩, p2⟩, h2, h⟩ := j_bd h
  obtain ⟨⟨e1, e2, e3⟩, h⟩ := j_if h
  obtain ⟨y, hy, he⟩ := j_bd he
  cases h
  cases he
  dsimp only at *
  subst e1; subst e2; subst e3
  obtain ⟨-, kk⟩ := hA.one h1 hy hl hd
  exact ⟨rfl, fun k => kk (hg _ _ _ _ _ _ _ _ _ h2 k)⟩
theorem v_24 (hA : PV dec J A EA) : PV dec J (fun τ d _ pc => c_val dec lk pk rk thr 24 a b c A B C τ d pc) (nodeE xs L ck F cW 24 a b c EA EB EC) := by
  intro τ d pc ks pc' ts en S st x st' h he hl hd
  obtain ⟨⟨ka, p1, t1⟩, h1, h⟩ := j_bd h
  obtain ⟨e1, h⟩ := j_if h
  cases h
  dsimp only at *
  subst e1
  exact hA _ _ _ _ _ _ _ S _ _ _ h1 he hl hd
theorem v_28 (hA : PJ dec J A EA) (hB : PV dec J B EB) (hC : PV dec J C EC) : PV dec J (fun τ d _ pc => c_val dec lk pk rk thr 28 a b c A B C τ d pc) (nodeE xs L ck F cW 28 a b c EA EB EC) := by
  intro τ d pc ks pc' ts en S st x st' h he hl hd
  obtain ⟨⟨ka, p1, t1⟩, h1, h⟩ := j_bd h
  obtain ⟨⟨kb, p2, t2⟩, h2, h⟩ := j_bd h
  obtain ⟨e0, h⟩ := j_ifx h
  obtain ⟨⟨kc, p3, t3⟩, h3, h⟩ := j_bd h
  obtain ⟨⟨e1, e2⟩, h⟩ := j_if h
  cases h
  dsimp only at *
  subst e1
  obtain ⟨⟨y, s1⟩, hy, he⟩ := j_bd he
  dsimp only at he
  rw [Bool.and_eq_true] at e0
  have e3 := List.all_eq_true.mp e0.2
  have key := hA τ d 1 pc _ _ _ en S st y s1 (Or.inl rfl) h1 hy hl hd
  split at he
  · rename_i hz
    obtain ⟨g1, g2⟩ := hC τ d _ _ _ _ en S _ _ _ h3 he hl hd
    refine ⟨g1, fun k => key (fun _ t ht => ?_) (fun hn => absurd (by simp [j_jp, hz]) hn)⟩
    have := e3 t ht
    rw [beq_iff_eq] at this
    rw [this]
    exact g2 k
  · rename_i hz
    obtain ⟨g1, g2⟩ := hB τ d _ _ _ _ en S _ _ _ h2 he hl hd
    refine ⟨g1, fun k => key (fun hn => absurd hn (by simp [j_jp, hz])) (fun _ => g2 ?_)⟩
    rw [e2]
    exact k
theorem v_30 (hA : PV dec J A EA) (hB : PV dec J B EB) : PV dec J (fun τ d _ pc => c_val dec lk pk rk thr 30 a b c A B C τ d pc) (nodeE xs L ck F cW 30 a b c EA EB EC) := by
  intro τ d pc ks pc' ts en S st x st' h he hl hd
  obtain ⟨⟨ka, p1, t1⟩, h1, h⟩ := j_bd h
  obtain ⟨⟨kb, p2, t2⟩, h2, h⟩ := j_bd h
  obtain ⟨⟨y, s1⟩, hy, he⟩ := j_bd he
  obtain ⟨⟨z, s2⟩, hz, he⟩ := j_bd he
  cases h
  cases he
  dsimp only at *
  obtain ⟨a1, b1⟩ := hA _ _ _ _ _ _ _ S _ _ _ h1 hy hl hd
  obtain ⟨a2, b2⟩ := hB _ _ _ _ _ _ _ ((ka.zip y).reverse ++ S) _ _ _ h2 hz hl (by rw [k_cats_rz a1]; omega)
  refine ⟨by simp [a1, a2], fun k => b1 (b2 ?_)⟩
  rw [List.zip_append a1.symm, List.reverse_append, List.append_assoc] at k
  exact k
theorem v_31 : PV dec J (fun τ d _ pc => c_val dec lk pk rk thr 31 a b c A B C τ d pc) (nodeE xs L ck F cW 31 a b c EA EB EC) := by
  intro τ d pc ks pc' ts en S st x st' h he hl hd
  cases h
  cases he
  exact ⟨rfl, fun k => k⟩
theorem v_32 (HC : XClo dec lk lp pk rk thr rt rz xs L ck F cW hnd R X J) (hA : PV dec J A EA) : PV dec J (fun τ d _ pc => c_val dec lk pk rk thr 32 a b c A B C τ d pc) (nodeE xs L ck F cW 32 a b c EA EB EC) := by
  obtain ⟨-, -, -, -, -, -, -, -, -, -, -, -, -, -, -, -, -, -, -, -, -, -, hcall, -, -, -, -, -, -, -, -, -, -, -, -, -, -, hlen, -⟩ := HC
  intro τ d pc ks pc' ts en S st x st' h he hl hd
  obtain ⟨⟨ka, p1, t1⟩, h1, h⟩ := j_bd h
  obtain ⟨⟨f, p2⟩, h2, h⟩ := j_bd h
  obtain ⟨⟨e1, e2, e3, e4, e5⟩, h⟩ := j_if h
  obtain ⟨⟨y, s1⟩, hy, he⟩ := j_bd he
  obtain ⟨⟨rc, rv, rs⟩, hr, he⟩ := j_bd he
  obtain ⟨e6, he⟩ := j_if he
  cases h
  cases he
  dsimp only at *
  subst e1; subst e2; subst e5; subst e6
  obtain ⟨a1, b1⟩ := hA _ _ _ _ _ _ _ S _ _ _ h1 hy hl hd
  exact ⟨hlen _ _ _ _ _ hr, fun k => b1 (hcall _ _ _ _ _ _ _ _ _ h2 e3 hr a1 (Nat.le_trans hd e4) k)⟩
theorem v_34 (HC : XClo dec lk lp pk rk thr rt rz xs L ck F cW hnd R X J) (hA : PV dec J A EA) : PV dec J (fun τ d _ pc => c_val dec lk pk rk thr 34 a b c A B C τ d pc) (nodeE xs L ck F cW 34 a b c EA EB EC) := by
  obtain ⟨-, -, -, -, -, -, -, -, -, -, -, -, -, -, -, -, -, -, -, -, -, -, hcall, hnew, -, hdup, -, -, -, -, -, -, -, -, -, -, -, hlen, -⟩ := HC
  intro τ d pc ks pc' ts en S st x st' h he hl hd
  obtain ⟨⟨⟨z1, z2, z3⟩, p2⟩, h2, h⟩ := j_bd h
  obtain ⟨⟨e1, e2, e3, e4⟩, h⟩ := j_ifx h
  obtain ⟨⟨ka, p1, t1⟩, h1, h⟩ := j_bd h
  obtain ⟨⟨f, p3⟩, h3, h⟩ := j_bd h
  obtain ⟨⟨g1, g2, g3, g4, g5, g6⟩, h⟩ := j_if h
  obtain ⟨⟨y, s1⟩, hy, he⟩ := j_bd he
  obtain ⟨⟨rc, rv, rs⟩, hr, he⟩ := j_bd he
  obtain ⟨e6, he⟩ := j_if he
  cases h
  cases he
  dsimp only at *
  subst e1; subst e2; subst e3; subst g1; subst g6; subst e6
  have hrv : rv = [] := by
    have := hlen _ _ _ _ _ hr
    rw [g3] at this
    exact List.length_eq_zero_iff.mp this
  subst hrv
  refine ⟨rfl, fun k => hnew _ _ _ _ _ _ _ h2 (hdup _ _ _ _ _ _ e4 (by dsimp only; omega) ?_)⟩
  have kc : k_cats (((10 + sx_n b, (st.1.1.length : Int)) :: (10 + sx_n b, (st.1.1.length : Int)) :: S).map (·.1)) ≤ d + 2 := by
    rw [k_cats_cons, k_cats_cons]
    have : k_cats [10 + sx_n b] = 1 := by simp [k_cats, k_cat]; omega
    omega
  have kc2 : k_cats (((10 + sx_n b, (st.1.1.length : Int)) :: S).map (·.1)) ≤ 8 := by
    rw [k_cats_cons]
    have : k_cats [10 + sx_n b] = 1 := by simp [k_cats, k_cat]; omega
    omega
  obtain ⟨a1, b1⟩ := hA _ _ _ _ _ _ _ ((10 + sx_n b, (st.1.1.length : Int)) :: (10 + sx_n b, (st.1.1.length : Int)) :: S) _ _ _ h1 hy hl kc
  refine b1 ?_
  have q := hcall _ _ ((st.1.1.length : Int) :: y) [] τ en ((10 + sx_n b, (st.1.1.length : Int)) :: S) _ _ h3 g4 hr (by rw [g2]; simp [a1]) kc2
  rw [g2, g3] at q
  have q2 := q k
  simp only [List.zip_cons_cons, List.reverse_cons, List.append_assoc, List.singleton_append] at q2
  exact q2
theorem v_35 (HC : XClo dec lk lp pk rk thr rt rz xs L ck F cW hnd R X J) (hA : PV dec J A EA) : PV dec J (fun τ d _ pc => c_val dec lk pk rk thr 35 a b c A B C τ d pc) (nodeE xs L ck F cW 35 a b c EA EB EC) := by
  obtain ⟨-, -, -, -, -, -, -, -, -, -, -, -, -, -, -, -, -, -, -, -, -, -, -, -, hnewa, -⟩ := HC
  intro τ d pc ks pc' ts en S st x st' h he hl hd
  obtain ⟨⟨ka, p1, t1⟩, h1, h⟩ := j_bd h
  obtain ⟨⟨ty, p2⟩, h2, h⟩ := j_bd h
  obtain ⟨⟨e1, e2, e3⟩, h⟩ := j_if h
  obtain ⟨⟨y, s1⟩, hy, he⟩ := j_bd he
  obtain ⟨e4, he⟩ := j_ifx he
  cases h
  cases he
  dsimp only at *
  subst e1; subst e2; subst e3
  obtain ⟨-, k1⟩ := hA.one h1 hy hl hd
  exact ⟨rfl, fun k => k1 (hnewa _ _ _ _ _ _ _ h2 e4.1 e4.2 k)⟩
theorem v_36 (HC : XClo dec lk lp pk rk thr rt rz xs L ck F cW hnd R X J) (hA : PV dec J A EA) (hB : PV dec J B EB) : PV dec J (fun τ d _ pc => c_val dec lk pk rk thr 36 a b c A B C τ d pc) (nodeE xs L ck F cW 36 a b c EA EB EC) := by
  obtain ⟨hconst, -, -, -, -, -, -, -, -, -, -, -, -, -, -, -, -, -, -, -, -, -, -, -, -, hdup, -, -, -, -, hast, -⟩ := HC
  intro τ d pc ks pc' ts en S st x st' h he hl hd
  obtain ⟨⟨ka, p1, t1⟩, h1, h⟩ := j_bd h
  dsimp only at h
  split at h
  · rename_i ty
    obtain ⟨⟨e1, e2⟩, h⟩ := j_ifx h
    obtain ⟨⟨⟨c1, c2⟩, p2⟩, h2, h⟩ := j_bd h
    obtain ⟨e3, h⟩ := j_ifx h
    obtain ⟨⟨kb, p3, t3⟩, h3, h⟩ := j_bd h
    obtain ⟨⟨w, p4⟩, h4, h⟩ := j_bd h
    obtain ⟨⟨e4, e5, e6⟩, h⟩ := j_if h
    obtain ⟨⟨y, s1⟩, hy, he⟩ := j_bd he
    obtain ⟨⟨z, s2⟩, hz, he⟩ := j_bd he
    obtain ⟨e7, he⟩ := j_if he
    have t1' : (1 : Nat) ≠ 0 := by decide
    cases h
    cases he
    cases e3
    dsimp only at *
    subst e4; subst e5; subst e6
    obtain ⟨ey, k1⟩ := hA.one h1 hy hl hd
    have t2 : w ≠ 2 := by omega
    have kc : k_cats (((1, (sx_n c : Int)) :: (w, j_hd y) :: (w, j_hd y) :: S).map (·.1)) ≤ d + 3 := by
      rw [k_cats_cons, k_cats_cons, k_cats_cons]
      have : k_cats [w] = 1 := by simp [k_cats, k_cat, t2]
      have : k_cats [1] = 1 := rfl
      omega
    obtain ⟨-, k3⟩ := hB.one (S := (1, (sx_n c : Int)) :: (w, j_hd y) :: (w, j_hd y) :: S) h3 hz hl kc
    refine ⟨by rw [ey]; rfl, fun k => k1 (hdup _ _ _ _ _ _ e2 t2 (hconst _ _ (1, (sx_n c : Int)) _ _ _ _ h2 t1' (k3 (hast _ w w _ _ _ _ _ _ _ h4 (by omega) (by omega) (by rcases e1 with rfl | rfl <;> rfl) (by omega) (by omega) ?_))))⟩
    rw [ey] at k
    rcases e1 with rfl | rfl <;> exact k
  · cases h
end JNV
