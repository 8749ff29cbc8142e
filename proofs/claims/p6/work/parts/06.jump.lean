section JNJ
variable {dec : XD} {lk lp : XK} {pk rk : Nat → List Nat} {thr : Nat → Bool} {rt : List Nat} {rz : Bool} {xs : Nat → Int} {L : Nat} {ck : Nat → List Nat} {F : XP} {cW : Nat → Nat → Int} {hnd : Nat → Option (Nat × Nat)} {R : List Int → XT → Prop} {X : XT → Prop}
  {J : Nat → List Nat → List Int → List (Nat × Int) → XT → Prop} {a b c : SX} {A B C : XN} {EA EB EC : XE}
theorem j_cmp_neg {k : Nat} (hk : k < 6) (x y : Int) : j_cmp (j_neg k) x y = !(j_cmp k x y) := by
  rcases (show k = 0 ∨ k = 1 ∨ k = 2 ∨ k = 3 ∨ k = 4 ∨ k = 5 by omega) with rfl | rfl | rfl | rfl | rfl | rfl <;> rw [Bool.eq_iff_iff] <;> simp [j_neg, j_cmp] <;> omega
theorem j_b_0 (v : Bool) : j_hd [j_b v] = 0 ↔ v = false := by cases v <;> simp [j_hd, j_b]
theorem br_spec {f : Instr → Option (Nat × Int)} {pc k md p : Nat} {ts : List Nat} (h : c_br dec pc f k md = some (p, ts)) :
    ∃ kk off t, ts = [t] ∧ p = pc + 3 ∧ c_ins dec pc f = some ((kk, off), pc + 3) ∧ j_tgt pc off = some t ∧ ∀ x y, (j_cmp kk x y = true ↔ j_jp md [j_b (j_cmp k x y)]) := by
  obtain ⟨⟨⟨kk, off⟩, p1⟩, h1, h⟩ := j_bd h
  obtain ⟨t, h2, h⟩ := j_bd h
  obtain ⟨⟨e1, e2, e3⟩, h⟩ := j_if h
  cases h
  dsimp only at *
  subst e1
  refine ⟨kk, off, t, rfl, rfl, h1, h2, fun x y => ?_⟩
  rcases e2 with ⟨rfl, rfl⟩ | ⟨rfl, rfl⟩
  · rw [j_cmp_neg e3]
    simp [j_jp, j_b_0]
  · simp [j_jp, j_b_0]
theorem jp_nz (md : Nat) (z : List Int) : j_jp md [j_b (decide (j_hd z ≠ 0))] ↔ j_jp md z := by
  unfold j_jp
  split <;> simp [j_b_0]
theorem jp_z (md : Nat) (z : List Int) : j_jp md [j_b (decide (j_hd z = 0))] ↔ ¬ j_jp md z := by
  unfold j_jp
  split <;> simp [j_b_0]
theorem jp_1 (md : Nat) (hm : md = 1 ∨ md = 2) (z : List Int) : j_jp md z ↔ (md = 1 ↔ j_hd z = 0) := by
  rcases hm with rfl | rfl <;> simp [j_jp]
/-- the end of a compare -/
theorem br_end {f : Instr → Option (Nat × Int)} {pc k md p : Nat} {ts : List Nat} {τ : List Nat} {en : List Int} {S : List (Nat × Int)} {st : XT} {x y : Int} {G : Prop} (h : c_br dec pc f k md = some (p, ts))
    (step : ∀ kk off t, c_ins dec pc f = some ((kk, off), pc + 3) → j_tgt pc off = some t → (j_cmp kk x y = true → J (j_ult dec t) τ en S st) → (j_cmp kk x y = false → J (j_ult dec (pc + 3)) τ en S st) → G)
    (k1 : j_jp md [j_b (j_cmp k x y)] → ∀ t ∈ ts, J (j_ult dec t) τ en S st) (k2 : ¬ j_jp md [j_b (j_cmp k x y)] → J (j_ult dec p) τ en S st) : G := by
  obtain ⟨kk, off, t, rfl, rfl, e1, e2, e3⟩ := br_spec h
  refine step kk off t e1 e2 (fun q => k1 ((e3 x y).mp q) t (List.mem_singleton.mpr rfl)) (fun q => k2 (fun n => ?_))
  rw [(e3 x y).mpr n] at q
  cases q
theorem g_20 (HC : XClo dec lk lp pk rk thr rt rz xs L ck F cW hnd R X J) (hA : PV dec J A EA) (hB : PV dec J B EB) : PJ dec J (fun τ d md pc => c_jmp dec 20 c A B C τ d md pc) (nodeE xs L ck F cW 20 a b c EA EB EC) := by
  obtain ⟨-, -, -, -, -, -, -, -, -, -, -, -, -, -, -, -, -, -, hs, -⟩ := HC
  intro τ d md pc ks pc' ts en S st x st' hm h he hl hd k1 k2
  obtain ⟨p, h1, h⟩ := j_bd h
  obtain ⟨⟨p2, t2⟩, h2, h⟩ := j_bd h
  obtain ⟨y, hy, he⟩ := j_bd he
  obtain ⟨z, hz, he⟩ := j_bd he
  cases h
  cases he
  exact PV.two hA hB h1 hy hz hl hd (br_end h2 (fun kk off t a1 a2 a3 a4 => hs _ _ _ _ _ _ _ _ _ _ a1 a2 a3 a4) k1 k2)
theorem g_21 (HC : XClo dec lk lp pk rk thr rt rz xs L ck F cW hnd R X J) (hA : PV dec J A EA) : PJ dec J (fun τ d md pc => c_jmp dec 21 c A B C τ d md pc) (nodeE xs L ck F cW 21 a b c EA EB EC) := by
  obtain ⟨-, -, -, -, -, -, -, -, -, -, -, -, -, -, -, -, -, -, -, hs, -⟩ := HC
  intro τ d md pc ks pc' ts en S st x st' hm h he hl hd k1 k2
  obtain ⟨⟨q1, q2, q3⟩, h1, h⟩ := j_bd h
  obtain ⟨e1, h⟩ := j_ifx h
  obtain ⟨⟨p2, t2⟩, h2, h⟩ := j_bd h
  obtain ⟨y, hy, he⟩ := j_bd he
  cases h
  cases he
  dsimp only at *
  subst e1
  exact (hA.one h1 hy hl hd).2 (br_end h2 (fun kk off t a1 a2 a3 a4 => hs _ _ _ _ _ _ _ _ _ a1 a2 a3 a4) k1 k2)
theorem g_22 (HC : XClo dec lk lp pk rk thr rt rz xs L ck F cW hnd R X J) (hA : PV dec J A EA) (hB : PV dec J B EB) : PJ dec J (fun τ d md pc => c_jmp dec 22 c A B C τ d md pc) (nodeE xs L ck F cW 22 a b c EA EB EC) := by
  obtain ⟨-, -, -, -, -, -, -, -, -, -, -, -, -, -, -, -, -, -, -, -, hs, -⟩ := HC
  intro τ d md pc ks pc' ts en S st x st' hm h he hl hd k1 k2
  obtain ⟨p, h1, h⟩ := j_bd h
  obtain ⟨h3, h⟩ := j_ifx h
  obtain ⟨⟨p2, t2⟩, h2, h⟩ := j_bd h
  obtain ⟨y, hy, he⟩ := j_bd he
  obtain ⟨z, hz, he⟩ := j_bd he
  cases h
  cases he
  exact PV.two hA hB h1 hy hz hl hd (br_end h2 (fun kk off t a1 a2 a3 a4 => hs _ _ _ _ _ _ _ _ _ _ h3 a1 a2 a3 a4) k1 k2)
theorem g_23 (HC : XClo dec lk lp pk rk thr rt rz xs L ck F cW hnd R X J) (hA : PV dec J A EA) (hB : PV dec J B EB) : PJ dec J (fun τ d md pc => c_jmp dec 23 c A B C τ d md pc) (nodeE xs L ck F cW 23 a b c EA EB EC) := by
  obtain ⟨-, -, -, -, -, -, -, -, -, -, -, -, -, -, -, -, -, -, -, -, -, hs, -⟩ := HC
  intro τ d md pc ks pc' ts en S st x st' hm h he hl hd k1 k2
  obtain ⟨p, h1, h⟩ := j_bd h
  obtain ⟨h3, h⟩ := j_ifx h
  obtain ⟨⟨p2, t2⟩, h2, h⟩ := j_bd h
  obtain ⟨y, hy, he⟩ := j_bd he
  obtain ⟨z, hz, he⟩ := j_bd he
  cases h
  cases he
  exact PV.two hA hB h1 hy hz hl hd (br_end h2 (fun kk off t a1 a2 a3 a4 => hs _ _ _ _ _ _ _ _ _ _ a1 a2 a3 a4) k1 k2)
theorem g_24 (HC : XClo dec lk lp pk rk thr rt rz xs L ck F cW hnd R X J) (hA : PV dec J A EA) : PJ dec J (fun τ d md pc => c_jmp dec 24 c A B C τ d md pc) (nodeE xs L ck F cW 24 a b c EA EB EC) := by
  obtain ⟨-, -, -, -, -, -, -, -, -, -, -, -, -, -, -, -, -, -, -, hs, -⟩ := HC
  intro τ d md pc ks pc' ts en S st x st' hm h he hl hd k1 k2
  obtain ⟨⟨q1, q2, q3⟩, h1, h⟩ := j_bd h
  obtain ⟨e1, h⟩ := j_ifx h
  obtain ⟨⟨p2, t2⟩, h2, h⟩ := j_bd h
  cases h
  dsimp only at *
  subst e1
  refine (hA.one h1 he hl hd).2 (br_end (x := j_hd x) (y := 0) h2 (fun kk off t a1 a2 a3 a4 => hs _ _ _ _ _ _ _ _ _ a1 a2 a3 a4) (fun q => k1 ?_) (fun q => k2 ?_))
  · exact (jp_nz md x).mp q
  · exact fun n => q ((jp_nz md x).mpr n)
theorem c_all_spec {ts : List Nat} {p : Nat} (h : c_all dec ts p = true) {t : Nat} (ht : t ∈ ts) : j_ult dec t = j_ult dec p := by
  have := List.all_eq_true.mp h t ht
  exact beq_iff_eq.mp this
theorem g_25 (hA : PJ dec J A EA) (hB : PJ dec J B EB) : PJ dec J (fun τ d md pc => c_jmp dec 25 c A B C τ d md pc) (nodeE xs L ck F cW 25 a b c EA EB EC) := by
  intro τ d md pc ks pc' ts en S st x st' hm h he hl hd k1 k2
  obtain ⟨⟨ka, p1, t1⟩, h1, h⟩ := j_bd h
  obtain ⟨⟨kb, p2, t2⟩, h2, h⟩ := j_bd h
  obtain ⟨⟨y, s1⟩, hy, he⟩ := j_bd he
  dsimp only at *
  refine hA τ d 1 pc _ _ _ en S st y s1 (Or.inl rfl) h1 hy hl hd (fun q t ht => ?_) (fun q => ?_)
  · have q0 : j_hd y = 0 := q
    rw [if_pos q0] at he
    cases he
    rcases hm with rfl | rfl
    · rw [if_pos rfl] at h
      cases h
      exact k1 (by simp [j_jp, j_hd]) t (List.mem_append_left _ ht)
    · rw [if_neg (by decide)] at h
      obtain ⟨⟨-, e2⟩, h⟩ := j_if h
      cases h
      rw [c_all_spec e2 ht]
      exact k2 (by simp [j_jp, j_hd])
  · have q0 : ¬ j_hd y = 0 := q
    rw [if_neg q0] at he
    obtain ⟨⟨z, s2⟩, hz, he⟩ := j_bd he
    cases he
    refine hB τ d md p1 _ _ _ en S s1 z s2 hm h2 hz hl hd (fun n t ht => ?_) (fun n => ?_)
    · refine k1 ((jp_nz md z).mpr n) t ?_
      rcases hm with rfl | rfl
      · rw [if_pos rfl] at h
        cases h
        exact List.mem_append_right _ ht
      · rw [if_neg (by decide)] at h
        obtain ⟨-, h⟩ := j_if h
        cases h
        exact ht
    · have e : pc' = p2 := by
        rcases hm with rfl | rfl
        · rw [if_pos rfl] at h
          cases h
          rfl
        · rw [if_neg (by decide)] at h
          obtain ⟨-, h⟩ := j_if h
          cases h
          rfl
      rw [← e]
      exact k2 (fun q => n ((jp_nz md z).mp q))
theorem g_26 (hA : PJ dec J A EA) (hB : PJ dec J B EB) : PJ dec J (fun τ d md pc => c_jmp dec 26 c A B C τ d md pc) (nodeE xs L ck F cW 26 a b c EA EB EC) := by
  intro τ d md pc ks pc' ts en S st x st' hm h he hl hd k1 k2
  obtain ⟨⟨ka, p1, t1⟩, h1, h⟩ := j_bd h
  obtain ⟨⟨kb, p2, t2⟩, h2, h⟩ := j_bd h
  obtain ⟨⟨y, s1⟩, hy, he⟩ := j_bd he
  dsimp only at *
  refine hA τ d 2 pc _ _ _ en S st y s1 (Or.inr rfl) h1 hy hl hd (fun q t ht => ?_) (fun q => ?_)
  · have q0 : ¬ j_hd y = 0 := q
    rw [if_neg q0] at he
    cases he
    rcases hm with rfl | rfl
    · rw [if_neg (by decide)] at h
      obtain ⟨⟨-, e2⟩, h⟩ := j_if h
      cases h
      rw [c_all_spec e2 ht]
      exact k2 (by simp [j_jp, j_hd])
    · rw [if_pos rfl] at h
      cases h
      exact k1 (by simp [j_jp, j_hd]) t (List.mem_append_left _ ht)
  · have q0 : j_hd y = 0 := Decidable.not_not.mp q
    rw [if_pos q0] at he
    obtain ⟨⟨z, s2⟩, hz, he⟩ := j_bd he
    cases he
    refine hB τ d md p1 _ _ _ en S s1 z s2 hm h2 hz hl hd (fun n t ht => ?_) (fun n => ?_)
    · refine k1 ((jp_nz md z).mpr n) t ?_
      rcases hm with rfl | rfl
      · rw [if_neg (by decide)] at h
        obtain ⟨-, h⟩ := j_if h
        cases h
        exact ht
      · rw [if_pos rfl] at h
        cases h
        exact List.mem_append_right _ ht
    · have e : pc' = p2 := by
        rcases hm with rfl | rfl
        · rw [if_neg (by decide)] at h
          obtain ⟨-, h⟩ := j_if h
          cases h
          rfl
        · rw [if_pos rfl] at h
          cases h
          rfl
      rw [← e]
      exact k2 (fun q => n ((jp_nz md z).mp q))
theorem g_27 (hA : PJ dec J A EA) : PJ dec J (fun τ d md pc => c_jmp dec 27 c A B C τ d md pc) (nodeE xs L ck F cW 27 a b c EA EB EC) := by
  intro τ d md pc ks pc' ts en S st x st' hm h he hl hd k1 k2
  obtain ⟨⟨y, s1⟩, hy, he⟩ := j_bd he
  cases he
  rcases hm with rfl | rfl
  · have h' : A τ d 2 pc = some (ks, pc', ts) := h
    refine hA τ d 2 pc _ _ _ en S st y s1 (Or.inr rfl) h' hy hl hd (fun q => k1 ?_) (fun q => k2 ?_)
    · exact (jp_z 1 y).mpr (fun n => q n)
    · exact fun n => (jp_z 1 y).mp n (Classical.not_not.mp q)
  · have h' : A τ d 1 pc = some (ks, pc', ts) := h
    refine hA τ d 1 pc _ _ _ en S st y s1 (Or.inl rfl) h' hy hl hd (fun q => k1 ?_) (fun q => k2 ?_)
    · exact (jp_z 2 y).mpr (fun n => n q)
    · exact fun n => (jp_z 2 y).mp n (fun e => q e)
theorem g_28 (hA : PJ dec J A EA) (hB : PJ dec J B EB) (hC : PJ dec J C EC) : PJ dec J (fun τ d md pc => c_jmp dec 28 c A B C τ d md pc) (nodeE xs L ck F cW 28 a b c EA EB EC) := by
  intro τ d md pc ks pc' ts en S st x st' hm h he hl hd k1 k2
  obtain ⟨⟨ka, p1, t1⟩, h1, h⟩ := j_bd h
  obtain ⟨⟨kb, p2, t2⟩, h2, h⟩ := j_bd h
  obtain ⟨e0, h⟩ := j_ifx h
  obtain ⟨⟨kc, p3, t3⟩, h3, h⟩ := j_bd h
  obtain ⟨⟨y, s1⟩, hy, he⟩ := j_bd he
  dsimp only at *
  rw [Bool.and_eq_true] at e0
  refine hA τ d 1 pc _ _ _ en S st y s1 (Or.inl rfl) h1 hy hl hd (fun q t ht => ?_) (fun q => ?_)
  · have q0 : j_hd y = 0 := q
    rw [if_pos q0] at he
    rw [c_all_spec e0.2 ht]
    refine hC τ d md _ _ _ _ en S s1 x st' hm h3 he hl hd (fun n t ht => ?_) (fun n => ?_)
    · refine k1 n t ?_
      rcases hm with rfl | rfl
      · split at h
        · cases h
          exact List.mem_append_right _ ht
        · split at h
          · cases h
            exact List.mem_cons_of_mem _ ht
          · cases h
      · split at h
        · rename_i hh
          exact absurd hh.1 (by decide)
        · split at h
          · cases h
            exact List.mem_cons_of_mem _ ht
          · cases h
    · have e : pc' = p3 := by
        split at h
        · cases h
          rfl
        · split at h
          · cases h
            rfl
          · cases h
      rw [← e]
      exact k2 n
  · have q0 : ¬ j_hd y = 0 := q
    rw [if_neg q0] at he
    refine hB τ d 1 p1 _ _ _ en S s1 x st' (Or.inl rfl) h2 he hl hd (fun n t ht => ?_) (fun n => ?_)
    · have n0 : j_hd x = 0 := n
      rcases hm with rfl | rfl
      · split at h
        · cases h
          exact k1 n0 t (List.mem_append_left _ ht)
        · split at h
          · rename_i hh
            exact absurd hh.1 (by decide)
          · cases h
      · split at h
        · rename_i hh
          exact absurd hh.1 (by decide)
        · obtain ⟨⟨-, e2⟩, h⟩ := j_if h
          cases h
          rw [c_all_spec e2 ht]
          exact k2 (by simp [j_jp, n0])
    · have n0 : ¬ j_hd x = 0 := n
      rcases hm with rfl | rfl
      · split at h
        · rename_i hh
          cases h
          rw [hh.2]
          exact k2 n
        · split at h
          · rename_i hh
            exact absurd hh.1 (by decide)
          · cases h
      · split at h
        · rename_i hh
          exact absurd hh.1 (by decide)
        · obtain ⟨⟨-, e2⟩, h⟩ := j_if h
          cases h
          exact k1 n0 _ List.mem_cons_self
theorem c_one_spec {pc : Nat} {v : Int} (h : c_one dec lk pc v = true) : c_ins dec pc (a_const lk) = some ((1, v), pc + 1) := by
  unfold c_one at h
  split at h
  · rename_i kd x p he
    simp only [Bool.and_eq_true, beq_iff_eq] at h
    rw [he, h.1.1, h.1.2, h.2]
  · cases h
/-- a condition as a number -/
theorem PV.mat (HC : XClo dec lk lp pk rk thr rt rz xs L ck F cW hnd R X J) {N : XN} {E : XE} (hN : PJ dec J N E) (hE : ∀ en st x st', E en st = some (x, st') → x = [0] ∨ x = [1]) : PV dec J (fun τ d _ pc => c_mat dec lk (N τ d 1 pc)) E := by
  obtain ⟨hconst, -⟩ := HC
  intro τ d pc ks pc' ts en S st x st' h he hl hd
  obtain ⟨⟨ka, p1, t1⟩, h1, h⟩ := j_bd h
  obtain ⟨e, h⟩ := j_if h
  simp only [Bool.and_eq_true, beq_iff_eq] at e
  obtain ⟨⟨⟨⟨e1, e2⟩, e3⟩, e4⟩, e5⟩ := e
  cases h
  have hx := hE _ _ _ _ he
  refine ⟨by rcases hx with rfl | rfl <;> rfl, fun k => hN τ d 1 pc _ _ _ en S st x st' (Or.inl rfl) h1 he hl hd (fun q t ht => ?_) (fun q => ?_)⟩
  · rw [c_all_spec e4 ht]
    refine hconst _ _ (1, 0) _ _ _ _ (c_one_spec e3) (by decide) ?_
    rcases hx with rfl | rfl
    · exact k
    · exact absurd q (by simp [j_jp, j_hd])
  · refine hconst _ _ (1, 1) _ _ _ _ (c_one_spec e1) (by decide) ?_
    rw [e5]
    rcases hx with rfl | rfl
    · exact absurd rfl q
    · exact k
theorem j_b_01 (v : Bool) : [j_b v] = [0] ∨ [j_b v] = [1] := by cases v <;> simp [j_b]
theorem cond_01 {t : Nat} (ht : c_isC t = true) : ∀ en st x st', nodeE xs L ck F cW t a b c EA EB EC en st = some (x, st') → x = [0] ∨ x = [1] := by
  intro en st x st' h
  simp only [c_isC, Bool.or_eq_true, beq_iff_eq] at ht
  rcases ht with (((((rfl | rfl) | rfl) | rfl) | rfl) | rfl) | rfl
  · obtain ⟨y, hy, h⟩ := j_bd h
    obtain ⟨z, hz, h⟩ := j_bd h
    cases h
    exact j_b_01 _
  · obtain ⟨y, hy, h⟩ := j_bd h
    cases h
    exact j_b_01 _
  · obtain ⟨y, hy, h⟩ := j_bd h
    obtain ⟨z, hz, h⟩ := j_bd h
    cases h
    exact j_b_01 _
  · obtain ⟨y, hy, h⟩ := j_bd h
    obtain ⟨z, hz, h⟩ := j_bd h
    cases h
    exact j_b_01 _
  · obtain ⟨y, hy, h⟩ := j_bd h
    dsimp only at h
    split at h
    · cases h
      exact Or.inl rfl
    · obtain ⟨z, hz, h⟩ := j_bd h
      cases h
      exact j_b_01 _
  · obtain ⟨y, hy, h⟩ := j_bd h
    dsimp only at h
    split at h
    · obtain ⟨z, hz, h⟩ := j_bd h
      cases h
      exact j_b_01 _
    · cases h
      exact Or.inr rfl
  · obtain ⟨y, hy, h⟩ := j_bd h
    cases h
    exact j_b_01 _
theorem snd_jmp (HC : XClo dec lk lp pk rk thr rt rz xs L ck F cW hnd R X J) {t : Nat} (hA : PV dec J A EA ∧ PJ dec J A EA) (hB : PV dec J B EB ∧ PJ dec J B EB) (hC : PV dec J C EC ∧ PJ dec J C EC) :
    PJ dec J (fun τ d md pc => c_jmp dec t c A B C τ d md pc) (nodeE xs L ck F cW t a b c EA EB EC) := by
  intro τ d md pc ks pc' ts en S st x st' hm h he hl hd k1 k2
  have h0 : (fun t => c_jmp dec t c A B C τ d md pc) t = some (ks, pc', ts) := h
  by_cases h20 : t = 20
  · subst h20; exact g_20 HC hA.1 hB.1 τ d md pc ks pc' ts en S st x st' hm h he hl hd k1 k2
  by_cases h21 : t = 21
  · subst h21; exact g_21 HC hA.1 τ d md pc ks pc' ts en S st x st' hm h he hl hd k1 k2
  by_cases h22 : t = 22
  · subst h22; exact g_22 HC hA.1 hB.1 τ d md pc ks pc' ts en S st x st' hm h he hl hd k1 k2
  by_cases h23 : t = 23
  · subst h23; exact g_23 HC hA.1 hB.1 τ d md pc ks pc' ts en S st x st' hm h he hl hd k1 k2
  by_cases h24 : t = 24
  · subst h24; exact g_24 HC hA.1 τ d md pc ks pc' ts en S st x st' hm h he hl hd k1 k2
  by_cases h25 : t = 25
  · subst h25; exact g_25 hA.2 hB.2 τ d md pc ks pc' ts en S st x st' hm h he hl hd k1 k2
  by_cases h26 : t = 26
  · subst h26; exact g_26 hA.2 hB.2 τ d md pc ks pc' ts en S st x st' hm h he hl hd k1 k2
  by_cases h27 : t = 27
  · subst h27; exact g_27 hA.2 τ d md pc ks pc' ts en S st x st' hm h he hl hd k1 k2
  by_cases h28 : t = 28
  · subst h28; exact g_28 hA.2 hB.2 hC.2 τ d md pc ks pc' ts en S st x st' hm h he hl hd k1 k2
  exfalso
  dsimp only at h
  unfold c_jmp at h
  split at h <;> first | contradiction | cases h
theorem snd_val (HC : XClo dec lk lp pk rk thr rt rz xs L ck F cW hnd R X J) {t : Nat} (hA : PV dec J A EA ∧ PJ dec J A EA) (hB : PV dec J B EB ∧ PJ dec J B EB) (hC : PV dec J C EC ∧ PJ dec J C EC) :
    PV dec J (fun τ d _ pc => c_val dec lk pk rk thr t a b c A B C τ d pc) (nodeE xs L ck F cW t a b c EA EB EC) := by
  intro τ d pc ks pc' ts en S st x st' h he hl hd
  by_cases e : t = 1
  · subst e; exact v_1 HC τ d pc ks pc' ts en S st x st' h he hl hd
  by_cases e : t = 3
  · subst e; exact v_3 HC τ d pc ks pc' ts en S st x st' h he hl hd
  by_cases e : t = 4
  · subst e; exact v_4 HC hA.1 τ d pc ks pc' ts en S st x st' h he hl hd
  by_cases e : t = 5
  · subst e; exact v_5 HC hA.1 τ d pc ks pc' ts en S st x st' h he hl hd
  by_cases e : t = 7
  · subst e; exact v_7 HC hA.1 hB.1 τ d pc ks pc' ts en S st x st' h he hl hd
  by_cases e : t = 10
  · subst e; exact v_10 HC hA.1 τ d pc ks pc' ts en S st x st' h he hl hd
  by_cases e : t = 13
  · subst e; exact v_13 HC hA.1 τ d pc ks pc' ts en S st x st' h he hl hd
  by_cases e : t = 14
  · subst e; exact v_14 HC hA.1 hB.1 τ d pc ks pc' ts en S st x st' h he hl hd
  by_cases e : t = 15
  · subst e; exact v_15 HC hA.1 hB.1 τ d pc ks pc' ts en S st x st' h he hl hd
  by_cases e : t = 16
  · subst e; exact v_16 HC hA.1 hB.1 τ d pc ks pc' ts en S st x st' h he hl hd
  by_cases e : t = 17
  · subst e; exact v_17 HC hA.1 hB.1 τ d pc ks pc' ts en S st x st' h he hl hd
  by_cases e : t = 18
  · subst e; exact v_18 HC hA.1 τ d pc ks pc' ts en S st x st' h he hl hd
  by_cases e : t = 24
  · subst e; exact v_24 hA.1 τ d pc ks pc' ts en S st x st' h he hl hd
  by_cases e : t = 28
  · subst e; exact v_28 hA.2 hB.1 hC.1 τ d pc ks pc' ts en S st x st' h he hl hd
  by_cases e : t = 30
  · subst e; exact v_30 hA.1 hB.1 τ d pc ks pc' ts en S st x st' h he hl hd
  by_cases e : t = 31
  · subst e; exact v_31 τ d pc ks pc' ts en S st x st' h he hl hd
  by_cases e : t = 32
  · subst e; exact v_32 HC hA.1 τ d pc ks pc' ts en S st x st' h he hl hd
  by_cases e : t = 34
  · subst e; exact v_34 HC hA.1 τ d pc ks pc' ts en S st x st' h he hl hd
  by_cases e : t = 35
  · subst e; exact v_35 HC hA.1 τ d pc ks pc' ts en S st x st' h he hl hd
  by_cases e : t = 36
  · subst e; exact v_36 HC hA.1 hB.1 τ d pc ks pc' ts en S st x st' h he hl hd
  exfalso
  dsimp only at h
  unfold c_val at h
  split at h <;> first | contradiction | cases h
theorem snd_node (HC : XClo dec lk lp pk rk thr rt rz xs L ck F cW hnd R X J) {t : Nat} (hA : PV dec J A EA ∧ PJ dec J A EA) (hB : PV dec J B EB ∧ PJ dec J B EB) (hC : PV dec J C EC ∧ PJ dec J C EC) :
    PV dec J (nodeC dec lk pk rk thr t a b c A B C) (nodeE xs L ck F cW t a b c EA EB EC) ∧ PJ dec J (nodeC dec lk pk rk thr t a b c A B C) (nodeE xs L ck F cW t a b c EA EB EC) := by
  refine ⟨?_, ?_⟩
  · intro τ d pc ks pc' ts en S st x st' h he hl hd
    by_cases ht : c_isC t = true
    · have h' : c_mat dec lk (c_jmp dec t c A B C τ d 1 pc) = some (ks, pc', ts) := by
        simpa [nodeC, ht] using h
      exact PV.mat HC (snd_jmp HC (t := t) hA hB hC) (cond_01 ht) τ d pc ks pc' ts en S st x st' h' he hl hd
    · have h' : c_val dec lk pk rk thr t a b c A B C τ d pc = some (ks, pc', ts) := by
        simpa [nodeC, ht] using h
      exact snd_val HC (t := t) hA hB hC τ d pc ks pc' ts en S st x st' h' he hl hd
  · intro τ d md pc ks pc' ts en S st x st' hm h he hl hd k1 k2
    have h' : c_jmp dec t c A B C τ d md pc = some (ks, pc', ts) := by
      have : md ≠ 0 := by omega
      simpa [nodeC, this] using h
    exact snd_jmp HC (t := t) hA hB hC τ d md pc ks pc' ts en S st x st' hm h' he hl hd k1 k2
theorem snd_E (HC : XClo dec lk lp pk rk thr rt rz xs L ck F cW hnd R X J) : (e : SX) → PV dec J (chE dec lk pk rk thr e) (evE xs L ck F cW e) ∧ PJ dec J (chE dec lk pk rk thr e) (evE xs L ck F cW e)
  | .op (.var t) (.op a (.op b c)) => snd_node HC (snd_E HC a) (snd_E HC b) (snd_E HC c)
  | .var _ => ⟨fun _ _ _ _ _ _ _ _ _ _ _ h => (by cases h), fun _ _ _ _ _ _ _ _ _ _ _ _ _ h => (by cases h)⟩
  | .op (.op _ _) _ => ⟨fun _ _ _ _ _ _ _ _ _ _ _ h => (by cases h), fun _ _ _ _ _ _ _ _ _ _ _ _ _ h => (by cases h)⟩
  | .op (.var _) (.var _) => ⟨fun _ _ _ _ _ _ _ _ _ _ _ h => (by cases h), fun _ _ _ _ _ _ _ _ _ _ _ _ _ h => (by cases h)⟩
  | .op (.var _) (.op _ (.var _)) => ⟨fun _ _ _ _ _ _ _ _ _ _ _ h => (by cases h), fun _ _ _ _ _ _ _ _ _ _ _ _ _ h => (by cases h)⟩
end JNJ
