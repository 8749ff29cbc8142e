/-! ===== a work's lines are the same on_w both_w sides ===== -/
def LJ (h : XH) : Prop := ∃ (D : DD) (N : List LX), RF D h ∧ LVs D N ∧ LNS 52 N h ∧ h 191 0 = (N.length : Int) ∧ LNR 1 N h
def L52 (h h1 : XH) : Prop := ∀ x q : Nat, 52 ≤ x → x ≤ 60 → h1 x q = h x q
def r_lj (r : Nat) : Bool := m_in r && !((m_W r).2.contains 188) && !((m_W r).2.contains 189) && !((m_W r).2.contains 190) && !((m_W r).2.contains 191)
section LJS
variable {xs : Nat → Int} {L K m n : Nat} {c d : Nat} {h h' h1 h2 : XH} {D D' : DD} {v : List Int} {N : List LX} {x : Int}
theorem LNS.fr2 {b : Nat} (l : LNS b N h) (a : ∀ y q : Nat, b ≤ y → y ≤ b + 8 → h' y q = h y q) : LNS b N h' := ⟨(a _ _ (by omega) (by omega)).trans l.1, l.2.1, fun k y z => ⟨(a _ _ (by omega) (by omega)).trans (l.2.2 k y z).1, (a _ _ (by omega) (by omega)).trans (l.2.2 k y z).2.1, (a _ _ (by omega) (by omega)).trans (l.2.2 k y z).2.2.1, (a _ _ (by omega) (by omega)).trans (l.2.2 k y z).2.2.2⟩⟩
theorem LNR.fr2 {b : Nat} (l : LNR b N h) (a : ∀ q : Nat, h' 191 q = h 191 q) : LNR b N h' := ⟨l.1, fun k y z => by
  obtain ⟨l0, l1, l2, l3⟩ := l.2 k y z
  exact ⟨(a _).trans l0, (a _).trans l1, (a _).trans l2, (a _).trans l3⟩⟩
theorem LJ.fr (l : LJ h) (a : L52 h h') (r : ∀ y q : Nat, y = 188 ∨ y = 189 ∨ y = 190 → h' y q = h y q) (e : ∀ q : Nat, h' 191 q = h 191 q) : LJ h' := by
  obtain ⟨D, N, rf, lv, ln, l0, lr⟩ := l
  exact ⟨D, N, rf.fr3 r, lv, ln.fr2 (fun y q z1 z2 => a y q z1 z2), (e 0).trans l0, lr.fr2 e⟩
theorem CLW.l (cw : CLW h h1) : L52 h h1 := fun x q a b => cw x q (by omega)
theorem LJ.u (l : LJ h) (cw : L52 h h1) (u : RefU h h1) : LJ h1 := l.fr cw (fun y q z => u y q (by omega) (by omega)) (fun q => u 191 q (by decide) (by decide))
theorem LJ.r {r : Nat} {ws_w : List Int} (l : LJ h1) (hr : r_lj r = true) (e : evF xs L g_ck K g_cW g_M n r (182 :: ws_w) ((a_g3, c, d), h1) = some (1, v, ((a_g3, c, d), h2))) : LJ h2 := by
  simp only [r_lj, Bool.and_eq_true, Bool.not_eq_true'] at hr
  obtain ⟨⟨⟨⟨hi_w, f8_w⟩, f9_w⟩, f0_w⟩, f1_w⟩ := hr
  obtain ⟨-, fr⟩ := fr_all n r (182 :: ws_w) _ _ _ _ _ _ hi_w rfl (Or.inr rfl) e
  refine l.fr (fun x q a b => fr x q (fun z => by omega) (fr_lo hi_w (by omega))) (fun y q z => ?_) (fun q => fr 191 q (fun z => absurd z (by decide)) f1_w)
  rcases z with z | z | z
  · subst z
    exact fr 188 q (fun z => absurd z (by decide)) f8_w
  · subst z
    exact fr 189 q (fun z => absurd z (by decide)) f9_w
  · subst z
    exact fr 190 q (fun z => absurd z (by decide)) f0_w
theorem LJ.q {r : Nat} {ws_w : List Int} (l : LJ h) (cw : L52 h h1) (u : RefU h h1) (hr : r_lj r = true) (e : evF xs L g_ck K g_cW g_M n r (182 :: ws_w) ((a_g3, c, d), h1) = some (1, v, ((a_g3, c, d), h2))) : LJ h2 := (l.u cw u).r hr e
theorem lj_run (hI : Inv5 h) (e1_w : evF xs L g_ck K g_cW g_M n 11 [0] ((a_g3, c, d), h) = some (1, v, ((a_g3, c, d), h1))) : L52 h h1 := by
  have lq := hI.1.1.2
  obtain ⟨D, cd, rf, sm_w⟩ := hI.2
  obtain ⟨w, w8, wc, wr_w⟩ := sm_w.pn
  obtain ⟨S, U, M, r, ru, -⟩ := ruh_of lq rf
  have er : h 194 162 = (r : Int) := ru.2.2.2.2.2.2.2.2.1
  have r4 : r ≤ 4 := ru.2.2.2.2.2.2.2.2.2
  have hr : h 70 10 = (r : Int) := by
    have e := sm_w.2.2.1 162 (Or.inr (Or.inr (Or.inr rfl)))
    rw [cl_ru (by omega)] at e
    have e' : h 70 10 = h 194 (0 + 162) := e
    rw [e', Nat.zero_add, er]
  have c11 : CS43 11 [0] h (fun k _ h' => k = 1 → L52 h h') := by
    rw [cs43_11, kk_11]
    exact ⟨w, r, wc, w8, hr, r4, fun y _ x q a b => rfl, fun y x z kx fz _ p q a b => by
      rw [up_ne (by omega), u3_f fz (by omega)]
      exact kx.1 p q (by omega)⟩
  exact (snd_43 n _ _ _ _ _ c11 _ _ _ _ e1_w).2 rfl
theorem lj_mark {t b : Int} (hb_w : b = 0 ∨ b = 1) (e1_w : evF xs L g_ck K g_cW g_M n 48 [0, t, b] ((a_g3, c, d), h) = some (1, v, ((a_g3, c, d), h1))) : L52 h h1 := by
  rcases mark_c hb_w e1_w with ⟨-, -, -, e⟩ | ⟨-, -, -, x, lc, e⟩ | ⟨-, -, -, x, lc, e⟩ | ⟨-, -, ⟨-, -, e⟩ | ⟨-, -, x, lc, e⟩⟩ | ⟨-, -, ⟨-, -, e⟩ | ⟨-, -, x, lc, e⟩⟩
  · exact fun p q a b => by rw [e]
  · exact fun p q a b => by rw [e, up_ne (by omega), lc.1 _ _ (by omega)]
  · exact fun p q a b => by rw [e, up_ne (by omega), lc.1 _ _ (by omega)]
  · exact fun p q a b => by rw [e]
  · exact fun p q a b => by rw [e, up_ne (by omega), lc.1 _ _ (by omega)]
  · exact fun p q a b => by rw [e]
  · exact fun p q a b => by rw [e, up_ne (by omega), lc.1 _ _ (by omega)]
theorem lj_183 {a b e : Int} {v1_w : List Int} (hK2 : 20000000000 ≤ K) (hI : Inv5 h) (y : LJ h) (e1_w : evF xs L g_ck K g_cW g_M (n + 41) 1 [0, a, b, e] ((a_g3, c, d), h) = some (1, v1_w, ((a_g3, c, d), h1))) (e2_w : evF xs L g_ck K g_cW g_M (n + 41) 183 [182, a, b, e] ((a_g3, c, d), h1) = some (1, v, ((a_g3, c, d), h2))) : LJ h2 := by
  obtain ⟨v', h1', h2', q1_w, q2_w, -, q4_w⟩ := feed_i4 (xs := xs) (L := L) (K := K) (n := n + 39) (c := c) (d := d) (a := a) (b := b) (e := e) (by omega) hI.four
  have u : h1' = h1 := by
    have t := q1_w.symm.trans e1_w
    cases t
    rfl
  subst u
  have u : h2' = h2 := by
    have t := q2_w.symm.trans e2_w
    cases t
    rfl
  subst u
  exact y.fr (fun x q a b => q4_w x q (by omega) (by omega) (by omega) (by omega)) (fun x q z => q4_w x q (by omega) (by omega) (by omega) (by omega)) (fun q => q4_w 191 q (by decide) (by decide) (by decide) (by decide))
theorem lj_206 {v1_w : List Int} (hK2 : 20000000000 ≤ K) (hn : n + 41 < 99999) (hI : Inv5 h) (y : LJ h) (e1_w : evF xs L g_ck K g_cW g_M (n + 41) 2 [0] ((a_g3, c, d), h) = some (1, v1_w, ((a_g3, c, d), h1))) (e2_w : evF xs L g_ck K g_cW g_M (n + 41) 206 [182] ((a_g3, c, d), h1) = some (1, v, ((a_g3, c, d), h2))) : LJ h2 := by
  obtain ⟨⟨hI0, hS_w, hW⟩, -⟩ := hI
  obtain ⟨hH, m0_w, m1_w, hm_w⟩ := hI0.1
  obtain ⟨v', h1', q1_w, q2_w, q3_w, q4_w⟩ := grid_ok (xs := xs) (L := L) (K := K) (c := c) (d := d) (n := n + 40) (by omega) (by omega) hH
  have u : h1' = h1 := by
    have t := q1_w.symm.trans e1_w
    cases t
    rfl
  subst u
  have hm2 : h1' 182 2 = (((h 2 1).toNat : Nat) : Int) := by rw [q4_w 182 2 (Nat.le_refl _), hm_w]; omega
  have hb1 : h 2 1 = (((h 2 1).toNat : Nat) : Int) := by omega
  have hb2 : (h 2 1).toNat ≤ 1000 := by omega
  have hb3 : ∀ k : Nat, k < (h 2 1).toNat → 0 ≤ h 3 k ∧ h 3 k ≤ 127 := fun k z => (hS_w k (by omega)).2
  have c206 : CS24 206 [182] h1' (fun k r h' => k = 1 → ∃ N S P V, TOK (h1' 183) (h 2 1).toNat N S P V ∧ ((∃ f, 0 < f ∧ sGrid S P V (h1' 187) 1001 DD0 0 = .error f ∧ KF h1' h' ∧ h' 191 = h1' 191) ∨ (∃ D, sGrid S P V (h1' 187) 1001 DD0 0 = .ok D ∧ RF D h' ∧ h' 191 0 = 0))) := by
    rw [cs24_206, kk_206s]
    refine ⟨_, hm2, by omega, fun r h' ⟨N, S, P, V, a, b⟩ _ => ⟨N, S, P, V, a, ?_⟩⟩
    rcases b with ⟨f, f0_w, b1, -, b2, -, b4, -⟩ | ⟨D, b1, -, b2, b3⟩
    · exact Or.inl ⟨f, f0_w, b1, b2, b4⟩
    · exact Or.inr ⟨D, b1, b2, b3.2.2.1⟩
  obtain ⟨N, S, P, V, tok, er⟩ := (snd_24 (n + 41) _ _ _ _ _ c206 _ _ _ _ e2_w).2 rfl
  have eb : ∀ k : Nat, k < (h 2 1).toNat → h1' 183 k = h 3 k := fun k z => by
    rw [q4_w 183 k (by decide)]
    exact (hS_w k (by omega)).1.symm
  have tok2 : TOK (h 3) (h 2 1).toNat N S P V := tok.eq eb
  have ew : h1' 187 = wl := (funext fun k => q4_w 187 k (by decide)).trans hW
  rw [ew] at er
  have hE : ∀ f, sGrid S P V wl 1001 DD0 0 = .error f → f ≠ 0 := fun f z => by
    rcases er with ⟨f', f0_w, b1, -⟩ | ⟨D, b1, -⟩
    · rw [b1] at z
      cases z
      omega
    · rw [b1] at z
      cases z
  have c2 : CS24 2 [0] h (fun k r h' => k = 1 → ((∃ f, sGrid S P V wl 1001 DD0 0 = .error f ∧ (∀ o k : Nat, 3 ≤ o → ¬ (29 ≤ o ∧ o ≤ 51) → o ≠ 5 → h' o k = h o k)) ∨ (∃ D, sGrid S P V wl 1001 DD0 0 = .ok D ∧ h' 52 4 = 0))) := by
    rw [cs24_2, kk_2s]
    refine ⟨((h 2 1).toNat, N, S, P, V), ?_, ⟨hb1, hb2, hb3⟩, tok2, tok.gd, hE, fun f h' z f1_w f0_w _ _ => Or.inl ⟨f, z, f1_w⟩, fun D h' z _ _ cd' bg _ => Or.inr ⟨D, z, bg.2.1⟩⟩
    have := tok.le
    show N ≤ 1000
    omega
  have ec := (snd_24 (n + 41) _ _ _ _ _ c2 _ _ _ _ e1_w).2 rfl
  obtain ⟨-, fr⟩ := fr_all (n + 41) 206 [182] _ _ _ _ _ _ (by decide) rfl (Or.inr rfl) e2_w
  have lo_w : ∀ o k : Nat, o < 182 → h2 o k = h1' o k := fun o k a => fr o k (fun z => by omega) (fr_lo (by decide) (by omega))
  rcases er with ⟨f, f0_w, b1, b2, b4⟩ | ⟨D', b1, b2, b3⟩
  · rcases ec with ⟨f', z1, z2⟩ | ⟨D', z1, z2⟩
    · obtain ⟨Dy, Ny, rfy, lvy, lny, l0y, lry⟩ := y
      have rf1 : RF Dy h1' := rfy.fr (funext fun k => q4_w 188 k (by decide)) (funext fun k => q4_w 189 k (by decide)) (funext fun k => q4_w 190 k (by decide))
      have e191 : ∀ q : Nat, h2 191 q = h 191 q := fun q => (congrFun b4 q).trans (q4_w 191 q (by decide))
      exact ⟨Dy, Ny, rf1.kf b2, lvy, lny.fr2 (fun o k a b => (lo_w o k (by omega)).trans (z2 o k (by omega) (by omega) (by omega))), (e191 0).trans l0y, lry.fr2 e191⟩
    · rw [b1] at z1
      cases z1
  · rcases ec with ⟨f', z1, -⟩ | ⟨D2, z1, z2⟩
    · rw [b1] at z1
      cases z1
    · exact ⟨D', [], b2, fun x hx => (by cases hx), ⟨(lo_w _ _ (by decide)).trans z2, by decide, fun k x z => by cases z⟩, b3, ⟨by decide, fun k x z => by cases z⟩⟩
theorem lj_214 {v1_w : List Int} (hK2 : 20000000000 ≤ K) (hn : n + 41 < 99999) (hI : Inv5 h) (y : LJ h) (e1_w : evF xs L g_ck K g_cW g_M (n + 41) 4 [0] ((a_g3, c, d), h) = some (1, v1_w, ((a_g3, c, d), h1))) (e2_w : evF xs L g_ck K g_cW g_M (n + 41) 214 [182] ((a_g3, c, d), h1) = some (1, v, ((a_g3, c, d), h2))) : LJ h2 := by
  obtain ⟨⟨hI0, hS_w, hW⟩, D, cd, rf, sm_w⟩ := hI
  obtain ⟨hH, m0_w, m1_w, hm_w⟩ := hI0.1
  obtain ⟨v', h1', q1_w, q2_w, q3_w, q4_w⟩ := work_ok (xs := xs) (L := L) (K := K) (c := c) (d := d) (n := n + 40) (by omega) (by omega) hH
  have u : h1' = h1 := by
    have t := q1_w.symm.trans e1_w
    cases t
    rfl
  subst u
  have hm2 : h1' 182 2 = (((h 2 1).toNat : Nat) : Int) := by rw [q4_w 182 2 (Nat.le_refl _), hm_w]; omega
  have hb1 : h 2 1 = (((h 2 1).toNat : Nat) : Int) := by omega
  have hb2 : (h 2 1).toNat ≤ 1000 := by omega
  have hb3 : ∀ k : Nat, k < (h 2 1).toNat → 0 ≤ h 3 k ∧ h 3 k ≤ 127 := fun k z => (hS_w k (by omega)).2
  have rf1 : RF D h1' := rf.fr (funext fun k => q4_w 188 k (by decide)) (funext fun k => q4_w 189 k (by decide)) (funext fun k => q4_w 190 k (by decide))
  have c214 : CS28 214 [182] h1' (fun k r h' => k = 1 → Fr ([0, 2, 3, 7, 8], [184, 185, 186, 191]) h1' h' ∧ ∃ N S P V, TOK (h1' 183) (h 2 1).toNat N S P V ∧ ((∃ f, 0 < f ∧ sWork S P V (h1' 187) D 32 [] 0 = .error f ∧ ∀ q : Nat, q < 125 → h' 191 q = h1' 191 q) ∨ (∃ L, sWork S P V (h1' 187) D 32 [] 0 = .ok L ∧ h' 191 0 = (L.length : Int) ∧ LNR 1 L h'))) := by
    rw [cs28_214, kk_214]
    refine ⟨_, D, hm2, by omega, rf1, fun r h' fr ⟨N, S, P, V, a, b⟩ _ => ⟨fr, N, S, P, V, a, ?_⟩⟩
    rcases b with ⟨f, f0_w, b1, b2, b3⟩ | ⟨L, b1, b2, b3, b4⟩
    · exact Or.inl ⟨f, f0_w, b1, b3⟩
    · exact Or.inr ⟨L, b1, b3, b4⟩
  obtain ⟨fr, N, S, P, V, tok, er⟩ := (snd_28 (n + 41) _ _ _ _ _ c214 _ _ _ _ e2_w).2 rfl
  have eb : ∀ k : Nat, k < (h 2 1).toNat → h1' 183 k = h 3 k := fun k z => by
    rw [q4_w 183 k (by decide)]
    exact (hS_w k (by omega)).1.symm
  have tok2 : TOK (h 3) (h 2 1).toNat N S P V := tok.eq eb
  have ew : h1' 187 = wl := (funext fun k => q4_w 187 k (by decide)).trans hW
  rw [ew] at er
  have hE : ∀ f, sWork S P V wl D 32 [] 0 = .error f → f ≠ 0 := fun f z => by
    rcases er with ⟨f', f0_w, b1, -⟩ | ⟨L, b1, -⟩
    · rw [b1] at z
      cases z
      omega
    · rw [b1] at z
      cases z
  have c4 : CS28 4 [0] h (fun k r h' => k = 1 → ((∃ f, sWork S P V wl D 32 [] 0 = .error f ∧ L52 h h') ∨ (∃ L, sWork S P V wl D 32 [] 0 = .ok L ∧ LNS 52 L h'))) := by
    rw [cs28_4, kk_4]
    refine ⟨((h 2 1).toNat, N, S, P, V), D, ?_, ⟨hb1, hb2, hb3⟩, tok2, cd, hE, fun f h' z f1_w a1_w a2 _ _ => Or.inl ⟨f, z, fun o q b1 b2 => ?_⟩, fun L h' z f1_w ln _ _ => Or.inr ⟨L, z, ln⟩⟩
    · have := tok.le
      show N ≤ 1000
      omega
    · by_cases y1 : o = 52
      · subst y1
        exact a1_w q
      · by_cases y2 : o = 54 ∨ o = 56 ∨ o = 58 ∨ o = 60
        · exact a2 o q y2
        · exact f1_w o q (by omega)
  have ec := (snd_28 (n + 41) _ _ _ _ _ c4 _ _ _ _ e1_w).2 rfl
  have lo_w : ∀ o k : Nat, o < 182 → h2 o k = h1' o k := fun o k a => fr o k (fun z => by omega) (by
    rw [List.contains_eq_mem, decide_eq_false_iff_not]
    simp only [List.mem_cons, List.not_mem_nil, or_false]
    omega)
  have rf2 : RF D h2 := rf1.fr (fr.row rfl (by decide)) (fr.row rfl (by decide)) (fr.row rfl (by decide))
  rcases er with ⟨f, f0_w, b1, b2⟩ | ⟨M, b1, b2, b3⟩
  · rcases ec with ⟨f', z1, z2⟩ | ⟨M', z1, -⟩
    · obtain ⟨Dy, Ny, rfy, lvy, lny, l0y, lry⟩ := y
      have rfy1 : RF Dy h1' := rfy.fr (funext fun k => q4_w 188 k (by decide)) (funext fun k => q4_w 189 k (by decide)) (funext fun k => q4_w 190 k (by decide))
      have rfy2 : RF Dy h2 := rfy1.fr (fr.row rfl (by decide)) (fr.row rfl (by decide)) (fr.row rfl (by decide))
      have e191 : ∀ q : Nat, q < 125 → h2 191 q = h 191 q := fun q z => (b2 q z).trans (q4_w 191 q (by decide))
      refine ⟨Dy, Ny, rfy2, lvy, lny.fr2 (fun o k a b => (lo_w o k (by omega)).trans (z2 o k a b)), (e191 0 (by decide)).trans l0y, lry.1, fun k x z => ?_⟩
      obtain ⟨t0_w, t1_w, t2_w, t3_w⟩ := lry.2 k x z
      have lk_w := (List.getElem?_eq_some_iff.mp z).1
      have l30 := lry.1
      exact ⟨(e191 _ (by omega)).trans t0_w, (e191 _ (by omega)).trans t1_w, (e191 _ (by omega)).trans t2_w, (e191 _ (by omega)).trans t3_w⟩
    · rw [b1] at z1
      cases z1
  · rcases ec with ⟨f', z1, -⟩ | ⟨M', z1, z2⟩
    · rw [b1] at z1
      cases z1
    · rw [b1] at z1
      cases z1
      exact ⟨D, M, rf2, sWork_v rf.w 32 [] 0 (fun x hx => by cases hx) b1, z2.fr2 (fun o k a b => lo_w o k (by omega)), b2, b3⟩
theorem LVs.cg (l : LVs D N) (e1_w : nM D' = nM D) (e2_w : nU D' = nU D) (e3_w : nS D' = nS D) : LVs D' N := fun x hx => by
  have t := l x hx
  unfold LV at t ⊢
  rw [e1_w, e2_w, e3_w]
  exact t
theorem judged_c : AskC LJ xs L K m n 13 273 [0, x] [x] := by
  intro c d c' d' h hX h1 h2 D kk g r1_w v2 lj cd rf sm_w lq hz e1_w e2_w
  obtain ⟨D', N, rf', lv', ln, l0, lr⟩ := lj
  have sp_w := setp_of cd rf sm_w lq
  have fe := FEB_of lq rf
  have rp := (rset_of rf sm_w lq).fr (fun o k a b => hz o k (by omega) (by omega))
  have n3_w : h 188 3 = (nM D : Int) := rf.ix.1.2.2.1
  have n3' : h 188 3 = (nM D' : Int) := rf'.ix.1.2.2.1
  have n2_w : h 188 2 = (nU D : Int) := rf.ix.1.2.1
  have n2'_w : h 188 2 = (nU D' : Int) := rf'.ix.1.2.1
  have n0_w : h 188 0 = (nS D : Int) := rf.ix.2.1.1.trans rf.w.cn.2.2.2.2
  have n0' : h 188 0 = (nS D' : Int) := rf'.ix.2.1.1.trans rf'.w.cn.2.2.2.2
  have lv : LVs D N := lv'.cg (by omega) (by omega) (by omega)
  have e191 : ∀ q : Nat, h1 191 q = h 191 q := fun q => hz 191 q (by decide) (by decide)
  have c1_w : CS96 13 [0, x] h (fun k r _ => (k = 4 → ¬ (0 ≤ x ∧ x ≤ 2)) ∧ (k = 1 → (0 ≤ x ∧ x ≤ 2) ∧ r = [jdV D N x])) := by
    rw [cs96_13, kk_13w]
    exact ⟨D, N, sp_w, fe, ln, lv, fun a => ⟨fun _ => a, fun b => absurd b (by decide)⟩, fun a h' => ⟨fun b => absurd b (by decide), fun _ => ⟨a, rfl⟩⟩⟩
  have c2 : CS96 273 [182, x] h1 (fun k r h' => k = 1 → (¬ (0 ≤ x ∧ x ≤ 2) → h' 182 0 = 1) ∧ (0 ≤ x ∧ x ≤ 2 → h' 182 0 = 0 ∧ r = [jdV D N x])) := by
    rw [cs96_273, kk_273w]
    exact ⟨D, N, rp, fe, (e191 0).trans l0, lr.fr2 e191, lv, fun a _ => ⟨fun _ => up_eq, fun b => absurd b a⟩, fun a h' t _ => ⟨fun b => absurd a b, fun _ => ⟨t, rfl⟩⟩⟩
  have s1_w := (snd_96 m _ _ _ _ _ c1_w _ _ _ _ e1_w).2
  have s2_w := (snd_96 n _ _ _ _ _ c2 _ _ _ _ e2_w).2 rfl
  refine ⟨fun k4 => s2_w.1 (s1_w.1 k4), fun k1_w => ?_⟩
  obtain ⟨o1, e3_w⟩ := s1_w.2 k1_w
  obtain ⟨t, e4_w⟩ := s2_w.2 o1
  exact ⟨t, e3_w.trans e4_w.symm⟩
end LJS
def Inv8 (h : XH) : Prop := Inv5 h ∧ LJ h
theorem inv8_i0 : Inv8 i0 := by
  obtain ⟨D, cd, rf, sm_w⟩ := inv5_i0.2
  have a1_w : i0 52 4 = 0 := by decide +kernel
  have a2 : i0 191 0 = 0 := by decide +kernel
  exact ⟨inv5_i0, D, [], rf, fun x hx => (by cases hx), ⟨a1_w, by decide, fun k x z => by cases z⟩, a2, ⟨by decide, fun k x z => by cases z⟩⟩
