/-! ===== feed: the calls ===== -/
section FEED3
variable {xs : Nat → Int} {L K : Nat} {ck : Nat → List Nat} {F : XP} {cW : Nat → Nat → Int}
theorem evF_s {M : Nat → XM} {n f : Nat} {av : List Int} {st : XT} : evF xs L ck K cW M (n + 1) f av st = (evS xs L ck (evF xs L ck K cW M n) K cW (M f).2.2.2.2 (j_pad 0 (M f).2.1 (j_lay (M f).2.2.1 av)) st).bind fun r =>
      if (r.1 = 1 ∨ r.1 = 4) ∧ st.1.2.1 ≤ r.2.2.2.1.2.1 ∧ st.1.2.2 ≤ r.2.2.2.1.2.2 ∧ (st.1.1.map (·.1)).isPrefixOf (r.2.2.2.1.1.map (·.1)) = true then some (r.1, r.2.1, r.2.2.2) else none := rfl
theorem chk_self {g : XS × Nat × Nat} : ((1 : Nat) = 1 ∨ (1 : Nat) = 4) ∧ g.2.1 ≤ g.2.1 ∧ g.2.2 ≤ g.2.2 ∧ (g.1.map (·.1)).isPrefixOf (g.1.map (·.1)) = true := ⟨Or.inl rfl, Nat.le_refl _, Nat.le_refl _, List.isPrefixOf_iff_prefix.mpr (List.prefix_refl _)⟩
theorem gm_a : g_M 62 = (0, 6, [19, 2], [], bb_62) := rfl
theorem gm_m : g_M 184 = (0, 5, [20, 2], [], bb_184) := rfl
theorem gm_f : g_M 1 = (0, 7, [10, 2, 2, 2], [1], bb_1) := rfl
theorem gm_g : g_M 183 = (0, 7, [20, 2, 2, 2], [1], bb_183) := rfl
theorem adA {n : Nat} {o v sr m : Int} {g : XS × Nat × Nat} {h : XH} (hr : j_rf g.1 o.toNat 0 = some sr) (hl : j_len g.1 sr.toNat = 1000) (hne : sr.toNat ≠ o.toNat) (hm : h o.toNat 1 = m) (h0 : 0 ≤ m) (h1 : m + 8 ≤ 1000) :
    ∃ hh, evF xs L ck 2000 cW g_M (n + 1) 62 [o, v] (g, h) = some (1, [], (g, hh)) ∧ hh o.toNat 1 = m + fcnt v 8 ∧ ∀ a b, a ≠ sr.toNat → ¬ (a = o.toNat ∧ b = 1) → hh a b = h a b := by
  obtain ⟨en, hh, e1, e2, e3⟩ := lpA (xs := xs) (L := L) (K := 2000) (ck := ck) (cW := cW) (F := evF xs L ck 2000 cW g_M n) (v := v) (w := 0) hr hl hne 8 2000 0 0 m h (by omega) (by omega) hm h0 h1
  refine ⟨hh, ?_, e2, e3⟩
  rw [evF_s, gm_a]
  have k1 : evS xs L ck (evF xs L ck 2000 cW g_M n) 2000 cW bb_62 [o, v, 0, 0, 0, 0] (g, h) = some (1, [], en, (g, hh)) := by
    rw [fd_a, es_2, es_17, es_20, es_2, es_3, es_12, ee_1]
    unfold s_seq
    dsimp only
    simp only [Option.bind_some, if_true]
    have e4 : [o, v, 0, 0, 0, 0].set (sx_n (sv 3)) (j_hd [if sx_n z0 = 0 then (sx_n (sv 56) : Int) else -(sx_n (sv 56) : Int)]) = [o, v, 0, 8 * ((8 : Nat) : Int) - 8, 0, 0] := rfl
    rw [e4, e1]
    rfl
  show (evS xs L ck (evF xs L ck 2000 cW g_M n) 2000 cW bb_62 [o, v, 0, 0, 0, 0] (g, h)).bind _ = _
  rw [k1, Option.bind_some]
  exact if_pos chk_self
theorem adM {n : Nat} {o v sr m : Int} {g : XS × Nat × Nat} {h : XH} (hr : j_rf g.1 o.toNat 1 = some sr) (hl : j_len g.1 sr.toNat = 1000) (hne : sr.toNat ≠ o.toNat) (hm : h o.toNat 2 = m) (h0 : 0 ≤ m) (h1 : m + 8 ≤ 1000) :
    ∃ hh, evF xs L ck 2000 cW g_M (n + 1) 184 [o, v] (g, h) = some (1, [], (g, hh)) ∧ hh o.toNat 2 = m + fcnt v 8 ∧ ∀ a b, a ≠ sr.toNat → ¬ (a = o.toNat ∧ b = 2) → hh a b = h a b := by
  obtain ⟨en, hh, e1, e2, e3⟩ := lpM (xs := xs) (L := L) (K := 2000) (ck := ck) (cW := cW) (F := evF xs L ck 2000 cW g_M n) (v := v) (w := 0) hr hl hne 8 2000 0 m h (by omega) (by omega) hm h0 h1
  refine ⟨hh, ?_, e2, e3⟩
  rw [evF_s, gm_m]
  have k1 : evS xs L ck (evF xs L ck 2000 cW g_M n) 2000 cW bb_184 [o, v, 0, 0, 0] (g, h) = some (1, [], en, (g, hh)) := by
    rw [fd_m, es_2, es_17, es_20, es_2, es_3, es_12, ee_1]
    unfold s_seq
    dsimp only
    simp only [Option.bind_some, if_true]
    have e4 : [o, v, 0, 0, 0].set (sx_n (sv 3)) (j_hd [if sx_n z0 = 0 then (sx_n (sv 56) : Int) else -(sx_n (sv 56) : Int)]) = [o, v, 0, 8 * ((8 : Nat) : Int) - 8, 0] := rfl
    rw [e4, e1]
    rfl
  show (evS xs L ck (evF xs L ck 2000 cW g_M n) 2000 cW bb_184 [o, v, 0, 0, 0] (g, h)).bind _ = _
  rw [k1, Option.bind_some]
  exact if_pos chk_self
theorem feA {n : Nat} {x rr o sr m a b c : Int} {g : XS × Nat × Nat} {h : XH} (hx1 : j_rf g.1 x.toNat 0 = some rr) (hx2 : j_rf g.1 rr.toNat 0 = some o) (hr : j_rf g.1 o.toNat 0 = some sr) (hl : j_len g.1 sr.toNat = 1000) (hne : sr.toNat ≠ o.toNat) (hm : h o.toNat 1 = m) (h0 : 0 ≤ m) (h1 : m + 24 ≤ 1000) :
    ∃ hh, evF xs L ck 2000 cW g_M (n + 2) 1 [x, a, b, c] (g, h) = some (1, [m + fcnt a 8 + fcnt b 8 + fcnt c 8], (g, hh)) ∧ ∀ a b, a ≠ sr.toNat → ¬ (a = o.toNat ∧ b = 1) → hh a b = h a b := by
  have ha := fcnt_le (v := a) 8
  have hb := fcnt_le (v := b) 8
  obtain ⟨h2, e1, m1, f1⟩ := adA (xs := xs) (L := L) (ck := ck) (cW := cW) (n := n) (v := a) hr hl hne hm h0 (by omega)
  obtain ⟨h3, e2, m2, f2⟩ := adA (xs := xs) (L := L) (ck := ck) (cW := cW) (n := n) (v := b) hr hl hne m1 (by omega) (by omega)
  obtain ⟨h4, e3, m3, f3⟩ := adA (xs := xs) (L := L) (ck := ck) (cW := cW) (n := n) (v := c) hr hl hne m2 (by omega) (by omega)
  refine ⟨h4, ?_, fun p q r s => (f3 p q r s).trans ((f2 p q r s).trans (f1 p q r s))⟩
  rw [evF_s, gm_f]
  have k1 : evS xs L ck (evF xs L ck 2000 cW g_M (n + 1)) 2000 cW bb_1 [x, a, 0, b, 0, c, 0] (g, h) = some (1, [m + fcnt a 8 + fcnt b 8 + fcnt c 8], [x, a, 0, b, 0, c, 0], (g, h4)) := by
    generalize evF xs L ck 2000 cW g_M (n + 1) = F at e1 e2 e3 ⊢
    unfold bb_1
    simp only [es_2, es_9, es_16, ee_32, ee_30, ee_31, ee_5, ee_4, ee_3, s_seq, n_call, Option.bind_some, j_hd, List.headD_cons, n_sv, n_z0, List.getD_cons_zero, List.getD_cons_succ, hx1, hx2, List.cons_append, List.nil_append, e1, e2, e3, if_true, m3]
  show (evS xs L ck (evF xs L ck 2000 cW g_M (n + 1)) 2000 cW bb_1 [x, a, 0, b, 0, c, 0] (g, h)).bind _ = _
  rw [k1, Option.bind_some]
  exact if_pos chk_self
theorem feM {n : Nat} {o sr m a b c : Int} {g : XS × Nat × Nat} {h : XH} (hr : j_rf g.1 o.toNat 1 = some sr) (hl : j_len g.1 sr.toNat = 1000) (hne : sr.toNat ≠ o.toNat) (hm : h o.toNat 2 = m) (h0 : 0 ≤ m) (h1 : m + 24 ≤ 1000) :
    ∃ hh, evF xs L ck 2000 cW g_M (n + 2) 183 [o, a, b, c] (g, h) = some (1, [m + fcnt a 8 + fcnt b 8 + fcnt c 8], (g, hh)) := by
  have ha := fcnt_le (v := a) 8
  have hb := fcnt_le (v := b) 8
  have hm0 : j_up h o.toNat 0 ((0 : Nat) : Int) o.toNat 2 = m := by rw [up_ne (fun z => absurd z.2 (by decide)), hm]
  obtain ⟨h2, e1, m1, f1⟩ := adM (xs := xs) (L := L) (ck := ck) (cW := cW) (n := n) (v := a) hr hl hne hm0 h0 (by omega)
  obtain ⟨h3, e2, m2, f2⟩ := adM (xs := xs) (L := L) (ck := ck) (cW := cW) (n := n) (v := b) hr hl hne m1 (by omega) (by omega)
  obtain ⟨h4, e3, m3, f3⟩ := adM (xs := xs) (L := L) (ck := ck) (cW := cW) (n := n) (v := c) hr hl hne m2 (by omega) (by omega)
  refine ⟨h4, ?_⟩
  rw [evF_s, gm_g]
  have k1 : evS xs L ck (evF xs L ck 2000 cW g_M (n + 1)) 2000 cW bb_183 [o, a, 0, b, 0, c, 0] (g, h) = some (1, [m + fcnt a 8 + fcnt b 8 + fcnt c 8], [o, a, 0, b, 0, c, 0], (g, h4)) := by
    generalize evF xs L ck 2000 cW g_M (n + 1) = F at e1 e2 e3 ⊢
    unfold bb_183
    simp only [es_2, es_5, es_9, es_16, s_putf, ee_32, ee_30, ee_31, ee_5, ee_4, ee_3, ee_1, s_seq, n_call, Option.bind_some, j_hd, List.headD_cons, n_sv, n_z0, List.getD_cons_zero, List.getD_cons_succ, List.cons_append, List.nil_append, if_true, e1, e2, e3, m3]
  show (evS xs L ck (evF xs L ck 2000 cW g_M (n + 1)) 2000 cW bb_183 [o, a, 0, b, 0, c, 0] (g, h)).bind _ = _
  rw [k1, Option.bind_some]
  exact if_pos chk_self
end FEED3
