/-! ===== the tape: what feed adds, whatever its length ===== -/
section TAPE
variable {xs : Nat → Int} {L K : Nat} {ck : Nat → List Nat} {F : XP} {cW : Nat → Nat → Int}
def clG (m s : Int) : Int := if rdB s = 1 ∧ m < 1000 then m + 1 else m
/-- the tape's length when the last j of a number's eight signs are added -/
def fcl (v : Int) : Nat → Int → Int
  | 0, m => m
  | j + 1, m => fcl v j (clG m (sgC v (8 * (j : Int))))
theorem clG_in {m s : Int} (h : 0 ≤ m ∧ m ≤ 1000) : 0 ≤ clG m s ∧ clG m s ≤ 1000 := by
  unfold clG
  split <;> omega
theorem fcl_in {v : Int} : ∀ (j : Nat) {m : Int}, 0 ≤ m ∧ m ≤ 1000 → 0 ≤ fcl v j m ∧ fcl v j m ≤ 1000
  | 0, _, h => h
  | j + 1, _, h => fcl_in j (clG_in h)
theorem clG_lt {m s : Int} (h : m < 1000) : clG m s = m + rdB s := by
  unfold clG
  rcases rdB_01 s with e | e <;> rw [e] <;> simp [h]
theorem clG_ge {m s : Int} (h : ¬ m < 1000) : clG m s = m := if_neg (fun k => h k.2)
theorem itA1 {v o w k s4 s5 sr m : Int} {st : XT} (hr : j_rf st.1.1 o.toNat 0 = some sr) (hl : j_len st.1.1 sr.toNat = 1000) (hm : st.2 o.toNat 1 = m) (h0 : 0 ≤ m) (h1 : ¬ m < 1000) :
    evS xs L ck F K cW fdB [o, v, w, k, s4, s5] st = some (0, [], [o, v, w, k, sgC v k, rdB (sgC v k)], st) := by
  have e1 : (evE xs L ck F cW fdR [o, v, w, k, sgC v k, s5] st) = some ([rdB (sgC v k)], st) := rd_ev rfl
  unfold fdB
  simp only [es_20, es_2, es_3, es_10, s_seq, s_if, ee_14, ee_18, ee_16, ee_3, ee_1, n_bin, Option.bind_some, j_hd, List.headD_cons, n_sv, n_z0, List.getD_cons_zero, List.getD_cons_succ, List.set_cons_succ, List.set_cons_zero, if_true]
  have e0 : j_iop 3 (j_un 3 (j_lsh 2 v k)) ((255 : Nat) : Int) = sgC v k := rfl
  rw [e0, e1]
  simp only [Option.bind_some, j_hd, List.headD_cons, List.set_cons_succ, List.set_cons_zero, if_true, ee_25, ee_24, ee_3, n_ife, n_nz, ee_21, ee_20, ee_4, ee_10, ee_5, n_cmp, n_alen, n_sv, n_z0, List.getD_cons_zero, List.getD_cons_succ, hm, hr, hl, j_cmp]
  rcases rdB_01 (sgC v k) with e | e <;> rw [e] <;> simp [h0, h1, j_b, hr, hl, hm]
theorem itM1 {v o w k s4 m : Int} {st : XT} (hm : st.2 o.toNat 2 = m) (h1 : ¬ m < 1000) :
    evS xs L ck F K cW fmB [o, v, w, k, s4] st = some (0, [], [o, v, w, k, sgM v k], st) := by
  have e1 : (evE xs L ck F cW fdR [o, v, w, k, sgM v k] st) = some ([rdB (sgM v k)], st) := rd_ev rfl
  unfold fmB
  simp only [es_20, es_2, es_3, es_10, s_seq, s_if, ee_14, ee_18, ee_16, ee_3, ee_1, n_bin, Option.bind_some, j_hd, List.headD_cons, n_sv, n_z0, List.getD_cons_zero, List.getD_cons_succ, List.set_cons_succ, List.set_cons_zero, if_true]
  have e0 : j_iop 3 (j_un 3 (j_lsh 1 v k)) ((255 : Nat) : Int) = sgM v k := rfl
  rw [e0, ee_25, n_ife, e1]
  simp only [Option.bind_some, j_hd, List.headD_cons, n_nz, ee_20, ee_4, ee_3, ee_1, n_cmp, n_sv, n_z0, List.getD_cons_zero, List.getD_cons_succ, hm, j_cmp, if_true]
  rcases rdB_01 (sgM v k) with e | e <;> rw [e] <;> simp [h1, j_b]
/-- what a change of the tape keeps -/
def KpA (o sr : Nat) (P : XH → Prop) : Prop := ∀ h m s, P h → P (upA h o sr m s)
def KpM (o sr : Nat) (P : XH → Prop) : Prop := ∀ h m s, InI s → P h → P (upM h o sr m s)
theorem lqA {v o w sr : Int} {g : XS × Nat × Nat} (hr : j_rf g.1 o.toNat 0 = some sr) (hl : j_len g.1 sr.toNat = 1000) (hne : sr.toNat ≠ o.toNat) : ∀ (j fuel : Nat) (s4 s5 m : Int) (h : XH), j ≤ 8 → j + 1 ≤ fuel → h o.toNat 1 = m → 0 ≤ m ∧ m ≤ 1000 →
    ∃ en hh, s_loop (evE xs L ck F cW fdC) (evS xs L ck F K cW fdB) (evS xs L ck F K cW fdP) fuel [o, v, w, 8 * (j : Int) - 8, s4, s5] (g, h) = some (0, [], en, (g, hh)) ∧ hh o.toNat 1 = fcl v j m ∧ ∀ P, KpA o.toNat sr.toNat P → P h → P hh
  | 0, fuel, s4, s5, m, h, _, hf, hm, _ => by
    obtain ⟨f, rfl⟩ : ∃ f, fuel = f + 1 := ⟨fuel - 1, by omega⟩
    refine ⟨[o, v, w, 8 * ((0 : Nat) : Int) - 8, s4, s5], h, ?_, hm, fun _ _ k => k⟩
    unfold s_loop
    rw [fdC_ev, Option.bind_some]
    exact if_pos rfl
  | j + 1, fuel, s4, s5, m, h, hj, hf, hm, h0 => by
    obtain ⟨f, rfl⟩ : ∃ f, fuel = f + 1 := ⟨fuel - 1, by omega⟩
    have ek : 8 * ((j + 1 : Nat) : Int) - 8 = 8 * (j : Int) := by omega
    rw [ek]
    obtain ⟨h', hb, hu, hP⟩ : ∃ h', evS xs L ck F K cW fdB [o, v, w, 8 * (j : Int), s4, s5] (g, h) = some (0, [], [o, v, w, 8 * (j : Int), sgC v (8 * (j : Int)), rdB (sgC v (8 * (j : Int)))], (g, h')) ∧ h' o.toNat 1 = clG m (sgC v (8 * (j : Int))) ∧ ∀ P, KpA o.toNat sr.toNat P → P h → P h' := by
      by_cases h1 : m < 1000
      · refine ⟨_, itA (xs := xs) (L := L) (ck := ck) (F := F) (K := K) (cW := cW) (v := v) (w := w) (k := 8 * (j : Int)) (s4 := s4) (s5 := s5) (st := (g, h)) hr hl hm h0.1 h1 hne, ?_, fun P k p => k _ _ _ p⟩
        rw [clG_lt h1]
        exact (upA_m h0.1 h1 hm).1
      · refine ⟨h, itA1 (st := (g, h)) hr hl hm h0.1 h1, ?_, fun P k p => p⟩
        rw [clG_ge h1]
        exact hm
    obtain ⟨en, hh, e1, e2, e3⟩ := lqA hr hl hne j f (sgC v (8 * (j : Int))) (rdB (sgC v (8 * (j : Int)))) _ h' (by omega) (by omega) hu (clG_in h0)
    refine ⟨en, hh, ?_, e2, fun P k p => e3 P k (hP P k p)⟩
    unfold s_loop
    rw [fdC_ev, Option.bind_some]
    dsimp only
    rw [decide_eq_true (show 8 * (j : Int) ≥ 0 by omega)]
    refine (if_neg (by decide)).trans ?_
    rw [hb, Option.bind_some]
    refine (if_pos (Or.inl rfl)).trans ?_
    dsimp only
    rw [fdP_ev, Option.bind_some]
    refine (if_pos rfl).trans ?_
    dsimp only
    rw [j32_8 (by omega)]
    exact e1
theorem lqM {v o w sr : Int} {g : XS × Nat × Nat} (hr : j_rf g.1 o.toNat 1 = some sr) (hl : j_len g.1 sr.toNat = 1000) (hne : sr.toNat ≠ o.toNat) : ∀ (j fuel : Nat) (s4 m : Int) (h : XH), j ≤ 8 → j + 1 ≤ fuel → h o.toNat 2 = m → 0 ≤ m ∧ m ≤ 1000 →
    ∃ en hh, s_loop (evE xs L ck F cW fdC) (evS xs L ck F K cW fmB) (evS xs L ck F K cW fdP) fuel [o, v, w, 8 * (j : Int) - 8, s4] (g, h) = some (0, [], en, (g, hh)) ∧ hh o.toNat 2 = fcl v j m ∧ ∀ P, KpM o.toNat sr.toNat P → P h → P hh
  | 0, fuel, s4, m, h, _, hf, hm, _ => by
    obtain ⟨f, rfl⟩ : ∃ f, fuel = f + 1 := ⟨fuel - 1, by omega⟩
    refine ⟨[o, v, w, 8 * ((0 : Nat) : Int) - 8, s4], h, ?_, hm, fun _ _ k => k⟩
    unfold s_loop
    rw [fdC_ev, Option.bind_some]
    exact if_pos rfl
  | j + 1, fuel, s4, m, h, hj, hf, hm, h0 => by
    obtain ⟨f, rfl⟩ : ∃ f, fuel = f + 1 := ⟨fuel - 1, by omega⟩
    have ek : 8 * ((j + 1 : Nat) : Int) - 8 = 8 * (j : Int) := by omega
    rw [ek]
    obtain ⟨h', hb, hu, hP⟩ : ∃ h', evS xs L ck F K cW fmB [o, v, w, 8 * (j : Int), s4] (g, h) = some (0, [], [o, v, w, 8 * (j : Int), sgM v (8 * (j : Int))], (g, h')) ∧ h' o.toNat 2 = clG m (sgC v (8 * (j : Int))) ∧ ∀ P, KpM o.toNat sr.toNat P → P h → P h' := by
      rw [sg_all v j (by omega)]
      by_cases h1 : m < 1000
      · refine ⟨_, itM (xs := xs) (L := L) (ck := ck) (F := F) (K := K) (cW := cW) (v := v) (w := w) (k := 8 * (j : Int)) (s4 := s4) (st := (g, h)) hr hl hm h0.1 h1 hne, ?_, fun P k p => k _ _ _ (iop_in _ _ _) p⟩
        rw [clG_lt h1]
        exact (upM_m h0.1 h1 hm).1
      · refine ⟨h, itM1 (st := (g, h)) hm h1, ?_, fun P k p => p⟩
        rw [clG_ge h1]
        exact hm
    obtain ⟨en, hh, e1, e2, e3⟩ := lqM hr hl hne j f (sgM v (8 * (j : Int))) _ h' (by omega) (by omega) hu (clG_in h0)
    refine ⟨en, hh, ?_, e2, fun P k p => e3 P k (hP P k p)⟩
    unfold s_loop
    rw [fdC_ev, Option.bind_some]
    dsimp only
    rw [decide_eq_true (show 8 * (j : Int) ≥ 0 by omega)]
    refine (if_neg (by decide)).trans ?_
    rw [hb, Option.bind_some]
    refine (if_pos (Or.inl rfl)).trans ?_
    dsimp only
    rw [fdP_ev, Option.bind_some]
    refine (if_pos rfl).trans ?_
    dsimp only
    rw [j32_8 (by omega)]
    exact e1
theorem aqA {n : Nat} (hK : 9 ≤ K) {o v sr m : Int} {g : XS × Nat × Nat} {h : XH} (hr : j_rf g.1 o.toNat 0 = some sr) (hl : j_len g.1 sr.toNat = 1000) (hne : sr.toNat ≠ o.toNat) (hm : h o.toNat 1 = m) (h0 : 0 ≤ m ∧ m ≤ 1000) :
    ∃ hh, evF xs L ck K cW g_M (n + 1) 62 [o, v] (g, h) = some (1, [], (g, hh)) ∧ hh o.toNat 1 = fcl v 8 m ∧ ∀ P, KpA o.toNat sr.toNat P → P h → P hh := by
  obtain ⟨en, hh, e1, e2, e3⟩ := lqA (xs := xs) (L := L) (K := K) (ck := ck) (cW := cW) (F := evF xs L ck K cW g_M n) (v := v) (w := 0) hr hl hne 8 K 0 0 m h (by omega) hK hm h0
  refine ⟨hh, ?_, e2, e3⟩
  rw [evF_s, gm_a]
  have k1 : evS xs L ck (evF xs L ck K cW g_M n) K cW bb_62 [o, v, 0, 0, 0, 0] (g, h) = some (1, [], en, (g, hh)) := by
    rw [fd_a, es_2, es_17, es_20, es_2, es_3, es_12, ee_1]
    unfold s_seq
    dsimp only
    simp only [Option.bind_some, if_true]
    have e4 : [o, v, 0, 0, 0, 0].set (sx_n (sv 3)) (j_hd [if sx_n z0 = 0 then (sx_n (sv 56) : Int) else -(sx_n (sv 56) : Int)]) = [o, v, 0, 8 * ((8 : Nat) : Int) - 8, 0, 0] := rfl
    rw [e4, e1]
    rfl
  show (evS xs L ck (evF xs L ck K cW g_M n) K cW bb_62 [o, v, 0, 0, 0, 0] (g, h)).bind _ = _
  rw [k1, Option.bind_some]
  exact if_pos chk_self
theorem aqM {n : Nat} (hK : 9 ≤ K) {o v sr m : Int} {g : XS × Nat × Nat} {h : XH} (hr : j_rf g.1 o.toNat 1 = some sr) (hl : j_len g.1 sr.toNat = 1000) (hne : sr.toNat ≠ o.toNat) (hm : h o.toNat 2 = m) (h0 : 0 ≤ m ∧ m ≤ 1000) :
    ∃ hh, evF xs L ck K cW g_M (n + 1) 184 [o, v] (g, h) = some (1, [], (g, hh)) ∧ hh o.toNat 2 = fcl v 8 m ∧ ∀ P, KpM o.toNat sr.toNat P → P h → P hh := by
  obtain ⟨en, hh, e1, e2, e3⟩ := lqM (xs := xs) (L := L) (K := K) (ck := ck) (cW := cW) (F := evF xs L ck K cW g_M n) (v := v) (w := 0) hr hl hne 8 K 0 m h (by omega) hK hm h0
  refine ⟨hh, ?_, e2, e3⟩
  rw [evF_s, gm_m]
  have k1 : evS xs L ck (evF xs L ck K cW g_M n) K cW bb_184 [o, v, 0, 0, 0] (g, h) = some (1, [], en, (g, hh)) := by
    rw [fd_m, es_2, es_17, es_20, es_2, es_3, es_12, ee_1]
    unfold s_seq
    dsimp only
    simp only [Option.bind_some, if_true]
    have e4 : [o, v, 0, 0, 0].set (sx_n (sv 3)) (j_hd [if sx_n z0 = 0 then (sx_n (sv 56) : Int) else -(sx_n (sv 56) : Int)]) = [o, v, 0, 8 * ((8 : Nat) : Int) - 8, 0] := rfl
    rw [e4, e1]
    rfl
  show (evS xs L ck (evF xs L ck K cW g_M n) K cW bb_184 [o, v, 0, 0, 0] (g, h)).bind _ = _
  rw [k1, Option.bind_some]
  exact if_pos chk_self
/-- the tape's length after a feed -/
def fclT (m a b c : Int) : Int := fcl c 8 (fcl b 8 (fcl a 8 m))
theorem fqA {n : Nat} (hK : 9 ≤ K) {x rr o sr m a b c : Int} {g : XS × Nat × Nat} {h : XH} (hx1 : j_rf g.1 x.toNat 0 = some rr) (hx2 : j_rf g.1 rr.toNat 0 = some o) (hr : j_rf g.1 o.toNat 0 = some sr) (hl : j_len g.1 sr.toNat = 1000) (hne : sr.toNat ≠ o.toNat) (hm : h o.toNat 1 = m) (h0 : 0 ≤ m ∧ m ≤ 1000) :
    ∃ hh, evF xs L ck K cW g_M (n + 2) 1 [x, a, b, c] (g, h) = some (1, [fclT m a b c], (g, hh)) ∧ hh o.toNat 1 = fclT m a b c ∧ ∀ P, KpA o.toNat sr.toNat P → P h → P hh := by
  obtain ⟨h2, e1, m1, f1⟩ := aqA (xs := xs) (L := L) (ck := ck) (cW := cW) (n := n) (v := a) hK hr hl hne hm h0
  obtain ⟨h3, e2, m2, f2⟩ := aqA (xs := xs) (L := L) (ck := ck) (cW := cW) (n := n) (v := b) hK hr hl hne m1 (fcl_in 8 h0)
  obtain ⟨h4, e3, m3, f3⟩ := aqA (xs := xs) (L := L) (ck := ck) (cW := cW) (n := n) (v := c) hK hr hl hne m2 (fcl_in 8 (fcl_in 8 h0))
  have m4 : h4 o.toNat 1 = fclT m a b c := m3
  refine ⟨h4, ?_, m4, fun P k p => f3 P k (f2 P k (f1 P k p))⟩
  rw [evF_s, gm_f]
  have k1 : evS xs L ck (evF xs L ck K cW g_M (n + 1)) K cW bb_1 [x, a, 0, b, 0, c, 0] (g, h) = some (1, [fclT m a b c], [x, a, 0, b, 0, c, 0], (g, h4)) := by
    generalize evF xs L ck K cW g_M (n + 1) = F at e1 e2 e3 ⊢
    unfold bb_1
    simp only [es_2, es_9, es_16, ee_32, ee_30, ee_31, ee_5, ee_4, ee_3, s_seq, n_call, Option.bind_some, j_hd, List.headD_cons, n_sv, n_z0, List.getD_cons_zero, List.getD_cons_succ, hx1, hx2, List.cons_append, List.nil_append, e1, e2, e3, if_true, m4]
  show (evS xs L ck (evF xs L ck K cW g_M (n + 1)) K cW bb_1 [x, a, 0, b, 0, c, 0] (g, h)).bind _ = _
  rw [k1, Option.bind_some]
  exact if_pos chk_self
theorem fqM {n : Nat} (hK : 9 ≤ K) {o sr m a b c : Int} {g : XS × Nat × Nat} {h : XH} (hr : j_rf g.1 o.toNat 1 = some sr) (hl : j_len g.1 sr.toNat = 1000) (hne : sr.toNat ≠ o.toNat) (hm : h o.toNat 2 = m) (h0 : 0 ≤ m ∧ m ≤ 1000) :
    ∃ hh, evF xs L ck K cW g_M (n + 2) 183 [o, a, b, c] (g, h) = some (1, [fclT m a b c], (g, hh)) ∧ hh o.toNat 2 = fclT m a b c ∧ ∀ P, KpM o.toNat sr.toNat P → P (j_up h o.toNat 0 0) → P hh := by
  have hm0 : j_up h o.toNat 0 ((0 : Nat) : Int) o.toNat 2 = m := by rw [up_ne (fun z => absurd z.2 (by decide)), hm]
  obtain ⟨h2, e1, m1, f1⟩ := aqM (xs := xs) (L := L) (ck := ck) (cW := cW) (n := n) (v := a) hK hr hl hne hm0 h0
  obtain ⟨h3, e2, m2, f2⟩ := aqM (xs := xs) (L := L) (ck := ck) (cW := cW) (n := n) (v := b) hK hr hl hne m1 (fcl_in 8 h0)
  obtain ⟨h4, e3, m3, f3⟩ := aqM (xs := xs) (L := L) (ck := ck) (cW := cW) (n := n) (v := c) hK hr hl hne m2 (fcl_in 8 (fcl_in 8 h0))
  have m4 : h4 o.toNat 2 = fclT m a b c := m3
  refine ⟨h4, ?_, m4, fun P k p => f3 P k (f2 P k (f1 P k p))⟩
  rw [evF_s, gm_g]
  have k1 : evS xs L ck (evF xs L ck K cW g_M (n + 1)) K cW bb_183 [o, a, 0, b, 0, c, 0] (g, h) = some (1, [fclT m a b c], [o, a, 0, b, 0, c, 0], (g, h4)) := by
    generalize evF xs L ck K cW g_M (n + 1) = F at e1 e2 e3 ⊢
    unfold bb_183
    simp only [es_2, es_5, es_9, es_16, s_putf, ee_32, ee_30, ee_31, ee_5, ee_4, ee_3, ee_1, s_seq, n_call, Option.bind_some, j_hd, List.headD_cons, n_sv, n_z0, List.getD_cons_zero, List.getD_cons_succ, List.cons_append, List.nil_append, if_true, e1, e2, e3, m4]
  show (evS xs L ck (evF xs L ck K cW g_M (n + 1)) K cW bb_183 [o, a, 0, b, 0, c, 0] (g, h)).bind _ = _
  rw [k1, Option.bind_some]
  exact if_pos chk_self
end TAPE
