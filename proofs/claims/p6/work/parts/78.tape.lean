/-! ===== the tape: what feed writes, in both ===== -/
section TAPE2
variable {xs : Nat → Int} {L K : Nat} {ck : Nat → List Nat} {F : XP} {cW : Nat → Nat → Int}
def upB (X : Nat → Int) (m s : Int) : Nat → Int := if rdB s = 1 ∧ m < 1000 then fun k => if k = m.toNat then s else X k else X
/-- what lies in the tape when the last j of a number's eight signs are added -/
def fcB (v : Int) : Nat → Int → (Nat → Int) → Nat → Int
  | 0, _, X => X
  | j + 1, m, X => fcB v j (clG m (sgC v (8 * (j : Int)))) (upB X m (sgC v (8 * (j : Int))))
theorem byC_ok : (List.range 127).all (fun n => decide (byC (n : Int) = (n : Int))) = true := by decide +kernel
theorem rdB_b {s : Int} (h : rdB s = 1) : 0 ≤ s ∧ s ≤ 126 := by
  unfold rdB j_b at h
  by_cases t1 : s = 10
  · omega
  · by_cases t2 : 32 ≤ s ∧ s ≤ 126
    · omega
    · have t3 : (decide (s = 10) || (decide (32 ≤ s) && decide (s ≤ 126))) = false := by
        rw [decide_eq_false t1, Bool.false_or, Bool.and_eq_false_iff, decide_eq_false_iff_not, decide_eq_false_iff_not]
        omega
      rw [t3] at h
      cases h
theorem byC_id {s : Int} (h : rdB s = 1) : byC s = s := by
  obtain ⟨a, b⟩ := rdB_b h
  have k := List.all_eq_true.mp byC_ok s.toNat (List.mem_range.mpr (by omega))
  have e : ((s.toNat : Nat) : Int) = s := by omega
  have k2 := of_decide_eq_true k
  rw [e] at k2
  exact k2
theorem upA_B {h : XH} {o sr : Nat} {m s : Int} (h1 : m < 1000) (hne : sr ≠ o) : upA h o sr m s sr = upB (h sr) m s := by
  unfold upA upB
  rcases rdB_01 s with e | e
  · rw [e]
    rfl
  · rw [if_pos e, if_pos ⟨e, h1⟩, byC_id e]
    funext k
    rw [up_ne (fun z => hne z.1)]
    by_cases y : k = m.toNat
    · rw [if_pos y, y, up_eq]
    · rw [if_neg y, up_ne (fun z => y z.2)]
theorem upM_B {h : XH} {o sr : Nat} {m s : Int} (h1 : m < 1000) (hne : sr ≠ o) : upM h o sr m s sr = upB (h sr) m s := by
  unfold upM upB
  rcases rdB_01 s with e | e
  · rw [e]
    rfl
  · rw [if_pos e, if_pos ⟨e, h1⟩]
    funext k
    rw [up_ne (fun z => hne z.1)]
    by_cases y : k = m.toNat
    · rw [if_pos y, y, up_eq]
    · rw [if_neg y, up_ne (fun z => y z.2)]
theorem upB_ge {X : Nat → Int} {m s : Int} (h1 : ¬ m < 1000) : upB X m s = X := if_neg (fun z => h1 z.2)
theorem lqA2 {v o w sr : Int} {g : XS × Nat × Nat} (hr : j_rf g.1 o.toNat 0 = some sr) (hl : j_len g.1 sr.toNat = 1000) (hne : sr.toNat ≠ o.toNat) : ∀ (j fuel : Nat) (s4 s5 m : Int) (h : XH), j ≤ 8 → j + 1 ≤ fuel → h o.toNat 1 = m → 0 ≤ m ∧ m ≤ 1000 →
    ∃ en hh, s_loop (evE xs L ck F cW fdC) (evS xs L ck F K cW fdB) (evS xs L ck F K cW fdP) fuel [o, v, w, 8 * (j : Int) - 8, s4, s5] (g, h) = some (0, [], en, (g, hh)) ∧ hh o.toNat 1 = fcl v j m ∧ hh sr.toNat = fcB v j m (h sr.toNat)
  | 0, fuel, s4, s5, m, h, _, hf, hm, _ => by
    obtain ⟨f, rfl⟩ : ∃ f, fuel = f + 1 := ⟨fuel - 1, by omega⟩
    refine ⟨[o, v, w, 8 * ((0 : Nat) : Int) - 8, s4, s5], h, ?_, hm, rfl⟩
    unfold s_loop
    rw [fdC_ev, Option.bind_some]
    exact if_pos rfl
  | j + 1, fuel, s4, s5, m, h, hj, hf, hm, h0 => by
    obtain ⟨f, rfl⟩ : ∃ f, fuel = f + 1 := ⟨fuel - 1, by omega⟩
    have ek : 8 * ((j + 1 : Nat) : Int) - 8 = 8 * (j : Int) := by omega
    rw [ek]
    obtain ⟨h', hb, hu, hP⟩ : ∃ h', evS xs L ck F K cW fdB [o, v, w, 8 * (j : Int), s4, s5] (g, h) = some (0, [], [o, v, w, 8 * (j : Int), sgC v (8 * (j : Int)), rdB (sgC v (8 * (j : Int)))], (g, h')) ∧ h' o.toNat 1 = clG m (sgC v (8 * (j : Int))) ∧ h' sr.toNat = upB (h sr.toNat) m (sgC v (8 * (j : Int))) := by
      by_cases h1 : m < 1000
      · refine ⟨_, itA (xs := xs) (L := L) (ck := ck) (F := F) (K := K) (cW := cW) (v := v) (w := w) (k := 8 * (j : Int)) (s4 := s4) (s5 := s5) (st := (g, h)) hr hl hm h0.1 h1 hne, ?_, upA_B h1 hne⟩
        rw [clG_lt h1]
        exact (upA_m h0.1 h1 hm).1
      · refine ⟨h, itA1 (st := (g, h)) hr hl hm h0.1 h1, ?_, (upB_ge h1).symm⟩
        rw [clG_ge h1]
        exact hm
    obtain ⟨en, hh, e1, e2, e3⟩ := lqA2 hr hl hne j f (sgC v (8 * (j : Int))) (rdB (sgC v (8 * (j : Int)))) _ h' (by omega) (by omega) hu (clG_in h0)
    refine ⟨en, hh, ?_, e2, ?_⟩
    · unfold s_loop
      rw [fdC_ev, Option.bind_some]
      dsimp only
      rw [decide_eq_true (show 8 * (j : Int) ≥ 0 by omega)]
      refine (if_neg (by decide)).trans ?_
      rw [hb, Option.bind_some]
      refine (if_pos (Or.inl rfl)).trans ?_
      dsimp only
      rw [fdP_ev, Option.bind_some]
      refine (if_pos rfl).trans ?_
      dsimp only
      rw [j32_8 (by omega)]
      exact e1
    · rw [e3, hP]
      rfl
theorem lqM2 {v o w sr : Int} {g : XS × Nat × Nat} (hr : j_rf g.1 o.toNat 1 = some sr) (hl : j_len g.1 sr.toNat = 1000) (hne : sr.toNat ≠ o.toNat) : ∀ (j fuel : Nat) (s4 m : Int) (h : XH), j ≤ 8 → j + 1 ≤ fuel → h o.toNat 2 = m → 0 ≤ m ∧ m ≤ 1000 →
    ∃ en hh, s_loop (evE xs L ck F cW fdC) (evS xs L ck F K cW fmB) (evS xs L ck F K cW fdP) fuel [o, v, w, 8 * (j : Int) - 8, s4] (g, h) = some (0, [], en, (g, hh)) ∧ hh o.toNat 2 = fcl v j m ∧ hh sr.toNat = fcB v j m (h sr.toNat)
  | 0, fuel, s4, m, h, _, hf, hm, _ => by
    obtain ⟨f, rfl⟩ : ∃ f, fuel = f + 1 := ⟨fuel - 1, by omega⟩
    refine ⟨[o, v, w, 8 * ((0 : Nat) : Int) - 8, s4], h, ?_, hm, rfl⟩
    unfold s_loop
    rw [fdC_ev, Option.bind_some]
    exact if_pos rfl
  | j + 1, fuel, s4, m, h, hj, hf, hm, h0 => by
    obtain ⟨f, rfl⟩ : ∃ f, fuel = f + 1 := ⟨fuel - 1, by omega⟩
    have ek : 8 * ((j + 1 : Nat) : Int) - 8 = 8 * (j : Int) := by omega
    rw [ek]
    obtain ⟨h', hb, hu, hP⟩ : ∃ h', evS xs L ck F K cW fmB [o, v, w, 8 * (j : Int), s4] (g, h) = some (0, [], [o, v, w, 8 * (j : Int), sgM v (8 * (j : Int))], (g, h')) ∧ h' o.toNat 2 = clG m (sgC v (8 * (j : Int))) ∧ h' sr.toNat = upB (h sr.toNat) m (sgC v (8 * (j : Int))) := by
      rw [sg_all v j (by omega)]
      by_cases h1 : m < 1000
      · refine ⟨_, itM (xs := xs) (L := L) (ck := ck) (F := F) (K := K) (cW := cW) (v := v) (w := w) (k := 8 * (j : Int)) (s4 := s4) (st := (g, h)) hr hl hm h0.1 h1 hne, ?_, upM_B h1 hne⟩
        rw [clG_lt h1]
        exact (upM_m h0.1 h1 hm).1
      · refine ⟨h, itM1 (st := (g, h)) hm h1, ?_, (upB_ge h1).symm⟩
        rw [clG_ge h1]
        exact hm
    obtain ⟨en, hh, e1, e2, e3⟩ := lqM2 hr hl hne j f (sgM v (8 * (j : Int))) _ h' (by omega) (by omega) hu (clG_in h0)
    refine ⟨en, hh, ?_, e2, ?_⟩
    · unfold s_loop
      rw [fdC_ev, Option.bind_some]
      dsimp only
      rw [decide_eq_true (show 8 * (j : Int) ≥ 0 by omega)]
      refine (if_neg (by decide)).trans ?_
      rw [hb, Option.bind_some]
      refine (if_pos (Or.inl rfl)).trans ?_
      dsimp only
      rw [fdP_ev, Option.bind_some]
      refine (if_pos rfl).trans ?_
      dsimp only
      rw [j32_8 (by omega)]
      exact e1
    · rw [e3, hP]
      rfl
theorem aqA2 {n : Nat} (hK : 9 ≤ K) {o v sr m : Int} {g : XS × Nat × Nat} {h : XH} (hr : j_rf g.1 o.toNat 0 = some sr) (hl : j_len g.1 sr.toNat = 1000) (hne : sr.toNat ≠ o.toNat) (hm : h o.toNat 1 = m) (h0 : 0 ≤ m ∧ m ≤ 1000) :
    ∃ hh, evF xs L ck K cW g_M (n + 1) 62 [o, v] (g, h) = some (1, [], (g, hh)) ∧ hh o.toNat 1 = fcl v 8 m ∧ hh sr.toNat = fcB v 8 m (h sr.toNat) := by
  obtain ⟨en, hh, e1, e2, e3⟩ := lqA2 (xs := xs) (L := L) (K := K) (ck := ck) (cW := cW) (F := evF xs L ck K cW g_M n) (v := v) (w := 0) hr hl hne 8 K 0 0 m h (by omega) hK hm h0
  refine ⟨hh, ?_, e2, e3⟩
  rw [evF_s, gm_a]
  have k1 : evS xs L ck (evF xs L ck K cW g_M n) K cW bb_62 [o, v, 0, 0, 0, 0] (g, h) = some (1, [], en, (g, hh)) := by
    rw [fd_a, es_2, es_17, es_20, es_2, es_3, es_12, ee_1]
    unfold s_seq
    dsimp only
    simp only [Option.bind_some, if_true]
    have e4 : [o, v, 0, 0, 0, 0].set (sx_n (sv 3)) (j_hd [if sx_n z0 = 0 then (sx_n (sv 56) : Int) else -(sx_n (sv 56) : Int)]) = [o, v, 0, 8 * ((8 : Nat) : Int) - 8, 0, 0] := rfl
    rw [e4, e1]
    rfl
  show (evS xs L ck (evF xs L ck K cW g_M n) K cW bb_62 [o, v, 0, 0, 0, 0] (g, h)).bind _ = _
  rw [k1, Option.bind_some]
  exact if_pos chk_self
theorem aqM2 {n : Nat} (hK : 9 ≤ K) {o v sr m : Int} {g : XS × Nat × Nat} {h : XH} (hr : j_rf g.1 o.toNat 1 = some sr) (hl : j_len g.1 sr.toNat = 1000) (hne : sr.toNat ≠ o.toNat) (hm : h o.toNat 2 = m) (h0 : 0 ≤ m ∧ m ≤ 1000) :
    ∃ hh, evF xs L ck K cW g_M (n + 1) 184 [o, v] (g, h) = some (1, [], (g, hh)) ∧ hh o.toNat 2 = fcl v 8 m ∧ hh sr.toNat = fcB v 8 m (h sr.toNat) := by
  obtain ⟨en, hh, e1, e2, e3⟩ := lqM2 (xs := xs) (L := L) (K := K) (ck := ck) (cW := cW) (F := evF xs L ck K cW g_M n) (v := v) (w := 0) hr hl hne 8 K 0 m h (by omega) hK hm h0
  refine ⟨hh, ?_, e2, e3⟩
  rw [evF_s, gm_m]
  have k1 : evS xs L ck (evF xs L ck K cW g_M n) K cW bb_184 [o, v, 0, 0, 0] (g, h) = some (1, [], en, (g, hh)) := by
    rw [fd_m, es_2, es_17, es_20, es_2, es_3, es_12, ee_1]
    unfold s_seq
    dsimp only
    simp only [Option.bind_some, if_true]
    have e4 : [o, v, 0, 0, 0].set (sx_n (sv 3)) (j_hd [if sx_n z0 = 0 then (sx_n (sv 56) : Int) else -(sx_n (sv 56) : Int)]) = [o, v, 0, 8 * ((8 : Nat) : Int) - 8, 0] := rfl
    rw [e4, e1]
    rfl
  show (evS xs L ck (evF xs L ck K cW g_M n) K cW bb_184 [o, v, 0, 0, 0] (g, h)).bind _ = _
  rw [k1, Option.bind_some]
  exact if_pos chk_self
/-- what lies in the tape after a feed -/
def fcT (m a b c : Int) (X : Nat → Int) : Nat → Int := fcB c 8 (fcl b 8 (fcl a 8 m)) (fcB b 8 (fcl a 8 m) (fcB a 8 m X))
theorem fqA2 {n : Nat} (hK : 9 ≤ K) {x rr o sr m a b c : Int} {g : XS × Nat × Nat} {h : XH} (hx1 : j_rf g.1 x.toNat 0 = some rr) (hx2 : j_rf g.1 rr.toNat 0 = some o) (hr : j_rf g.1 o.toNat 0 = some sr) (hl : j_len g.1 sr.toNat = 1000) (hne : sr.toNat ≠ o.toNat) (hm : h o.toNat 1 = m) (h0 : 0 ≤ m ∧ m ≤ 1000) :
    ∃ hh, evF xs L ck K cW g_M (n + 2) 1 [x, a, b, c] (g, h) = some (1, [fclT m a b c], (g, hh)) ∧ hh sr.toNat = fcT m a b c (h sr.toNat) := by
  obtain ⟨h2, e1, m1, f1⟩ := aqA2 (xs := xs) (L := L) (ck := ck) (cW := cW) (n := n) (v := a) hK hr hl hne hm h0
  obtain ⟨h3, e2, m2, f2⟩ := aqA2 (xs := xs) (L := L) (ck := ck) (cW := cW) (n := n) (v := b) hK hr hl hne m1 (fcl_in 8 h0)
  obtain ⟨h4, e3, m3, f3⟩ := aqA2 (xs := xs) (L := L) (ck := ck) (cW := cW) (n := n) (v := c) hK hr hl hne m2 (fcl_in 8 (fcl_in 8 h0))
  have m4 : h4 o.toNat 1 = fclT m a b c := m3
  refine ⟨h4, ?_, ?_⟩
  · rw [evF_s, gm_f]
    have k1 : evS xs L ck (evF xs L ck K cW g_M (n + 1)) K cW bb_1 [x, a, 0, b, 0, c, 0] (g, h) = some (1, [fclT m a b c], [x, a, 0, b, 0, c, 0], (g, h4)) := by
      generalize evF xs L ck K cW g_M (n + 1) = F at e1 e2 e3 ⊢
      unfold bb_1
      simp only [es_2, es_9, es_16, ee_32, ee_30, ee_31, ee_5, ee_4, ee_3, s_seq, n_call, Option.bind_some, j_hd, List.headD_cons, n_sv, n_z0, List.getD_cons_zero, List.getD_cons_succ, hx1, hx2, List.cons_append, List.nil_append, e1, e2, e3, if_true, m4]
    show (evS xs L ck (evF xs L ck K cW g_M (n + 1)) K cW bb_1 [x, a, 0, b, 0, c, 0] (g, h)).bind _ = _
    rw [k1, Option.bind_some]
    exact if_pos chk_self
  · rw [f3, f2, f1]
    rfl
theorem fqM2 {n : Nat} (hK : 9 ≤ K) {o sr m a b c : Int} {g : XS × Nat × Nat} {h : XH} (hr : j_rf g.1 o.toNat 1 = some sr) (hl : j_len g.1 sr.toNat = 1000) (hne : sr.toNat ≠ o.toNat) (hm : h o.toNat 2 = m) (h0 : 0 ≤ m ∧ m ≤ 1000) :
    ∃ hh, evF xs L ck K cW g_M (n + 2) 183 [o, a, b, c] (g, h) = some (1, [fclT m a b c], (g, hh)) ∧ hh sr.toNat = fcT m a b c (h sr.toNat) := by
  have hm0 : j_up h o.toNat 0 ((0 : Nat) : Int) o.toNat 2 = m := by rw [up_ne (fun z => absurd z.2 (by decide)), hm]
  obtain ⟨h2, e1, m1, f1⟩ := aqM2 (xs := xs) (L := L) (ck := ck) (cW := cW) (n := n) (v := a) hK hr hl hne hm0 h0
  obtain ⟨h3, e2, m2, f2⟩ := aqM2 (xs := xs) (L := L) (ck := ck) (cW := cW) (n := n) (v := b) hK hr hl hne m1 (fcl_in 8 h0)
  obtain ⟨h4, e3, m3, f3⟩ := aqM2 (xs := xs) (L := L) (ck := ck) (cW := cW) (n := n) (v := c) hK hr hl hne m2 (fcl_in 8 (fcl_in 8 h0))
  have m4 : h4 o.toNat 2 = fclT m a b c := m3
  refine ⟨h4, ?_, ?_⟩
  · rw [evF_s, gm_g]
    have k1 : evS xs L ck (evF xs L ck K cW g_M (n + 1)) K cW bb_183 [o, a, 0, b, 0, c, 0] (g, h) = some (1, [fclT m a b c], [o, a, 0, b, 0, c, 0], (g, h4)) := by
      generalize evF xs L ck K cW g_M (n + 1) = F at e1 e2 e3 ⊢
      unfold bb_183
      simp only [es_2, es_5, es_9, es_16, s_putf, ee_32, ee_30, ee_31, ee_5, ee_4, ee_3, ee_1, s_seq, n_call, Option.bind_some, j_hd, List.headD_cons, n_sv, n_z0, List.getD_cons_zero, List.getD_cons_succ, List.cons_append, List.nil_append, if_true, e1, e2, e3, m4]
    show (evS xs L ck (evF xs L ck K cW g_M (n + 1)) K cW bb_183 [o, a, 0, b, 0, c, 0] (g, h)).bind _ = _
    rw [k1, Option.bind_some]
    exact if_pos chk_self
  · have e0 : j_up h o.toNat 0 ((0 : Nat) : Int) sr.toNat = h sr.toNat := funext fun k => up_ne (fun z => hne z.1)
    rw [f3, f2, f1, e0]
    rfl
/-- what is below the length is the same in both, and readable -/
def SmB (m : Int) (X Y : Nat → Int) : Prop := ∀ k : Nat, (k : Int) < m → X k = Y k ∧ 0 ≤ X k ∧ X k ≤ 127
theorem upB_sm {m s : Int} {X Y : Nat → Int} (h0 : 0 ≤ m) (h : SmB m X Y) : SmB (clG m s) (upB X m s) (upB Y m s) := by
  intro k hk
  unfold clG at hk
  unfold upB
  by_cases y : rdB s = 1 ∧ m < 1000
  · rw [if_pos y] at hk ⊢
    rw [if_pos y]
    by_cases z : k = m.toNat
    · rw [if_pos z, if_pos z]
      have := rdB_b y.1
      omega
    · rw [if_neg z, if_neg z]
      exact h k (by omega)
  · rw [if_neg y] at hk ⊢
    rw [if_neg y]
    exact h k hk
theorem fcB_sm {v : Int} : ∀ (j : Nat) {m : Int} {X Y : Nat → Int}, 0 ≤ m ∧ m ≤ 1000 → SmB m X Y → SmB (fcl v j m) (fcB v j m X) (fcB v j m Y)
  | 0, _, _, _, _, h => h
  | j + 1, _, _, _, h0, h => fcB_sm j (clG_in h0) (upB_sm h0.1 h)
theorem fcT_sm {m a b c : Int} {X Y : Nat → Int} (h0 : 0 ≤ m ∧ m ≤ 1000) (h : SmB m X Y) : SmB (fclT m a b c) (fcT m a b c X) (fcT m a b c Y) := fcB_sm 8 (fcl_in 8 (fcl_in 8 h0)) (fcB_sm 8 (fcl_in 8 h0) (fcB_sm 8 h0 h))
end TAPE2
