/-! ===== feed: the loops, the calls, the law's first case ===== -/
section FEED2
variable {xs : Nat → Int} {L K : Nat} {ck : Nat → List Nat} {F : XP} {cW : Nat → Nat → Int}
theorem rdB_01 (s : Int) : rdB s = 0 ∨ rdB s = 1 := by
  unfold rdB j_b
  split
  · exact Or.inr rfl
  · exact Or.inl rfl
def byC (s : Int) : Int := ((Int32.ofInt (j_un 4 s)).toInt8.toInt32).toInt
theorem up_ne {h : XH} {o k : Nat} {v : Int} {a b : Nat} (hn : ¬ (a = o ∧ b = k)) : j_up h o k v a b = h a b := if_neg hn
theorem up_eq {h : XH} {o k : Nat} {v : Int} : j_up h o k v o k = v := if_pos ⟨rfl, rfl⟩
def upA (h : XH) (o sr : Nat) (m s : Int) : XH := if rdB s = 1 then j_up (j_up h sr m.toNat (byC s)) o 1 (j_iop 0 m 1) else h
def upM (h : XH) (o sr : Nat) (m s : Int) : XH := if rdB s = 1 then j_up (j_up h sr m.toNat s) o 2 (j_iop 0 m 1) else h
theorem itA {v o w k s4 s5 sr m : Int} {st : XT} (hr : j_rf st.1.1 o.toNat 0 = some sr) (hl : j_len st.1.1 sr.toNat = 1000) (hm : st.2 o.toNat 1 = m) (h0 : 0 ≤ m) (h1 : m < 1000) (hne : sr.toNat ≠ o.toNat) :
    evS xs L ck F K cW fdB [o, v, w, k, s4, s5] st = some (0, [], [o, v, w, k, sgC v k, rdB (sgC v k)], (st.1, upA st.2 o.toNat sr.toNat m (sgC v k))) := by
  have e1 : (evE xs L ck F cW fdR [o, v, w, k, sgC v k, s5] st) = some ([rdB (sgC v k)], st) := rd_ev rfl
  unfold fdB
  simp only [es_20, es_2, es_3, es_10, s_seq, s_if, ee_14, ee_18, ee_16, ee_3, ee_1, n_bin, Option.bind_some, j_hd, List.headD_cons, n_sv, n_z0, List.getD_cons_zero, List.getD_cons_succ, List.set_cons_succ, List.set_cons_zero, if_true]
  have e0 : j_iop 3 (j_un 3 (j_lsh 2 v k)) ((255 : Nat) : Int) = sgC v k := rfl
  rw [e0, e1]
  simp only [Option.bind_some, j_hd, List.headD_cons, List.set_cons_succ, List.set_cons_zero, if_true, ee_25, ee_24, ee_3, n_ife, n_nz, ee_21, ee_20, ee_4, ee_10, ee_5, n_cmp, n_alen, n_sv, n_z0, List.getD_cons_zero, List.getD_cons_succ, hm, hr, hl, j_cmp]
  unfold upA
  rcases rdB_01 (sgC v k) with e | e
  · rw [e]
    simp
  · rw [e]
    simp only [h0, h1, j_b, decide_true, if_true, es_7, es_6, s_ast, s_putfC, ee_5, ee_4, ee_3, ee_18, ee_1, Option.bind_some, j_hd, List.headD_cons, n_sv, n_z0, List.getD_cons_zero, List.getD_cons_succ, hm, hr, hl, ge_iff_le]
    have e3 : ∀ q : Int, j_up st.2 sr.toNat m.toNat q o.toNat 1 = m := fun q => by rw [up_ne (fun z => hne z.1.symm), hm]
    unfold byC
    simp [h0, h1, e3, hr, hl, hm]
theorem itM {v o w k s4 sr m : Int} {st : XT} (hr : j_rf st.1.1 o.toNat 1 = some sr) (hl : j_len st.1.1 sr.toNat = 1000) (hm : st.2 o.toNat 2 = m) (h0 : 0 ≤ m) (h1 : m < 1000) (hne : sr.toNat ≠ o.toNat) :
    evS xs L ck F K cW fmB [o, v, w, k, s4] st = some (0, [], [o, v, w, k, sgM v k], (st.1, upM st.2 o.toNat sr.toNat m (sgM v k))) := by
  have e1 : (evE xs L ck F cW fdR [o, v, w, k, sgM v k] st) = some ([rdB (sgM v k)], st) := rd_ev rfl
  unfold fmB
  simp only [es_20, es_2, es_3, es_10, s_seq, s_if, ee_14, ee_18, ee_16, ee_3, ee_1, n_bin, Option.bind_some, j_hd, List.headD_cons, n_sv, n_z0, List.getD_cons_zero, List.getD_cons_succ, List.set_cons_succ, List.set_cons_zero, if_true]
  have e0 : j_iop 3 (j_un 3 (j_lsh 1 v k)) ((255 : Nat) : Int) = sgM v k := rfl
  rw [e0, ee_25, n_ife, e1]
  simp only [Option.bind_some, j_hd, List.headD_cons, n_nz, ee_20, ee_4, ee_3, ee_1, n_cmp, n_sv, n_z0, List.getD_cons_zero, List.getD_cons_succ, hm, j_cmp, if_true]
  unfold upM
  rcases rdB_01 (sgM v k) with e | e
  · rw [e]
    simp
  · rw [e]
    simp only [h0, h1, j_b, decide_true, if_true, es_7, es_6, s_ast, s_putfC, ee_5, ee_4, ee_3, ee_18, ee_1, Option.bind_some, j_hd, List.headD_cons, n_sv, n_z0, List.getD_cons_zero, List.getD_cons_succ, hm, hr, hl, ge_iff_le]
    have e3 : ∀ q : Int, j_up st.2 sr.toNat m.toNat q o.toNat 2 = m := fun q => by rw [up_ne (fun z => hne z.1.symm), hm]
    simp [h0, h1, e3, hr, hl, hm]
def fcnt (v : Int) : Nat → Int
  | 0 => 0
  | j + 1 => rdB (sgC v (8 * (j : Int))) + fcnt v j
theorem fcnt_le {v : Int} : ∀ j, 0 ≤ fcnt v j ∧ fcnt v j ≤ j
  | 0 => ⟨Int.le_refl _, Int.le_refl _⟩
  | j + 1 => by
    have h := fcnt_le (v := v) j
    have e : fcnt v (j + 1) = rdB (sgC v (8 * (j : Int))) + fcnt v j := rfl
    rcases rdB_01 (sgC v (8 * (j : Int))) with e1 | e1 <;> rw [e, e1] <;> omega
theorem fdC_ev {o v w k : Int} {t : List Int} {st : XT} : evE xs L ck F cW fdC (o :: v :: w :: k :: t) st = some ([j_b (decide (k ≥ 0))], st) := rfl
theorem fdP_ev {o v w k : Int} {t : List Int} {st : XT} : evS xs L ck F K cW fdP (o :: v :: w :: k :: t) st = some (0, [], o :: v :: w :: j32 (k + -8) :: t, st) := rfl
theorem j32_8 {j : Nat} (h : j ≤ 8) : j32 (8 * (j : Int) + -8) = 8 * (j : Int) - 8 := by
  rw [j32_in ⟨by omega, by omega⟩]
  omega
theorem upA_m {h : XH} {o sr : Nat} {m s : Int} (h0 : 0 ≤ m) (h1 : m < 1000) (hm : h o 1 = m) : upA h o sr m s o 1 = m + rdB s ∧ ∀ a b, a ≠ sr → ¬ (a = o ∧ b = 1) → upA h o sr m s a b = h a b := by
  unfold upA
  rcases rdB_01 s with e | e
  · rw [e]
    refine ⟨?_, fun a b _ _ => rfl⟩
    show h o 1 = _
    omega
  · rw [e, if_pos rfl]
    refine ⟨?_, fun a b p q => ?_⟩
    · rw [up_eq]
      exact j32_in ⟨by omega, by omega⟩
    · rw [up_ne q, up_ne (fun z => p z.1)]
theorem upM_m {h : XH} {o sr : Nat} {m s : Int} (h0 : 0 ≤ m) (h1 : m < 1000) (hm : h o 2 = m) : upM h o sr m s o 2 = m + rdB s ∧ ∀ a b, a ≠ sr → ¬ (a = o ∧ b = 2) → upM h o sr m s a b = h a b := by
  unfold upM
  rcases rdB_01 s with e | e
  · rw [e]
    refine ⟨?_, fun a b _ _ => rfl⟩
    show h o 2 = _
    omega
  · rw [e, if_pos rfl]
    refine ⟨?_, fun a b p q => ?_⟩
    · rw [up_eq]
      exact j32_in ⟨by omega, by omega⟩
    · rw [up_ne q, up_ne (fun z => p z.1)]
theorem sg_all (v : Int) : ∀ j : Nat, j < 8 → sgC v (8 * (j : Int)) = sgM v (8 * (j : Int))
  | 0, _ => sg_0 v
  | 1, _ => sg_8 v
  | 2, _ => sg_16 v
  | 3, _ => sg_24 v
  | 4, _ => sg_32 v
  | 5, _ => sg_40 v
  | 6, _ => sg_48 v
  | 7, _ => sg_56 v
  | _ + 8, h => absurd h (by omega)
theorem lpA {v o w sr : Int} {g : XS × Nat × Nat} (hr : j_rf g.1 o.toNat 0 = some sr) (hl : j_len g.1 sr.toNat = 1000) (hne : sr.toNat ≠ o.toNat) : ∀ (j fuel : Nat) (s4 s5 m : Int) (h : XH), j ≤ 8 → j + 1 ≤ fuel → h o.toNat 1 = m → 0 ≤ m → m + j ≤ 1000 →
    ∃ en hh, s_loop (evE xs L ck F cW fdC) (evS xs L ck F K cW fdB) (evS xs L ck F K cW fdP) fuel [o, v, w, 8 * (j : Int) - 8, s4, s5] (g, h) = some (0, [], en, (g, hh)) ∧ hh o.toNat 1 = m + fcnt v j ∧ ∀ a b, a ≠ sr.toNat → ¬ (a = o.toNat ∧ b = 1) → hh a b = h a b
  | 0, fuel, s4, s5, m, h, _, hf, hm, _, _ => by
    obtain ⟨f, rfl⟩ : ∃ f, fuel = f + 1 := ⟨fuel - 1, by omega⟩
    refine ⟨[o, v, w, 8 * ((0 : Nat) : Int) - 8, s4, s5], h, ?_, by rw [hm]; exact (Int.add_zero m).symm, fun _ _ _ _ => rfl⟩
    unfold s_loop
    rw [fdC_ev, Option.bind_some]
    exact if_pos rfl
  | j + 1, fuel, s4, s5, m, h, hj, hf, hm, h0, h1 => by
    obtain ⟨f, rfl⟩ : ∃ f, fuel = f + 1 := ⟨fuel - 1, by omega⟩
    have ek : 8 * ((j + 1 : Nat) : Int) - 8 = 8 * (j : Int) := by omega
    rw [ek]
    have hb := itA (xs := xs) (L := L) (ck := ck) (F := F) (K := K) (cW := cW) (v := v) (w := w) (k := 8 * (j : Int)) (s4 := s4) (s5 := s5) (st := (g, h)) hr hl hm h0 (by omega) hne
    obtain ⟨hu, hv⟩ := upA_m (h := h) (o := o.toNat) (sr := sr.toNat) (s := sgC v (8 * (j : Int))) h0 (by omega) hm
    obtain ⟨en, hh, e1, e2, e3⟩ := lpA hr hl hne j f (sgC v (8 * (j : Int))) (rdB (sgC v (8 * (j : Int)))) _ (upA h o.toNat sr.toNat m (sgC v (8 * (j : Int)))) (by omega) (by omega) hu (by rcases rdB_01 (sgC v (8 * (j : Int))) with e | e <;> rw [e] <;> omega) (by rcases rdB_01 (sgC v (8 * (j : Int))) with e | e <;> rw [e] <;> omega)
    refine ⟨en, hh, ?_, ?_, fun a b p q => (e3 a b p q).trans (hv a b p q)⟩
    · unfold s_loop
      rw [fdC_ev, Option.bind_some]
      dsimp only
      rw [decide_eq_true (show 8 * (j : Int) ≥ 0 by omega)]
      refine (if_neg (by decide)).trans ?_
      rw [hb, Option.bind_some]
      refine (if_pos (Or.inl rfl)).trans ?_
      dsimp only
      rw [fdP_ev, Option.bind_some]
      refine (if_pos rfl).trans ?_
      dsimp only
      rw [j32_8 (by omega)]
      exact e1
    · rw [e2]
      show _ = m + (rdB (sgC v (8 * (j : Int))) + fcnt v j)
      omega
theorem lpM {v o w sr : Int} {g : XS × Nat × Nat} (hr : j_rf g.1 o.toNat 1 = some sr) (hl : j_len g.1 sr.toNat = 1000) (hne : sr.toNat ≠ o.toNat) : ∀ (j fuel : Nat) (s4 m : Int) (h : XH), j ≤ 8 → j + 1 ≤ fuel → h o.toNat 2 = m → 0 ≤ m → m + j ≤ 1000 →
    ∃ en hh, s_loop (evE xs L ck F cW fdC) (evS xs L ck F K cW fmB) (evS xs L ck F K cW fdP) fuel [o, v, w, 8 * (j : Int) - 8, s4] (g, h) = some (0, [], en, (g, hh)) ∧ hh o.toNat 2 = m + fcnt v j ∧ ∀ a b, a ≠ sr.toNat → ¬ (a = o.toNat ∧ b = 2) → hh a b = h a b
  | 0, fuel, s4, m, h, _, hf, hm, _, _ => by
    obtain ⟨f, rfl⟩ : ∃ f, fuel = f + 1 := ⟨fuel - 1, by omega⟩
    refine ⟨[o, v, w, 8 * ((0 : Nat) : Int) - 8, s4], h, ?_, by rw [hm]; exact (Int.add_zero m).symm, fun _ _ _ _ => rfl⟩
    unfold s_loop
    rw [fdC_ev, Option.bind_some]
    exact if_pos rfl
  | j + 1, fuel, s4, m, h, hj, hf, hm, h0, h1 => by
    obtain ⟨f, rfl⟩ : ∃ f, fuel = f + 1 := ⟨fuel - 1, by omega⟩
    have ek : 8 * ((j + 1 : Nat) : Int) - 8 = 8 * (j : Int) := by omega
    rw [ek]
    have hb := itM (xs := xs) (L := L) (ck := ck) (F := F) (K := K) (cW := cW) (v := v) (w := w) (k := 8 * (j : Int)) (s4 := s4) (st := (g, h)) hr hl hm h0 (by omega) hne
    obtain ⟨hu, hv⟩ := upM_m (h := h) (o := o.toNat) (sr := sr.toNat) (s := sgM v (8 * (j : Int))) h0 (by omega) hm
    obtain ⟨en, hh, e1, e2, e3⟩ := lpM hr hl hne j f (sgM v (8 * (j : Int))) _ (upM h o.toNat sr.toNat m (sgM v (8 * (j : Int)))) (by omega) (by omega) hu (by rcases rdB_01 (sgM v (8 * (j : Int))) with e | e <;> rw [e] <;> omega) (by rcases rdB_01 (sgM v (8 * (j : Int))) with e | e <;> rw [e] <;> omega)
    refine ⟨en, hh, ?_, ?_, fun a b p q => (e3 a b p q).trans (hv a b p q)⟩
    · unfold s_loop
      rw [fdC_ev, Option.bind_some]
      dsimp only
      rw [decide_eq_true (show 8 * (j : Int) ≥ 0 by omega)]
      refine (if_neg (by decide)).trans ?_
      rw [hb, Option.bind_some]
      refine (if_pos (Or.inl rfl)).trans ?_
      dsimp only
      rw [fdP_ev, Option.bind_some]
      refine (if_pos rfl).trans ?_
      dsimp only
      rw [j32_8 (by omega)]
      exact e1
    · rw [e2, ← sg_all v j (by omega)]
      show _ = m + (rdB (sgC v (8 * (j : Int))) + fcnt v j)
      omega
end FEED2
