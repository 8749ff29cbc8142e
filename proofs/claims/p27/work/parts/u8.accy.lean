/-! ===== marks_w, grid, work, feed, questions keep_w what is_w laid_w down_w the same ===== -/
section ACY
variable {xs : Nat → Int} {L K n : Nat} {c d : Nat} {h h' h1 h2 x y : XH} {D : DD} {v : List Int} {w : Nat}
theorem lcp_rw {o o' : Nat} {b : Int} (lc : LCP o' o h x) (hb_w : b ≤ 4) : RWS o o' b h x := fun r hr => by
  obtain ⟨-, -, -, -, l8, l10, l12, l14, -⟩ := lc
  exact ⟨fun t ht => l8 _ (by omega), fun t ht => l10 _ (by omega), fun t ht => l12 _ (by omega), l14 r (by omega)⟩
/-- a mark_w is_w laid_w -/
theorem ACC.lay (a : ACC h) {o cc g : Nat} (hoc : (o = 112 ∧ cc = 429 ∧ g = 0) ∨ (o = 133 ∧ cc = 858 ∧ g = 1)) (lo_w : RWS 70 o (h 194 162) h h') (cw : ∀ x q : Nat, (78 ≤ x ∧ x ≤ 84) ∨ (112 ≤ x ∧ x ≤ 153 ∧ ¬ (o ≤ x ∧ x ≤ o + 20)) → h' x q = h x q) (e : ∀ k : Nat, k < 4 → h' 188 k = h 188 k) (z : ∀ q : Nat, q < 4719 → ¬ (cc ≤ q ∧ q < cc + 429) → h' 194 q = h 194 q) (zb : ∀ q : Nat, q < 429 → h' 194 (cc + q) = h 194 q) (u : h' 182 18 = h 182 18) (m0_w : g ≠ 0 → h' 195 0 = h 195 0) (m1_w : g ≠ 1 → h' 195 1 = h 195 1) : ACC h' := by
  obtain ⟨⟨u4_w, s12, n8⟩, l0, li, lm, k0_w, k1_w⟩ := a
  have r70 : ∀ b, RWS 70 70 b h h' := fun b => RWS.all (fun x q a => cw x q (by omega))
  have nl : LKQ o cc h' := l0.fr u4_w s12 e (fun q _ b => by rw [Nat.zero_add]; exact zb q (by omega)) (by rw [Nat.zero_add]; exact lo_w)
  have zz : ∀ q : Nat, q < 429 ∨ (1287 ≤ q ∧ q < 4719) → h' 194 q = h 194 q := fun q a => z q (by omega) (by omega)
  refine ⟨⟨by rw [e 2 (by decide)]; exact u4_w, by rw [e 0 (by decide)]; exact s12, by rw [u]; exact n8⟩, l0.fr u4_w s12 e (fun q _ _ => zz _ (by omega)) (r70 _), fun i hi_w => ?_, fun i j ij hj => ?_, fun y => ?_, fun y => ?_⟩
  · rw [u] at hi_w
    rw [zz _ (by omega), zz 162 (by decide)]
    exact ⟨(li i hi_w).1.fr u4_w s12 e (fun q _ _ => zz _ (by omega)) (r70 _), (li i hi_w).2⟩
  · rw [u] at hj
    rw [zz _ (by omega), zz _ (by omega)]
    exact lm i j ij hj
  · rcases hoc with ⟨rfl, rfl, rfl⟩ | ⟨rfl, rfl, rfl⟩
    · exact nl
    · rw [m0_w (by decide)] at y
      exact (k0_w y).fr u4_w s12 e (fun q _ _ => z _ (by omega) (by omega)) (RWS.all (fun x q a => cw x q (by omega)))
  · rcases hoc with ⟨rfl, rfl, rfl⟩ | ⟨rfl, rfl, rfl⟩
    · rw [m1_w (by decide)] at y
      exact (k1_w y).fr u4_w s12 e (fun q _ _ => z _ (by omega) (by omega)) (RWS.all (fun x q a => cw x q (by omega)))
    · exact nl
/-- a mark_w is_w gone back to -/
theorem ACC.bk {o cc : Nat} (a : ACC h) (l : LKQ o cc h) (lo_w : RWS o 70 (h 194 (cc + 162)) h h') (cw : ∀ x q : Nat, 112 ≤ x → x ≤ 153 → h' x q = h x q) (e : ∀ k : Nat, k < 4 → h' 188 k = h 188 k) (z : ∀ q : Nat, 429 ≤ q → q < 4719 → h' 194 q = h 194 q) (zb : ∀ q : Nat, q < 429 → h' 194 q = h 194 (cc + q)) (u : h' 182 18 = 0) (m0_w : h 195 0 = 0 → h' 195 0 ≠ 0 → LKQ 112 429 h) (m1_w : h 195 1 = 0 → h' 195 1 ≠ 0 → LKQ 133 858 h) : ACC h' := by
  obtain ⟨⟨u4_w, s12, n8⟩, l0, li, lm, k0_w, k1_w⟩ := a
  have w112 : ∀ b, RWS 112 112 b h h' := fun b => RWS.all (fun x q a => cw x q (by omega) (by omega))
  have w133 : ∀ b, RWS 133 133 b h h' := fun b => RWS.all (fun x q a => cw x q (by omega) (by omega))
  refine ⟨⟨by rw [e 2 (by decide)]; exact u4_w, by rw [e 0 (by decide)]; exact s12, by omega⟩, l.fr u4_w s12 e (fun q _ b => by rw [Nat.zero_add]; exact zb q (by omega)) lo_w, fun i hi_w => absurd hi_w (by omega), fun i j _ hj => absurd hj (by omega), fun y => ?_, fun y => ?_⟩
  · have k : LKQ 112 429 h := by
      by_cases t : h 195 0 = 0
      · exact m0_w t y
      · exact k0_w t
    exact k.fr u4_w s12 e (fun q _ _ => z _ (by omega) (by omega)) (w112 _)
  · have k : LKQ 133 858 h := by
      by_cases t : h 195 1 = 0
      · exact m1_w t y
      · exact k1_w t
    exact k.fr u4_w s12 e (fun q _ _ => z _ (by omega) (by omega)) (w133 _)
theorem ACC.q {r : Nat} {ws_w v : List Int} (y : ACC h) (hI : Inv5 h) (cw : CRW h h1) (u : RefU h h1) (hf : r_n5 r = true) (hb_w : BKp xs L K n r ws_w) (e : evF xs L g_ck K g_cW g_M n r (182 :: ws_w) ((a_g3, c, d), h1) = some (1, v, ((a_g3, c, d), h2))) : ACC h2 := by
  obtain ⟨D, cd, rf, sm_w⟩ := hI.2
  simp only [r_n5, Bool.and_eq_true, Bool.not_eq_true'] at hf
  obtain ⟨⟨f4_w, f18⟩, f195⟩ := hf
  have f4' := f4_w
  simp only [r_n4, r_n3, r_nf, Bool.and_eq_true, Bool.not_eq_true'] at f4'
  have fin_w : m_in r = true := f4'.1.1.1.1.1.1.1.1.1.1
  obtain ⟨-, fr⟩ := fr_all n r (182 :: ws_w) _ _ _ _ _ _ fin_w rfl (Or.inr rfl) e
  obtain ⟨-, -, b5, b6, b7⟩ := ref_4 (g := (a_g3, c, d)) f4_w rfl e
  have uu : ∀ o, 182 ≤ o → o ≤ 202 → h1 o = h o := fun o a b => funext fun k => u o k a b
  have rf1 : RF D h1 := rf.fr (uu 188 (by decide) (by decide)) (uu 189 (by decide) (by decide)) (uu 190 (by decide) (by decide))
  have e1_w := uu 191 (by decide) (by decide)
  obtain ⟨l30, ln⟩ := lnb_of hI.1.1.2
  have bk : BKq h1 h2 := hb_w c d h1 h2 v D rf1 (by rw [e1_w]; exact l30) (fun n z => by rw [e1_w] at z ⊢; exact ln n z) e
  exact (y.u cw u).fr (fun x q a => fr x q (fun z => by omega) (fr_lo fin_w (by omega))) (fun k _ => congrFun b5 k) (fun q z => bk q z) (fr 182 18 (fun _ => f18) (fr_lo fin_w (by decide))) (fr 195 0 (fun y => absurd y (by decide)) f195) (fr 195 1 (fun y => absurd y (by decide)) f195)
end ACY
