section
/-! ===== accounts: in the order_w in which they come (pure); contracts: where one is_w kept, one opened_w ===== -/
/-- a list_w of keys below_w 16, none twice_w -/
def KL (L : List Nat) : Prop := (∀ k ∈ L, k < 16) ∧ L.Nodup
section ACP
variable {D : DD} {a b : Nat → Int} {m s k j i : Nat} {L : List Nat}
theorem KL.le (h : KL L) : L.length ≤ 16 := pig 16 L.length (fun i => L.getD i 0) (fun i hi_w => by
  show L.getD i 0 < 16
  rw [List.getD_eq_getElem?_getD, List.getElem?_eq_getElem hi_w]
  exact h.1 _ (List.getElem_mem hi_w)) (fun i j hi_w hj e => by
  have e : L.getD i 0 = L.getD j 0 := e
  rw [List.getD_eq_getElem?_getD, List.getD_eq_getElem?_getD, List.getElem?_eq_getElem hi_w, List.getElem?_eq_getElem hj] at e
  exact (List.getElem_inj h.2).mp e)
end ACP
end
section
/-! ===== contracts: the class lays_w a run down_w ===== -/
def FRC (r : Nat) (h h' : XH) : Prop := ∀ x q : Nat, ¬ stO x → ¬ (x = 157 ∧ q = 10) → ¬ (x = 78 ∧ 48 * r ≤ q ∧ q < 48 * r + 48) → ¬ (x = 80 ∧ 16 * r ≤ q ∧ q < 16 * r + 16) → ¬ (x = 82 ∧ 16 * r ≤ q ∧ q < 16 * r + 16) → ¬ (x = 84 ∧ q = r) → h' x q = h x q
section KKU1
variable {h h' h1 : XH} {Q : Nat → List Int → XH → Prop} {D : DD} {a : Nat → Int} {k s m r q : Nat} {v : Int}
theorem FRC.lof (f : FRC r h h') (x q : Nat) (z : x < 28 ∨ (29 ≤ x ∧ x ≤ 77) ∨ (85 ≤ x ∧ x ≤ 156) ∨ x = 79 ∨ x = 81 ∨ x = 83 ∨ 178 ≤ x) : h' x q = h x q := f x q (fun y => by unfold stO smW at y; omega) (by omega) (by omega) (by omega) (by omega) (by omega)
theorem FRC.st (f : FRC r h h1) (g : ∀ x k : Nat, ¬ stO x → ¬ (x = 157 ∧ k = 10) → h' x k = h1 x k) : FRC r h h' := fun x q a b c d e y => (g x q a b).trans (f x q a b c d e y)
end KKU1
end
section
/-! ===== contracts: the reference_w adds to an account, lays_w a run down_w ===== -/
def FRR (r : Nat) (h h' : XH) : Prop := ∀ x q : Nat, ¬ wkW x → ¬ (x = 182 ∧ q = 25) → ¬ (x = 194 ∧ 163 + 48 * r ≤ q ∧ q < 163 + 48 * r + 48 ∧ q < 404) → ¬ (x = 194 ∧ 355 ≤ q ∧ q < 404) → h' x q = h x q
theorem FRR.lof {r : Nat} {h h' : XH} (f : FRR r h h') (x q : Nat) (z : (x < 192 ∧ x ≠ 182) ∨ (x = 194 ∧ (q < 163 ∨ 404 ≤ q)) ∨ x = 195 ∨ 203 ≤ x) : h' x q = h x q := f x q (fun y => by unfold wkW at y; omega) (by omega) (by omega) (by omega)
theorem FRR.rs {r : Nat} {h h' : XH} {D : DD} (f : FRR r h h') (rs : RSET D h) : RSET D h' ∧ EqD D (bl 0 h') (bl 0 h) := by
  have e : EqD D (bl 0 h') (bl 0 h) := EqD.of rs.1.cn.2.2.1 rs.1.cn.2.2.2.1 (fun q y => f.lof 194 (0 + q) (by omega))
  exact ⟨⟨rs.1, rs.2.1.fr3 (fun x k a => f.lof x k (by omega)), rs.2.2.1.fr (fun x k a => f.lof x k (by omega)), RGA.cg e rs.2.2.2⟩, e⟩
end
section
/-! ===== what is_w laid_w down_w is_w the same on_w both_w sides ===== -/
def LKQ (o c : Nat) (h : XH) : Prop := h 194 (c + 162) ≤ 4 ∧ (∀ r u s : Nat, (r : Int) < h 194 (c + 162) → (u : Int) < h 188 2 → (s : Int) < h 188 0 → h (o + 8) (48 * r + (12 * u + s)) = h 194 (c + (163 + (48 * r + (12 * u + s))))) ∧ (h 194 (c + 162) = 0 → h 194 (c + 355) = 0) ∧ ∀ r : Nat, h 194 (c + 162) = ((r + 1 : Nat) : Int) → ∃ L : List Nat, KL L ∧ h (o + 14) r = (L.length : Int) ∧ h 194 (c + 355) = (L.length : Int) ∧ ∀ i k : Nat, L[i]? = some k → h (o + 10) (16 * r + i) = (k : Int) ∧ h 194 (c + (356 + 3 * i)) = ((k / 4 : Nat) : Int) ∧ h 194 (c + (356 + 3 * i + 1)) = ((k % 4 : Nat) : Int) ∧ h (o + 12) (16 * r + i) = h 194 (c + (356 + 3 * i + 2))
def ACB (h : XH) : Prop := h 188 2 ≤ 4 ∧ h 188 0 ≤ 12 ∧ h 182 18 ≤ 8
def ACC (h : XH) : Prop := ACB h ∧ LKQ 70 0 h ∧ (∀ i : Nat, (i : Int) < h 182 18 → LKQ 70 (429 * (3 + i)) h ∧ h 194 (429 * (3 + i) + 162) ≤ h 194 162) ∧ (∀ i j : Nat, i < j → (j : Int) < h 182 18 → h 194 (429 * (3 + i) + 162) ≤ h 194 (429 * (3 + j) + 162)) ∧ (h 195 0 ≠ 0 → LKQ 112 429 h) ∧ (h 195 1 ≠ 0 → LKQ 133 858 h)
/-- a ledger's rows of what was laid_w down_w, for_w the first runs -/
def RWS (o o' : Nat) (b : Int) (h h' : XH) : Prop := ∀ r : Nat, (r : Int) < b → (∀ t : Nat, t < 48 → h' (o' + 8) (48 * r + t) = h (o + 8) (48 * r + t)) ∧ (∀ t : Nat, t < 16 → h' (o' + 10) (16 * r + t) = h (o + 10) (16 * r + t)) ∧ (∀ t : Nat, t < 16 → h' (o' + 12) (16 * r + t) = h (o + 12) (16 * r + t)) ∧ h' (o' + 14) r = h (o + 14) r
section ACS
variable {xs : Nat → Int} {L K n : Nat} {c c' d o o' : Nat} {h h' h1 h2 x y : XH} {D : DD} {v : List Int} {w : Nat} {b : Int}
theorem RWS.all (z : ∀ x q : Nat, (x = o + 8 ∨ x = o + 10 ∨ x = o + 12 ∨ x = o + 14) → h' x q = h x q) : RWS o o b h h' := fun r _ => ⟨fun t _ => z _ _ (by omega), fun t _ => z _ _ (by omega), fun t _ => z _ _ (by omega), z _ _ (by omega)⟩
theorem LKQ.fr (l : LKQ o c h) (u4_w : h 188 2 ≤ 4) (s12 : h 188 0 ≤ 12) (e : ∀ k : Nat, k < 4 → h' 188 k = h 188 k) (z : ∀ q : Nat, 162 ≤ q → q < 404 → h' 194 (c' + q) = h 194 (c + q)) (rw0 : RWS o o' (h 194 (c + 162)) h h') : LKQ o' c' h' := by
  obtain ⟨l0, l1, l2, l3⟩ := l
  have z2 := z 162 (by decide) (by decide)
  refine ⟨by rw [z2]; exact l0, fun r u s hr hu hs => ?_, fun y => ?_, fun r hr => ?_⟩
  · rw [z2] at hr
    rw [e 2 (by decide)] at hu
    rw [e 0 (by decide)] at hs
    rw [(rw0 r hr).1 _ (by omega), z _ (by omega) (by omega)]
    exact l1 r u s hr hu hs
  · rw [z2] at y
    rw [z 355 (by decide) (by decide)]
    exact l2 y
  · rw [z2] at hr
    obtain ⟨L, kl, a1_w, a2, a3⟩ := l3 r hr
    obtain ⟨-, b10, b12, b14⟩ := rw0 r (by omega)
    have l16 := kl.le
    refine ⟨L, kl, b14.trans a1_w, (z 355 (by decide) (by decide)).trans a2, fun i k t => ?_⟩
    have hi_w := (List.getElem?_eq_some_iff.mp t).1
    obtain ⟨t1_w, t2_w, t3_w, t4_w⟩ := a3 i k t
    rw [b10 i (by omega), b12 i (by omega), z _ (by omega) (by omega), z _ (by omega) (by omega), z _ (by omega) (by omega)]
    exact ⟨t1_w, t2_w, t3_w, t4_w⟩
/-- the class's rows of what was laid_w down_w -/
def CRW (h h' : XH) : Prop := ∀ x q : Nat, (78 ≤ x ∧ x ≤ 84) ∨ (112 ≤ x ∧ x ≤ 153) → h' x q = h x q
theorem ACC.fr2 (a : ACC h) (rw0 : RWS 70 70 (h 194 162) h h') (cm : ∀ x q : Nat, 112 ≤ x → x ≤ 153 → h' x q = h x q) (e : ∀ k : Nat, k < 4 → h' 188 k = h 188 k) (z : ∀ q : Nat, q < 4719 → h' 194 q = h 194 q) (u : h' 182 18 = h 182 18) (m0_w : h' 195 0 = h 195 0) (m1_w : h' 195 1 = h 195 1) : ACC h' := by
  obtain ⟨⟨u4_w, s12, n8⟩, l0, li, lm, k0_w, k1_w⟩ := a
  have wle : ∀ {b : Int}, b ≤ h 194 162 → RWS 70 70 b h h' := fun hb_w r hr => rw0 r (by omega)
  refine ⟨⟨by rw [e 2 (by decide)]; exact u4_w, by rw [e 0 (by decide)]; exact s12, by rw [u]; exact n8⟩, l0.fr u4_w s12 e (fun q _ _ => z _ (by omega)) (wle (by rw [Nat.zero_add]; omega)), fun i hi_w => ?_, fun i j ij hj => ?_, fun y => ?_, fun y => ?_⟩
  · rw [u] at hi_w
    rw [z _ (by omega), z 162 (by decide)]
    exact ⟨(li i hi_w).1.fr u4_w s12 e (fun q _ _ => z _ (by omega)) (wle (li i hi_w).2), (li i hi_w).2⟩
  · rw [u] at hj
    rw [z _ (by omega), z _ (by omega)]
    exact lm i j ij hj
  · rw [m0_w] at y
    exact (k0_w y).fr u4_w s12 e (fun q _ _ => z _ (by omega)) (RWS.all (fun x q a => cm x q (by omega) (by omega)))
  · rw [m1_w] at y
    exact (k1_w y).fr u4_w s12 e (fun q _ _ => z _ (by omega)) (RWS.all (fun x q a => cm x q (by omega) (by omega)))
theorem ACC.fr (a : ACC h) (cr : CRW h h') (e : ∀ k : Nat, k < 4 → h' 188 k = h 188 k) (z : ∀ q : Nat, q < 4719 → h' 194 q = h 194 q) (u : h' 182 18 = h 182 18) (m0_w : h' 195 0 = h 195 0) (m1_w : h' 195 1 = h 195 1) : ACC h' := a.fr2 (RWS.all (fun x q a => cr x q (by omega))) (fun x q a b => cr x q (Or.inr ⟨a, b⟩)) e z u m0_w m1_w
theorem ACC.th (a : ACC h) : ACC (thz h) := a.fr (fun x q a => th_e (by omega)) (fun k _ => th_e (by decide)) (fun q _ => th_e (by decide)) (up_ne (by omega)) (th_e (by decide)) (th_e (by decide))
/-- one more_w deed: what was is_w kept; the runs are the same, or_w one more_w -/
theorem ACC.push (a : ACC h) (hw : h 182 18 = (w : Int)) (kx : RKP w (thz h) x) (e8 : ∀ k : Nat, k < 4 → h' 188 k = x 188 k) (e4_w : ∀ k : Nat, 404 ≤ k → k < 4719 → h' 194 k = x 194 k) (e2_w : h' 182 18 = x 182 18) (e5_w : ∀ k : Nat, h' 195 k = x 195 k) (cm : ∀ x q : Nat, 112 ≤ x → x ≤ 153 → h' x q = h x q) (rw0 : RWS 70 70 (h 194 162) h h') (rn : h 194 162 ≤ h' 194 162) (l' : LKQ 70 0 h') : ACC h' := by
  obtain ⟨⟨u4_w, s12, n8⟩, l0, li, lm, k0_w, k1_w⟩ := a
  obtain ⟨x1_w, x2_w, x3, x4_w⟩ := kx
  have w8 : w ≤ 8 := by omega
  have p7_w : pn8 w ≤ 7 := by
    unfold pn8
    split <;> omega
  have f8_w : ∀ k : Nat, k < 4 → h' 188 k = h 188 k := fun k z => (e8 k z).trans ((x1_w 188 k (by omega) (by omega)).trans (th_e (by decide)))
  have f5_w : ∀ k : Nat, h' 195 k = h 195 k := fun k => (e5_w k).trans ((x1_w 195 k (by omega) (by omega)).trans (th_e (by decide)))
  have f4_w : ∀ k : Nat, 404 ≤ k → k < 1287 → h' 194 k = h 194 k := fun k a b => (e4_w k a (by omega)).trans ((x1_w 194 k (by omega) (by omega)).trans (th_e (by decide)))
  have f2_w : h' 182 18 = ((pn8 w + 1 : Nat) : Int) := e2_w.trans x2_w
  have old_w : ∀ i : Nat, i < pn8 w → (((if w = 8 then i + 1 else i) : Nat) : Int) < h 182 18 := fun i ip => by
    unfold pn8 at ip
    split at ip
    · rw [if_pos (by assumption)]
      omega
    · rw [if_neg (by assumption)]
      omega
  have cel : ∀ i : Nat, i < pn8 w → ∀ q : Nat, q < 404 → h' 194 (429 * (3 + i) + q) = h 194 (429 * (3 + (if w = 8 then i + 1 else i)) + q) := fun i ip q hq => by
    rw [e4_w _ (by omega) (by omega), x3 i ip q hq, th_e (by decide)]
  have top : ∀ q : Nat, q < 404 → h' 194 (429 * (3 + pn8 w) + q) = h 194 (0 + q) := fun q hq => by
    rw [e4_w _ (by omega) (by omega), x4_w q hq, th_e (by decide), Nat.zero_add]
  have wle : ∀ {b : Int}, b ≤ h 194 162 → RWS 70 70 b h h' := fun hb_w r hr => rw0 r (by omega)
  refine ⟨⟨by rw [f8_w 2 (by decide)]; exact u4_w, by rw [f8_w 0 (by decide)]; exact s12, by omega⟩, l', fun i hi_w => ?_, fun i j ij hj => ?_, fun y => ?_, fun y => ?_⟩
  · by_cases yi : i = pn8 w
    · subst yi
      refine ⟨l0.fr u4_w s12 f8_w (fun q _ b => top q b) (wle (by rw [Nat.zero_add]; omega)), ?_⟩
      rw [top 162 (by decide), Nat.zero_add]
      exact rn
    · have ip : i < pn8 w := by omega
      obtain ⟨t1_w, t2_w⟩ := li _ (old_w i ip)
      refine ⟨t1_w.fr u4_w s12 f8_w (fun q _ b => cel i ip q b) (wle t2_w), ?_⟩
      rw [cel i ip 162 (by decide)]
      omega
  · by_cases yj : j = pn8 w
    · subst yj
      rw [cel i ij 162 (by decide), top 162 (by decide), Nat.zero_add]
      exact (li _ (old_w i ij)).2
    · have jp : j < pn8 w := by omega
      rw [cel i (by omega) 162 (by decide), cel j jp 162 (by decide)]
      refine lm _ _ ?_ (old_w j jp)
      by_cases y8 : w = 8
      · rw [if_pos y8, if_pos y8]
        omega
      · rw [if_neg y8, if_neg y8]
        exact ij
  · rw [f5_w 0] at y
    exact (k0_w y).fr u4_w s12 f8_w (fun q a b => f4_w _ (by omega) (by omega)) (RWS.all (fun x q a => cm x q (by omega) (by omega)))
  · rw [f5_w 1] at y
    exact (k1_w y).fr u4_w s12 f8_w (fun q a b => f4_w _ (by omega) (by omega)) (RWS.all (fun x q a => cm x q (by omega) (by omega)))
end ACS
end
section
/-! ===== deeds keep_w what is_w laid_w down_w the same on_w both_w sides ===== -/
section ACD
variable {xs : Nat → Int} {L K n : Nat} {c d : Nat} {h h' h1 h2 x y : XH} {D : DD} {v : List Int} {w : Nat}
theorem ACC.u (a : ACC h) (cw : CRW h h1) (u : RefU h h1) : ACC h1 := a.fr cw (fun k _ => u 188 k (by decide) (by decide)) (fun q _ => u 194 q (by decide) (by decide)) (u 182 18 (by decide) (by decide)) (u 195 0 (by decide) (by decide)) (u 195 1 (by decide) (by decide))
end ACD
end
section
/-! ===== marks_w, grid, work, feed, questions keep_w what is_w laid_w down_w the same ===== -/
section ACY
variable {xs : Nat → Int} {L K n : Nat} {c d : Nat} {h h' h1 h2 x y : XH} {D : DD} {v : List Int} {w : Nat}
/-- a mark_w is_w gone back to -/
theorem ACC.bk {o cc : Nat} (a : ACC h) (l : LKQ o cc h) (lo_w : RWS o 70 (h 194 (cc + 162)) h h') (cw : ∀ x q : Nat, 112 ≤ x → x ≤ 153 → h' x q = h x q) (e : ∀ k : Nat, k < 4 → h' 188 k = h 188 k) (z : ∀ q : Nat, 429 ≤ q → q < 4719 → h' 194 q = h 194 q) (zb : ∀ q : Nat, q < 429 → h' 194 q = h 194 (cc + q)) (u : h' 182 18 = 0) (m0_w : h 195 0 = 0 → h' 195 0 ≠ 0 → LKQ 112 429 h) (m1_w : h 195 1 = 0 → h' 195 1 ≠ 0 → LKQ 133 858 h) : ACC h' := by
  obtain ⟨⟨u4_w, s12, n8⟩, l0, li, lm, k0_w, k1_w⟩ := a
  have w112 : ∀ b, RWS 112 112 b h h' := fun b => RWS.all (fun x q a => cw x q (by omega) (by omega))
  have w133 : ∀ b, RWS 133 133 b h h' := fun b => RWS.all (fun x q a => cw x q (by omega) (by omega))
  refine ⟨⟨by rw [e 2 (by decide)]; exact u4_w, by rw [e 0 (by decide)]; exact s12, by omega⟩, l.fr u4_w s12 e (fun q _ b => by rw [Nat.zero_add]; exact zb q (by omega)) lo_w, fun i hi_w => absurd hi_w (by omega), fun i j _ hj => absurd hj (by omega), fun y => ?_, fun y => ?_⟩
  · have k : LKQ 112 429 h := by
      by_cases t : h 195 0 = 0
      · exact m0_w t y
      · exact k0_w t
    exact k.fr u4_w s12 e (fun q _ _ => z _ (by omega) (by omega)) (w112 _)
  · have k : LKQ 133 858 h := by
      by_cases t : h 195 1 = 0
      · exact m1_w t y
      · exact k1_w t
    exact k.fr u4_w s12 e (fun q _ _ => z _ (by omega) (by omega)) (w133 _)
theorem ACC.q {r : Nat} {ws_w v : List Int} (y : ACC h) (hI : Inv5 h) (cw : CRW h h1) (u : RefU h h1) (hf : r_n5 r = true) (hb_w : BKp xs L K n r ws_w) (e : evF xs L g_ck K g_cW g_M n r (182 :: ws_w) ((a_g3, c, d), h1) = some (1, v, ((a_g3, c, d), h2))) : ACC h2 := by
  obtain ⟨D, cd, rf, sm_w⟩ := hI.2
  simp only [r_n5, Bool.and_eq_true, Bool.not_eq_true'] at hf
  obtain ⟨⟨f4_w, f18⟩, f195⟩ := hf
  have f4' := f4_w
  simp only [r_n4, r_n3, r_nf, Bool.and_eq_true, Bool.not_eq_true'] at f4'
  have fin_w : m_in r = true := f4'.1.1.1.1.1.1.1.1.1.1
  obtain ⟨-, fr⟩ := fr_all n r (182 :: ws_w) _ _ _ _ _ _ fin_w rfl (Or.inr rfl) e
  obtain ⟨-, -, b5, b6, b7⟩ := ref_4 (g := (a_g3, c, d)) f4_w rfl e
  have uu : ∀ o, 182 ≤ o → o ≤ 202 → h1 o = h o := fun o a b => funext fun k => u o k a b
  have rf1 : RF D h1 := rf.fr (uu 188 (by decide) (by decide)) (uu 189 (by decide) (by decide)) (uu 190 (by decide) (by decide))
  have e1_w := uu 191 (by decide) (by decide)
  obtain ⟨l30, ln⟩ := lnb_of hI.1.1.2
  have bk : BKq h1 h2 := hb_w c d h1 h2 v D rf1 (by rw [e1_w]; exact l30) (fun n z => by rw [e1_w] at z ⊢; exact ln n z) e
  exact (y.u cw u).fr (fun x q a => fr x q (fun z => by omega) (fr_lo fin_w (by omega))) (fun k _ => congrFun b5 k) (fun q z => bk q z) (fr 182 18 (fun _ => f18) (fr_lo fin_w (by decide))) (fr 195 0 (fun y => absurd y (by decide)) f195) (fr 195 1 (fun y => absurd y (by decide)) f195)
end ACY
end
section
/-! ===== contracts: what a run laid_w down_w, asked_w ===== -/
/-- which run, supplier, slot_w -/
def okLv (D : DD) (R r u s : Int) : Prop := (0 ≤ r ∧ r < R) ∧ (0 ≤ u ∧ u < (nU D : Int)) ∧ 0 ≤ s ∧ s < (nS D : Int)
/-- the accounts of the last_w run, in the reference's cells_w -/
def APQ (L : List Nat) (h : XH) : Prop := h 194 355 = (L.length : Int) ∧ ∀ i k : Nat, L[i]? = some k → h 194 (356 + 3 * i) = ((k / 4 : Nat) : Int) ∧ h 194 (356 + 3 * i + 1) = ((k % 4 : Nat) : Int)
def cq48 (h : XH) (r u s : Nat) : Int := h 78 (48 * r + (12 * u + s))
def k27 : KT := fun av h Q => match av with
  | [o, r, u, s] => o = 0 ∧ ∃ D : DD, WFD D ∧ CDw 6 D h ∧ h 70 10 ≤ 4 ∧ (¬ okLv D (h 70 10) r u s → Q 4 [] h) ∧ (okLv D (h 70 10) r u s → Q 1 [cq48 h r.toNat u.toNat s.toNat] h)
  | _ => False
end
section
/-! ===== what a run laid_w down_w, asked_w on_w both_w sides ===== -/
section ASKV
variable {xs : Nat → Int} {L K m n : Nat} {c d : Nat} {h h' hX h1 h2 : XH} {D : DD} {x y z : Int}
theorem APQ.u {M : List Nat} (a : APQ M h) (u : RefU h h1) : APQ M h1 := ⟨(u 194 _ (by decide) (by decide)).trans a.1, fun i k z => ⟨(u 194 _ (by decide) (by decide)).trans (a.2 i k z).1, (u 194 _ (by decide) (by decide)).trans (a.2 i k z).2⟩⟩
end ASKV
end
section
/-! ===== what a work's lines do to a state_w (pure) ===== -/
/-- a line that a grid allows -/
def LV (D : DD) (x : LX) : Prop := (x.1 = 0 ∧ 0 ≤ x.2.1 ∧ x.2.1 < (nM D : Int) ∧ 0 ≤ x.2.2.1 ∧ x.2.2.1 ≤ 12 ∧ 0 ≤ x.2.2.2 ∧ x.2.2.2 ≤ 9999) ∨ (x.1 = 1 ∧ 0 ≤ x.2.1 ∧ x.2.1 < (nM D : Int) ∧ 0 ≤ x.2.2.1 ∧ x.2.2.1 < (nU D : Int) ∧ 0 ≤ x.2.2.2 ∧ x.2.2.2 ≤ 11) ∨ (x.1 = 2 ∧ 0 ≤ x.2.1 ∧ x.2.1 < (nS D : Int) ∧ 0 ≤ x.2.2.1 ∧ x.2.2.1 ≤ 9999) ∨ x.1 = 3
def LVs (D : DD) (N : List LX) : Prop := ∀ x ∈ N, LV D x
end
section
/-! ===== a work's lines are the same on_w both_w sides ===== -/
def LJ (h : XH) : Prop := ∃ (D : DD) (N : List LX), RF D h ∧ LVs D N ∧ LNS 52 N h ∧ h 191 0 = (N.length : Int) ∧ LNR 1 N h
def L52 (h h1 : XH) : Prop := ∀ x q : Nat, 52 ≤ x → x ≤ 60 → h1 x q = h x q
def r_lj (r : Nat) : Bool := m_in r && !((m_W r).2.contains 188) && !((m_W r).2.contains 189) && !((m_W r).2.contains 190) && !((m_W r).2.contains 191)
section LJS
variable {xs : Nat → Int} {L K m n : Nat} {c d : Nat} {h h' h1 h2 : XH} {D D' : DD} {v : List Int} {N : List LX} {x : Int}
theorem LNS.fr2 {b : Nat} (l : LNS b N h) (a : ∀ y q : Nat, b ≤ y → y ≤ b + 8 → h' y q = h y q) : LNS b N h' := ⟨(a _ _ (by omega) (by omega)).trans l.1, l.2.1, fun k y z => ⟨(a _ _ (by omega) (by omega)).trans (l.2.2 k y z).1, (a _ _ (by omega) (by omega)).trans (l.2.2 k y z).2.1, (a _ _ (by omega) (by omega)).trans (l.2.2 k y z).2.2.1, (a _ _ (by omega) (by omega)).trans (l.2.2 k y z).2.2.2⟩⟩
theorem LNR.fr2 {b : Nat} (l : LNR b N h) (a : ∀ q : Nat, h' 191 q = h 191 q) : LNR b N h' := ⟨l.1, fun k y z => by
  obtain ⟨l0, l1, l2, l3⟩ := l.2 k y z
  exact ⟨(a _).trans l0, (a _).trans l1, (a _).trans l2, (a _).trans l3⟩⟩
theorem LJ.fr (l : LJ h) (a : L52 h h') (r : ∀ y q : Nat, y = 188 ∨ y = 189 ∨ y = 190 → h' y q = h y q) (e : ∀ q : Nat, h' 191 q = h 191 q) : LJ h' := by
  obtain ⟨D, N, rf, lv, ln, l0, lr⟩ := l
  exact ⟨D, N, rf.fr3 r, lv, ln.fr2 (fun y q z1 z2 => a y q z1 z2), (e 0).trans l0, lr.fr2 e⟩
theorem LJ.u (l : LJ h) (cw : L52 h h1) (u : RefU h h1) : LJ h1 := l.fr cw (fun y q z => u y q (by omega) (by omega)) (fun q => u 191 q (by decide) (by decide))
theorem LJ.r {r : Nat} {ws_w : List Int} (l : LJ h1) (hr : r_lj r = true) (e : evF xs L g_ck K g_cW g_M n r (182 :: ws_w) ((a_g3, c, d), h1) = some (1, v, ((a_g3, c, d), h2))) : LJ h2 := by
  simp only [r_lj, Bool.and_eq_true, Bool.not_eq_true'] at hr
  obtain ⟨⟨⟨⟨hi_w, f8_w⟩, f9_w⟩, f0_w⟩, f1_w⟩ := hr
  obtain ⟨-, fr⟩ := fr_all n r (182 :: ws_w) _ _ _ _ _ _ hi_w rfl (Or.inr rfl) e
  refine l.fr (fun x q a b => fr x q (fun z => by omega) (fr_lo hi_w (by omega))) (fun y q z => ?_) (fun q => fr 191 q (fun z => absurd z (by decide)) f1_w)
  rcases z with z | z | z
  · subst z
    exact fr 188 q (fun z => absurd z (by decide)) f8_w
  · subst z
    exact fr 189 q (fun z => absurd z (by decide)) f9_w
  · subst z
    exact fr 190 q (fun z => absurd z (by decide)) f0_w
theorem LJ.q {r : Nat} {ws_w : List Int} (l : LJ h) (cw : L52 h h1) (u : RefU h h1) (hr : r_lj r = true) (e : evF xs L g_ck K g_cW g_M n r (182 :: ws_w) ((a_g3, c, d), h1) = some (1, v, ((a_g3, c, d), h2))) : LJ h2 := (l.u cw u).r hr e
theorem LVs.cg (l : LVs D N) (e1_w : nM D' = nM D) (e2_w : nU D' = nU D) (e3_w : nS D' = nS D) : LVs D' N := fun x hx => by
  have t := l x hx
  unfold LV at t ⊢
  rw [e1_w, e2_w, e3_w]
  exact t
end LJS
end
