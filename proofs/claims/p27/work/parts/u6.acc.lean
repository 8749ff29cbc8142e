/-! ===== what is_w laid_w down_w is_w the same on_w both_w sides ===== -/
def LKQ (o c : Nat) (h : XH) : Prop := h 194 (c + 162) ≤ 4 ∧ (∀ r u s : Nat, (r : Int) < h 194 (c + 162) → (u : Int) < h 188 2 → (s : Int) < h 188 0 → h (o + 8) (48 * r + (12 * u + s)) = h 194 (c + (163 + (48 * r + (12 * u + s))))) ∧ (h 194 (c + 162) = 0 → h 194 (c + 355) = 0) ∧ ∀ r : Nat, h 194 (c + 162) = ((r + 1 : Nat) : Int) → ∃ L : List Nat, KL L ∧ h (o + 14) r = (L.length : Int) ∧ h 194 (c + 355) = (L.length : Int) ∧ ∀ i k : Nat, L[i]? = some k → h (o + 10) (16 * r + i) = (k : Int) ∧ h 194 (c + (356 + 3 * i)) = ((k / 4 : Nat) : Int) ∧ h 194 (c + (356 + 3 * i + 1)) = ((k % 4 : Nat) : Int) ∧ h (o + 12) (16 * r + i) = h 194 (c + (356 + 3 * i + 2))
def ACB (h : XH) : Prop := h 188 2 ≤ 4 ∧ h 188 0 ≤ 12 ∧ h 182 18 ≤ 8
def ACC (h : XH) : Prop := ACB h ∧ LKQ 70 0 h ∧ (∀ i : Nat, (i : Int) < h 182 18 → LKQ 70 (429 * (3 + i)) h ∧ h 194 (429 * (3 + i) + 162) ≤ h 194 162) ∧ (∀ i j : Nat, i < j → (j : Int) < h 182 18 → h 194 (429 * (3 + i) + 162) ≤ h 194 (429 * (3 + j) + 162)) ∧ (h 195 0 ≠ 0 → LKQ 112 429 h) ∧ (h 195 1 ≠ 0 → LKQ 133 858 h)
/-- a ledger's rows of what was laid_w down_w, for_w the first runs -/
def RWS (o o' : Nat) (b : Int) (h h' : XH) : Prop := ∀ r : Nat, (r : Int) < b → (∀ t : Nat, t < 48 → h' (o' + 8) (48 * r + t) = h (o + 8) (48 * r + t)) ∧ (∀ t : Nat, t < 16 → h' (o' + 10) (16 * r + t) = h (o + 10) (16 * r + t)) ∧ (∀ t : Nat, t < 16 → h' (o' + 12) (16 * r + t) = h (o + 12) (16 * r + t)) ∧ h' (o' + 14) r = h (o + 14) r
section ACS
variable {xs : Nat → Int} {L K n : Nat} {c c' d o o' : Nat} {h h' h1 h2 x y : XH} {D : DD} {v : List Int} {w : Nat} {b : Int}
theorem RWS.all (z : ∀ x q : Nat, (x = o + 8 ∨ x = o + 10 ∨ x = o + 12 ∨ x = o + 14) → h' x q = h x q) : RWS o o b h h' := fun r _ => ⟨fun t _ => z _ _ (by omega), fun t _ => z _ _ (by omega), fun t _ => z _ _ (by omega), z _ _ (by omega)⟩
theorem LKQ.fr (l : LKQ o c h) (u4_w : h 188 2 ≤ 4) (s12 : h 188 0 ≤ 12) (e : ∀ k : Nat, k < 4 → h' 188 k = h 188 k) (z : ∀ q : Nat, 162 ≤ q → q < 404 → h' 194 (c' + q) = h 194 (c + q)) (rw0 : RWS o o' (h 194 (c + 162)) h h') : LKQ o' c' h' := by
  obtain ⟨l0, l1, l2, l3⟩ := l
  have z2 := z 162 (by decide) (by decide)
  refine ⟨by rw [z2]; exact l0, fun r u s hr hu hs => ?_, fun y => ?_, fun r hr => ?_⟩
  · rw [z2] at hr
    rw [e 2 (by decide)] at hu
    rw [e 0 (by decide)] at hs
    rw [(rw0 r hr).1 _ (by omega), z _ (by omega) (by omega)]
    exact l1 r u s hr hu hs
  · rw [z2] at y
    rw [z 355 (by decide) (by decide)]
    exact l2 y
  · rw [z2] at hr
    obtain ⟨L, kl, a1_w, a2, a3⟩ := l3 r hr
    obtain ⟨-, b10, b12, b14⟩ := rw0 r (by omega)
    have l16 := kl.le
    refine ⟨L, kl, b14.trans a1_w, (z 355 (by decide) (by decide)).trans a2, fun i k t => ?_⟩
    have hi_w := (List.getElem?_eq_some_iff.mp t).1
    obtain ⟨t1_w, t2_w, t3_w, t4_w⟩ := a3 i k t
    rw [b10 i (by omega), b12 i (by omega), z _ (by omega) (by omega), z _ (by omega) (by omega), z _ (by omega) (by omega)]
    exact ⟨t1_w, t2_w, t3_w, t4_w⟩
/-- the class's rows of what was laid_w down_w -/
def CRW (h h' : XH) : Prop := ∀ x q : Nat, (78 ≤ x ∧ x ≤ 84) ∨ (112 ≤ x ∧ x ≤ 153) → h' x q = h x q
theorem ACC.fr2 (a : ACC h) (rw0 : RWS 70 70 (h 194 162) h h') (cm : ∀ x q : Nat, 112 ≤ x → x ≤ 153 → h' x q = h x q) (e : ∀ k : Nat, k < 4 → h' 188 k = h 188 k) (z : ∀ q : Nat, q < 4719 → h' 194 q = h 194 q) (u : h' 182 18 = h 182 18) (m0_w : h' 195 0 = h 195 0) (m1_w : h' 195 1 = h 195 1) : ACC h' := by
  obtain ⟨⟨u4_w, s12, n8⟩, l0, li, lm, k0_w, k1_w⟩ := a
  have wle : ∀ {b : Int}, b ≤ h 194 162 → RWS 70 70 b h h' := fun hb_w r hr => rw0 r (by omega)
  refine ⟨⟨by rw [e 2 (by decide)]; exact u4_w, by rw [e 0 (by decide)]; exact s12, by rw [u]; exact n8⟩, l0.fr u4_w s12 e (fun q _ _ => z _ (by omega)) (wle (by rw [Nat.zero_add]; omega)), fun i hi_w => ?_, fun i j ij hj => ?_, fun y => ?_, fun y => ?_⟩
  · rw [u] at hi_w
    rw [z _ (by omega), z 162 (by decide)]
    exact ⟨(li i hi_w).1.fr u4_w s12 e (fun q _ _ => z _ (by omega)) (wle (li i hi_w).2), (li i hi_w).2⟩
  · rw [u] at hj
    rw [z _ (by omega), z _ (by omega)]
    exact lm i j ij hj
  · rw [m0_w] at y
    exact (k0_w y).fr u4_w s12 e (fun q _ _ => z _ (by omega)) (RWS.all (fun x q a => cm x q (by omega) (by omega)))
  · rw [m1_w] at y
    exact (k1_w y).fr u4_w s12 e (fun q _ _ => z _ (by omega)) (RWS.all (fun x q a => cm x q (by omega) (by omega)))
theorem ACC.fr (a : ACC h) (cr : CRW h h') (e : ∀ k : Nat, k < 4 → h' 188 k = h 188 k) (z : ∀ q : Nat, q < 4719 → h' 194 q = h 194 q) (u : h' 182 18 = h 182 18) (m0_w : h' 195 0 = h 195 0) (m1_w : h' 195 1 = h 195 1) : ACC h' := a.fr2 (RWS.all (fun x q a => cr x q (by omega))) (fun x q a b => cr x q (Or.inr ⟨a, b⟩)) e z u m0_w m1_w
theorem ACC.th (a : ACC h) : ACC (thz h) := a.fr (fun x q a => th_e (by omega)) (fun k _ => th_e (by decide)) (fun q _ => th_e (by decide)) (up_ne (by omega)) (th_e (by decide)) (th_e (by decide))
/-- one more_w deed: what was is_w kept; the runs are the same, or_w one more_w -/
theorem ACC.push (a : ACC h) (hw : h 182 18 = (w : Int)) (kx : RKP w (thz h) x) (e8 : ∀ k : Nat, k < 4 → h' 188 k = x 188 k) (e4_w : ∀ k : Nat, 404 ≤ k → k < 4719 → h' 194 k = x 194 k) (e2_w : h' 182 18 = x 182 18) (e5_w : ∀ k : Nat, h' 195 k = x 195 k) (cm : ∀ x q : Nat, 112 ≤ x → x ≤ 153 → h' x q = h x q) (rw0 : RWS 70 70 (h 194 162) h h') (rn : h 194 162 ≤ h' 194 162) (l' : LKQ 70 0 h') : ACC h' := by
  obtain ⟨⟨u4_w, s12, n8⟩, l0, li, lm, k0_w, k1_w⟩ := a
  obtain ⟨x1_w, x2_w, x3, x4_w⟩ := kx
  have w8 : w ≤ 8 := by omega
  have p7_w : pn8 w ≤ 7 := by
    unfold pn8
    split <;> omega
  have f8_w : ∀ k : Nat, k < 4 → h' 188 k = h 188 k := fun k z => (e8 k z).trans ((x1_w 188 k (by omega) (by omega)).trans (th_e (by decide)))
  have f5_w : ∀ k : Nat, h' 195 k = h 195 k := fun k => (e5_w k).trans ((x1_w 195 k (by omega) (by omega)).trans (th_e (by decide)))
  have f4_w : ∀ k : Nat, 404 ≤ k → k < 1287 → h' 194 k = h 194 k := fun k a b => (e4_w k a (by omega)).trans ((x1_w 194 k (by omega) (by omega)).trans (th_e (by decide)))
  have f2_w : h' 182 18 = ((pn8 w + 1 : Nat) : Int) := e2_w.trans x2_w
  have old_w : ∀ i : Nat, i < pn8 w → (((if w = 8 then i + 1 else i) : Nat) : Int) < h 182 18 := fun i ip => by
    unfold pn8 at ip
    split at ip
    · rw [if_pos (by assumption)]
      omega
    · rw [if_neg (by assumption)]
      omega
  have cel : ∀ i : Nat, i < pn8 w → ∀ q : Nat, q < 404 → h' 194 (429 * (3 + i) + q) = h 194 (429 * (3 + (if w = 8 then i + 1 else i)) + q) := fun i ip q hq => by
    rw [e4_w _ (by omega) (by omega), x3 i ip q hq, th_e (by decide)]
  have top : ∀ q : Nat, q < 404 → h' 194 (429 * (3 + pn8 w) + q) = h 194 (0 + q) := fun q hq => by
    rw [e4_w _ (by omega) (by omega), x4_w q hq, th_e (by decide), Nat.zero_add]
  have wle : ∀ {b : Int}, b ≤ h 194 162 → RWS 70 70 b h h' := fun hb_w r hr => rw0 r (by omega)
  refine ⟨⟨by rw [f8_w 2 (by decide)]; exact u4_w, by rw [f8_w 0 (by decide)]; exact s12, by omega⟩, l', fun i hi_w => ?_, fun i j ij hj => ?_, fun y => ?_, fun y => ?_⟩
  · by_cases yi : i = pn8 w
    · subst yi
      refine ⟨l0.fr u4_w s12 f8_w (fun q _ b => top q b) (wle (by rw [Nat.zero_add]; omega)), ?_⟩
      rw [top 162 (by decide), Nat.zero_add]
      exact rn
    · have ip : i < pn8 w := by omega
      obtain ⟨t1_w, t2_w⟩ := li _ (old_w i ip)
      refine ⟨t1_w.fr u4_w s12 f8_w (fun q _ b => cel i ip q b) (wle t2_w), ?_⟩
      rw [cel i ip 162 (by decide)]
      omega
  · by_cases yj : j = pn8 w
    · subst yj
      rw [cel i ij 162 (by decide), top 162 (by decide), Nat.zero_add]
      exact (li _ (old_w i ij)).2
    · have jp : j < pn8 w := by omega
      rw [cel i (by omega) 162 (by decide), cel j jp 162 (by decide)]
      refine lm _ _ ?_ (old_w j jp)
      by_cases y8 : w = 8
      · rw [if_pos y8, if_pos y8]
        omega
      · rw [if_neg y8, if_neg y8]
        exact ij
  · rw [f5_w 0] at y
    exact (k0_w y).fr u4_w s12 f8_w (fun q a b => f4_w _ (by omega) (by omega)) (RWS.all (fun x q a => cm x q (by omega) (by omega)))
  · rw [f5_w 1] at y
    exact (k1_w y).fr u4_w s12 f8_w (fun q a b => f4_w _ (by omega) (by omega)) (RWS.all (fun x q a => cm x q (by omega) (by omega)))
end ACS
