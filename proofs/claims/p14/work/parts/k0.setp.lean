/-! ===== what a question_w of a settlement is_w asked_w of, on_w both_w sides ===== -/
section CGK
variable {D : DD} {a b g f : Nat → Int} {m s c u n : Nat} {x y : Int}
theorem bstS_cg {c d : Nat → Int} : ∀ k, (∀ i, i ≤ k → c i = d i) → bstS c k = bstS d k
  | 0, _ => rfl
  | k + 1, z => by
    have ih_w := bstS_cg k (fun i y => z i (by omega))
    have bb := bstS_b (c := d) k
    have e1_w : c (bstS d k) = d (bstS d k) := z _ (by omega)
    have e2_w : c (k + 1) = d (k + 1) := z _ (Nat.le_refl _)
    show (if c (bstS c k) < c (k + 1) then k + 1 else bstS c k) = (if d (bstS d k) < d (k + 1) then k + 1 else bstS d k)
    rw [ih_w, e1_w, e2_w]
theorem gvS_cg (n0_w : 0 < n) : ∀ (t : Nat) (p q c d : Nat → Int), (∀ i, i < n → p i = q i) → (∀ i, i < n → c i = d i) → ∀ k, k < n → gvS n t p c k = gvS n t q d k
  | 0, _, _, _, _, z, _, k, hk => z k hk
  | t + 1, p, q, c, d, z, y, k, hk => by
    have b : bstS c (n - 1) = bstS d (n - 1) := bstS_cg _ (fun i x => y i (by omega))
    have bb := bstS_b (c := d) (n - 1)
    have e1_w : p (bstS d (n - 1)) = q (bstS d (n - 1)) := z _ (by omega)
    show gvS n t (updF p (bstS c (n - 1)) (p (bstS c (n - 1)) + 1)) (updF c (bstS c (n - 1)) (-1)) k = gvS n t (updF q (bstS d (n - 1)) (q (bstS d (n - 1)) + 1)) (updF d (bstS d (n - 1)) (-1)) k
    rw [b, e1_w]
    refine gvS_cg n0_w t _ _ _ _ (fun i x => ?_) (fun i x => ?_) k hk
    · unfold updF
      by_cases e : i = bstS d (n - 1)
      · rw [if_pos e, if_pos e]
      · rw [if_neg e, if_neg e]
        exact z i x
    · unfold updF
      by_cases e : i = bstS d (n - 1)
      · rw [if_pos e, if_pos e]
      · rw [if_neg e, if_neg e]
        exact y i x
theorem outS_cg {w v : Nat → Int} (e : x = y) (z : ∀ i, i < n → w i = v i) {k : Nat} (hk : k < n) : outS x n w k = outS y n v k := by
  subst e
  have s : sumN w n = sumN v n := sumN_cg n z
  have l : lftS x n w = lftS x n v := by
    unfold lftS
    rw [s, sumN_cg (f := fun k => ptS x (sumN v n) (w k)) (g := fun k => ptS x (sumN v n) (v k)) n (fun i a => by
      show ptS x (sumN v n) (w i) = ptS x (sumN v n) (v i)
      rw [z i a])]
  have p : prtS x n w k = prtS x n v k := by
    unfold prtS
    rw [l]
    exact gvS_cg (by omega) _ _ _ _ _ (fun i a => by
      show ptS x (sumN w n) (w i) = ptS x (sumN v n) (v i)
      rw [s, z i a]) (fun i a => by
      show rmS x (sumN w n) (w i) = rmS x (sumN v n) (v i)
      rw [s, z i a]) k hk
  unfold outS
  rw [p]
theorem mwS_cg (z : ∀ i, i < nM D → g i = f i) (hm_w : m < nM D) : mwS D g c m = mwS D f c m := by
  have q : ∀ i, i < nM D → mw0S D g c i = mw0S D f c i := fun i a => by
    unfold mw0S
    rw [z i a]
  unfold mwS
  rw [sumN_cg (f := mw0S D g c) (g := mw0S D f c) _ q, q m hm_w]
theorem gA_cg (w : WFD D) (e : EqD D a b) (hm_w : m < nM D) (hs : s < nS D) : gA D a s m = gA D b s m := by
  have k : useS D (rdA a m) m s = useS D (rdA b m) m s := useS_cg w hs (fun p z => by
    show a (13 * m + p) = b (13 * m + p)
    exact e _ (Or.inl (by omega)))
  unfold gA groS
  rw [k]
theorem lodA_cg (w : WFD D) (e : EqD D a b) (hs : s < nS D) : lodA D a s = lodA D b s := funext fun c => by
  unfold lodA
  refine sumN_cg _ (fun i z => ?_)
  show (if grpD D i = c then gA D a s i else 0) = (if grpD D i = c then gA D b s i else 0)
  rw [gA_cg w e z hs]
theorem resA_cg (w : WFD D) (e : EqD D a b) (hs : s < nS D) : resA D a s = resA D b s := by
  unfold resA
  rw [e (150 + s) (Or.inr (Or.inr (Or.inl ⟨by omega, by omega⟩))), sumN_cg (f := gA D a s) (g := gA D b s) _ (fun i z => gA_cg w e z hs)]
theorem smrA_cg (w : WFD D) (e : EqD D a b) (hs : s < nS D) : smrA D a s c = smrA D b s c := by
  unfold smrA
  rw [lodA_cg w e hs, resA_cg w e hs]
theorem netA_cg (w : WFD D) (e : EqD D a b) (hm_w : m < nM D) (hs : s < nS D) : netA D a s m = netA D b s m := by
  unfold netA ntS
  rw [lodA_cg w e hs, resA_cg w e hs, gA_cg w e hm_w hs, sumN_cg (f := fun c => outS (smS D (lodA D b s) (resA D b s) s c) (nM D) (mwS D (gA D a s) c) m) (g := fun c => outS (smS D (lodA D b s) (resA D b s) s c) (nM D) (mwS D (gA D b s) c) m) (nC D) (fun c _ => outS_cg rfl (fun i z => mwS_cg (fun j y => gA_cg w e y hs) z) hm_w)]
theorem shrA_cg (w : WFD D) (e : EqD D a b) (hs : s < nS D) : shrA D a s u = shrA D b s u := by
  obtain ⟨c4, u4_w, m6_w, s12, eD⟩ := w.cn
  unfold shrA
  refine sumN_cg _ (fun i z => ?_)
  show (if a (78 + (12 * i + s)) = (u : Int) then netA D a s i else 0) = (if b (78 + (12 * i + s)) = (u : Int) then netA D b s i else 0)
  rw [e (78 + (12 * i + s)) (Or.inr (Or.inl ⟨by omega, by omega⟩)), netA_cg w e z hs]
end CGK
section SETOF
variable {h h1 h2 : XH} {D : DD} {a b : Nat → Int} {x y : Int}
theorem LWC_of (lq : LQ h) (rf : RF D h) (cd : CDw 6 D h) (hc_w : 0 < nC D) : LWC D h := by
  have l := cd.2.2.2.2.2 (fun z => by
    unfold nC at hc_w
    rw [z] at hc_w
    exact absurd hc_w (by decide))
  exact ⟨lwk_of lq rf rf.w, l.2.2, l.1, l.2.1⟩
theorem le_189 (lq : LQ h) {k : Nat} (hk : k < 2200) : h 189 k ≤ 2147483647 := by
  obtain ⟨P, hQ, -⟩ := lq
  exact (q_cell hQ (q := 189) (r := 0) (x := (0, 2200, (1, (-2147483648), 2147483647))) (by decide) rfl rfl (i := k) (Nat.zero_le _) hk).2.1
theorem LWR_of (lq : LQ h) (rf : RF D h) : LWR D h := by
  refine ⟨fun l e => ?_, nolaw_of rf⟩
  obtain ⟨k1_w, k2, k3⟩ := law_of lq rf rf.w e
  refine ⟨k1_w, k2, k3, fun x hx => ?_⟩
  obtain ⟨k, hk, ek⟩ := List.getElem_of_mem hx
  have z := k3 k x (by rw [List.getElem?_append_left hk, List.getElem?_eq_getElem hk, ek])
  rw [← z]
  exact le_189 lq (by have := k1_w.2.2; omega)
theorem RGA.cg (e : EqD D a b) (r : RGA D b) : RGA D a := ⟨fun q z => by rw [e q (Or.inl z)]; exact r.1 q z, fun q z1 z2 => by rw [e q (Or.inr (Or.inl ⟨z1, z2⟩))]; exact r.2.1 q z1 z2, fun q z1 z2 => by rw [e q (Or.inr (Or.inr (Or.inl ⟨z1, z2⟩)))]; exact r.2.2 q z1 z2⟩
theorem RGA_of (lq : LQ h) (m6_w : nM D ≤ 6) (s12 : nS D ≤ 12) : RGA D (bl 0 h) := by
  obtain ⟨P, hQ, -⟩ := lq
  have ce : ∀ q : Nat, bl 0 h q = h 194 (429 * 0 + q) := fun q => rfl
  refine ⟨fun q z => ?_, fun q z1 z2 => ?_, fun q z1 z2 => ?_⟩
  · have k := s_cell hQ (r := 0) (x := (0, 78, (1, (-1), 9999))) rfl (i := q) (j := 0) (Nat.zero_le _) (by dsimp only; omega) (by decide)
    rw [ce]
    exact ⟨k.1, k.2.1⟩
  · have k := s_cell hQ (r := 1) (x := (78, 150, (1, 0, 3))) rfl (i := q) (j := 0) z1 (by dsimp only; omega) (by decide)
    rw [ce]
    exact ⟨k.1, k.2.1⟩
  · have k := s_cell hQ (r := 2) (x := (150, 162, (1, 0, 9999))) rfl (i := q) (j := 0) z1 (by dsimp only; omega) (by decide)
    rw [ce]
    exact ⟨k.1, k.2.1⟩
theorem setp_of (cd : CDw 6 D h) (rf : RF D h) (sm_w : SM D h) (lq : LQ h) : SETP D h := ⟨rf.w, cd, LWC_of lq rf cd, RGA.cg sm_w.2.2.1 (RGA_of lq sm_w.1 sm_w.2.1)⟩
theorem rset_of (rf : RF D h) (sm_w : SM D h) (lq : LQ h) : RSET D h := ⟨rf.w, rf, LWR_of lq rf, RGA_of lq sm_w.1 sm_w.2.1⟩
end SETOF
