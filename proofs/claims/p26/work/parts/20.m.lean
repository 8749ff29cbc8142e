section
/-! ===== contracts: what is_w tried in a book_w: swing, gains, bears, heaviest ===== -/
section BKS
variable {D : DD} {a b : Nat → Int} {m u k : Nat} {v : Int}
theorem RGA.up (r : RGA D a) (hk : k < 78) (hv : -1 ≤ v ∧ v ≤ 9999) : RGA D (updF a k v) := ⟨fun q z => by
  by_cases y : q = k
  · rw [y, updF_at]
    exact hv
  · rw [updF_ne y]
    exact r.1 q z, fun q z1 z2 => by
  rw [updF_ne (by omega)]
  exact r.2.1 q z1 z2, fun q z1 z2 => by
  rw [updF_ne (by omega)]
  exact r.2.2 q z1 z2⟩
end BKS
/-- a book_w is_w opened_w: what lies there_w is_w tried -/
def OPC (h h' : XH) : Prop := (∀ x k : Nat, ¬ (91 ≤ x ∧ x ≤ 111) → ¬ (x = 0 ∧ k = 15) → h' x k = h x k) ∧ ∀ q : Nat, q ≤ 162 → cl 91 h' q = cl 70 h q
section KKR0
variable {h h' h1 h2 : XH} {Q : Nat → List Int → XH → Prop} {t m p v u : Int} {D : DD}
theorem SETP.fr (r : SETP D h) (z : ∀ o k : Nat, (6 ≤ o ∧ o ≤ 24) ∨ (70 ≤ o ∧ o ≤ 90) → h' o k = h o k) : SETP D h' ∧ cl 70 h' = cl 70 h := by
  have e : cl 70 h' = cl 70 h := cl_eq (fun o k a b => z o k (Or.inr ⟨a, by omega⟩))
  refine ⟨⟨r.1, r.2.1.fr (fun o k a b => z o k (Or.inl ⟨a, b⟩)), fun y => (r.2.2.1 y).fr (z 22 3 (Or.inl ⟨by decide, by decide⟩)) (fun k => z 24 k (Or.inl ⟨by decide, by decide⟩)), ?_⟩, e⟩
  rw [e]
  exact r.2.2.2
theorem OPC.eq (o : OPC h h') (r : SETP D h) : EqD D (cl 91 h') (cl 70 h) := EqD.of r.1.cn.2.2.1 r.1.cn.2.2.2.1 o.2
theorem RSET.fr2 (r : RSET D h) (z1 : ∀ k : Nat, h' 188 k = h 188 k) (z2 : ∀ k : Nat, h' 189 k = h 189 k) (z3 : ∀ k : Nat, h' 190 k = h 190 k) (z4 : ∀ q : Nat, q < 404 → h' 194 q = h 194 q) : RSET D h' ∧ EqD D (bl 0 h') (bl 0 h) := by
  have e : EqD D (bl 0 h') (bl 0 h) := EqD.of r.1.cn.2.2.1 r.1.cn.2.2.2.1 (fun q y => z4 (0 + q) (by omega))
  refine ⟨⟨r.1, r.2.1.fr3 (fun x k a => ?_), r.2.2.1.fr (fun x k a => ?_), RGA.cg e r.2.2.2⟩, e⟩
  · rcases a with rfl | rfl | rfl
    · exact z1 k
    · exact z2 k
    · exact z3 k
  · rcases a with rfl | rfl
    · exact z1 k
    · exact z2 k
end KKR0
end
section
/-! ===== what lasts beside the state_w: with whom meters are is_w told_w, slots_w that are seen_w are slots_w ===== -/
def SBK (c : Nat) (h : XH) : Prop := ∀ q : Nat, 78 ≤ q → (q : Int) < 78 + 12 * h 188 3 → h 194 (c + q) < h 188 2
def SLT (c : Nat) (h : XH) : Prop := h 194 (c + 404) ≤ 8 ∧ ∀ i : Nat, (i : Int) < h 194 (c + 404) → 0 ≤ h 194 (c + (405 + 3 * i)) ∧ h 194 (c + (405 + 3 * i)) < h 188 0
def RSU (h : XH) : Prop := (h 188 3 ≤ 6 ∧ h 182 18 ≤ 8) ∧ SBK 0 h ∧ SLT 0 h ∧ (∀ i : Nat, (i : Int) < h 182 18 → SBK (429 * (3 + i)) h) ∧ (h 195 0 ≠ 0 → SBK 429 h ∧ SLT 429 h) ∧ (h 195 1 ≠ 0 → SBK 858 h ∧ SLT 858 h)
section RSUS
variable {xs : Nat → Int} {L K n : Nat} {c c' d e' : Nat} {h h' h1 h2 x : XH} {D : DD} {g : XS × Nat × Nat} {v : List Int} {w : Nat}
theorem SBK.fr (s : SBK c h) (m6_w : h 188 3 ≤ 6) (e : ∀ k : Nat, k < 4 → h' 188 k = h 188 k) (z : ∀ q : Nat, q < 150 → h' 194 (c' + q) = h 194 (c + q)) : SBK c' h' := fun q a b => by
  rw [e 3 (by decide)] at b
  rw [z q (by omega), e 2 (by decide)]
  exact s q a b
theorem SLT.fr (s : SLT c h) (e : ∀ k : Nat, k < 4 → h' 188 k = h 188 k) (z : ∀ q : Nat, 404 ≤ q → q < 429 → h' 194 (c' + q) = h 194 (c + q)) : SLT c' h' := by
  obtain ⟨a, b⟩ := s
  have z4 := z 404 (by decide) (by decide)
  refine ⟨by omega, fun i hi_w => ?_⟩
  rw [z4] at hi_w
  rw [z (405 + 3 * i) (by omega) (by omega), e 0 (by decide)]
  exact b i hi_w
theorem RSU.fr (r : RSU h) (e : ∀ k : Nat, k < 4 → h' 188 k = h 188 k) (z : ∀ q : Nat, q < 4719 → h' 194 q = h 194 q) (u : h' 182 18 = h 182 18) (a0_w : h' 195 0 = h 195 0) (a1_w : h' 195 1 = h 195 1) : RSU h' := by
  obtain ⟨⟨m6_w, n8⟩, b0, t0_w, ui, k0_w, k1_w⟩ := r
  refine ⟨⟨by rw [e 3 (by decide)]; exact m6_w, by rw [u]; exact n8⟩, b0.fr m6_w e (fun q y => z _ (by omega)), t0_w.fr e (fun q y1 y2 => z _ (by omega)), fun i hi_w => ?_, fun y => ?_, fun y => ?_⟩
  · rw [u] at hi_w
    exact (ui i hi_w).fr m6_w e (fun q y => z _ (by omega))
  · rw [a0_w] at y
    exact ⟨(k0_w y).1.fr m6_w e (fun q y => z _ (by omega)), (k0_w y).2.fr e (fun q y1 y2 => z _ (by omega))⟩
  · rw [a1_w] at y
    exact ⟨(k1_w y).1.fr m6_w e (fun q y => z _ (by omega)), (k1_w y).2.fr e (fun q y1 y2 => z _ (by omega))⟩
/-- one more_w deed: what was is_w kept -/
theorem RSU.push (r : RSU h) (hw : h 182 18 = (w : Int)) (kx : RKP w (thz h) x) (e8 : ∀ k : Nat, k < 4 → h' 188 k = x 188 k) (e4_w : ∀ k : Nat, 404 ≤ k → k < 4719 → h' 194 k = x 194 k) (e2_w : h' 182 18 = x 182 18) (e5_w : ∀ k : Nat, h' 195 k = x 195 k) (sb_w : SBK 0 h') : RSU h' := by
  obtain ⟨⟨m6_w, n8⟩, b0, t0_w, ui, k0_w, k1_w⟩ := r
  obtain ⟨x1_w, x2_w, x3, x4_w⟩ := kx
  have w8 : w ≤ 8 := by omega
  have p7_w : pn8 w ≤ 7 := by
    unfold pn8
    split <;> omega
  have f8_w : ∀ k : Nat, k < 4 → h' 188 k = h 188 k := fun k z => (e8 k z).trans ((x1_w 188 k (by omega) (by omega)).trans (th_e (by decide)))
  have f5_w : ∀ k : Nat, h' 195 k = h 195 k := fun k => (e5_w k).trans ((x1_w 195 k (by omega) (by omega)).trans (th_e (by decide)))
  have f4_w : ∀ k : Nat, 404 ≤ k → k < 1287 → h' 194 k = h 194 k := fun k a b => (e4_w k a (by omega)).trans ((x1_w 194 k (by omega) (by omega)).trans (th_e (by decide)))
  have f2_w : h' 182 18 = ((pn8 w + 1 : Nat) : Int) := e2_w.trans x2_w
  refine ⟨⟨by rw [f8_w 3 (by decide)]; exact m6_w, by omega⟩, sb_w, t0_w.fr f8_w (fun q a b => f4_w _ (by omega) (by omega)), fun i hi_w => ?_, fun y => ?_, fun y => ?_⟩
  · by_cases yi : i = pn8 w
    · subst yi
      refine b0.fr m6_w f8_w (fun q y => ?_)
      rw [e4_w _ (by omega) (by omega), x4_w q (by omega), th_e (by decide), Nat.zero_add]
    · have ip : i < pn8 w := by omega
      have iw : (((if w = 8 then i + 1 else i) : Nat) : Int) < h 182 18 := by
        unfold pn8 at ip
        split at ip
        · rw [if_pos (by assumption)]
          omega
        · rw [if_neg (by assumption)]
          omega
      refine (ui _ iw).fr m6_w f8_w (fun q y => ?_)
      rw [e4_w _ (by omega) (by omega), x3 i ip q (by omega), th_e (by decide)]
  · rw [f5_w 0] at y
    exact ⟨(k0_w y).1.fr m6_w f8_w (fun q y => f4_w _ (by omega) (by omega)), (k0_w y).2.fr f8_w (fun q y1 y2 => f4_w _ (by omega) (by omega))⟩
  · rw [f5_w 1] at y
    exact ⟨(k1_w y).1.fr m6_w f8_w (fun q y => f4_w _ (by omega) (by omega)), (k1_w y).2.fr f8_w (fun q y1 y2 => f4_w _ (by omega) (by omega))⟩
theorem RSU.th (r : RSU h) : RSU (thz h) := r.fr (fun k _ => th_e (by decide)) (fun q _ => th_e (by decide)) (up_ne (by omega)) (th_e (by decide)) (th_e (by decide))
theorem SBK.kp (r : RSU h) (kx : RKP w (thz h) x) (e : ∀ k : Nat, k < 4 → h' 188 k = x 188 k) (z : ∀ q : Nat, 78 ≤ q → q < 150 → h' 194 q = x 194 q ∨ h' 194 q < h 188 2) : SBK 0 h' := fun q a b => by
  obtain ⟨⟨m6_w, n8⟩, b0, -⟩ := r
  obtain ⟨x1_w, -⟩ := kx
  have f8_w : ∀ k : Nat, k < 4 → h' 188 k = h 188 k := fun k z => (e k z).trans ((x1_w 188 k (by omega) (by omega)).trans (th_e (by decide)))
  rw [f8_w 3 (by decide)] at b
  rw [f8_w 2 (by decide)]
  have t := b0 q a b
  rw [Nat.zero_add] at t ⊢
  rcases z q a (by omega) with y | y
  · rw [y, x1_w 194 q (by omega) (by omega), th_e (by decide)]
    exact t
  · exact y
end RSUS
end
section
/-! ===== calls keep_w what lasts beside Inv5 ===== -/
def RefU (h h1 : XH) : Prop := ∀ o k : Nat, 182 ≤ o → o ≤ 202 → h1 o k = h o k
section INVY
variable {xs : Nat → Int} {L K n : Nat} {c d : Nat} {h h' hX h1 h2 : XH} {D : DD} {I Y : XH → Prop}
theorem RSU.u (y : RSU h) (u : RefU h h1) : RSU h1 := y.fr (fun k _ => u 188 k (by decide) (by decide)) (fun q _ => u 194 q (by decide) (by decide)) (u 182 18 (by decide) (by decide)) (u 195 0 (by decide) (by decide)) (u 195 1 (by decide) (by decide))
theorem RSU.q {r : Nat} {ws_w v : List Int} (y : RSU h) (hI : Inv5 h) (u : RefU h h1) (hf : r_n5 r = true) (hb_w : BKp xs L K n r ws_w) (e : evF xs L g_ck K g_cW g_M n r (182 :: ws_w) ((a_g3, c, d), h1) = some (1, v, ((a_g3, c, d), h2))) : RSU h2 := by
  obtain ⟨D, cd, rf, sm_w⟩ := hI.2
  simp only [r_n5, Bool.and_eq_true, Bool.not_eq_true'] at hf
  obtain ⟨⟨f4_w, f18⟩, f195⟩ := hf
  have f4' := f4_w
  simp only [r_n4, r_n3, r_nf, Bool.and_eq_true, Bool.not_eq_true'] at f4'
  have fin_w : m_in r = true := f4'.1.1.1.1.1.1.1.1.1.1
  obtain ⟨-, fr⟩ := fr_all n r (182 :: ws_w) _ _ _ _ _ _ fin_w rfl (Or.inr rfl) e
  obtain ⟨-, -, b5, b6, b7⟩ := ref_4 (g := (a_g3, c, d)) f4_w rfl e
  have uu : ∀ o, 182 ≤ o → o ≤ 202 → h1 o = h o := fun o a b => funext fun k => u o k a b
  have rf1 : RF D h1 := rf.fr (uu 188 (by decide) (by decide)) (uu 189 (by decide) (by decide)) (uu 190 (by decide) (by decide))
  have e1_w := uu 191 (by decide) (by decide)
  obtain ⟨l30, ln⟩ := lnb_of hI.1.1.2
  have bk : BKq h1 h2 := hb_w c d h1 h2 v D rf1 (by rw [e1_w]; exact l30) (fun n z => by rw [e1_w] at z ⊢; exact ln n z) e
  exact (y.u u).fr (fun k _ => congrFun b5 k) (fun q z => bk q z) (fr 182 18 (fun _ => f18) (fr_lo fin_w (by decide))) (fr 195 0 (fun y => absurd y (by decide)) f195) (fr 195 1 (fun y => absurd y (by decide)) f195)
end INVY
end
section
/-! ===== contracts: what is_w left of a slot_w when all shares are out, all shares (written_w by wip/new_w/gen_t0.py) ===== -/
/-- whom meters are with is_w told_w -/
def SUPA (D : DD) (a : Nat → Int) : Prop := ∀ m s : Nat, m < nM D → s < 12 → a (78 + (12 * m + s)) < (nU D : Int)
section PRF
variable {D : DD} {a b : Nat → Int} {s m u n : Nat}
theorem SUPA.cg (w : WFD D) (e : EqD D a b) (p : SUPA D b) : SUPA D a := fun m s hm_w hs => by
  have m6_w := w.cn.2.2.1
  rw [e _ (Or.inr (Or.inl ⟨by omega, by omega⟩))]
  exact p m s hm_w hs
end PRF
end
section
/-! ===== contracts: days by draws ===== -/
section DYS
variable {D : DD} {a b : Nat → Int} {g n k : Nat} {v : Int} {h : XH}
theorem SUPA.up (p : SUPA D a) (hk : k < 78) : SUPA D (updF a k v) := fun m s hm_w hs => by
  rw [updF_ne (by omega)]
  exact p m s hm_w hs
end DYS
end
section
/-! ===== contracts: who, ask_w ===== -/
def SER (D : DD) (n : Nat) (h : XH) : Prop := n ≤ 8 ∧ h 194 404 = (n : Int) ∧ ∀ i : Nat, i < n → 0 ≤ h 194 (405 + 3 * i) ∧ (h 194 (405 + 3 * i)).toNat < nS D
end
section
/-! ===== contracts: who and ask_w, whole_w ===== -/
section KKT3
variable {h h' h1 h2 : XH} {Q : Nat → List Int → XH → Prop} {t b s n w g i x : Int} {D : DD} {v : Int}
theorem SER.th (s : SER D n.toNat h) : SER D n.toNat (j_up h 182 0 v) := ⟨s.1, (up_ne (by omega)).trans s.2.1, fun i z => by
  rw [up_ne (by omega)]
  exact s.2.2 i z⟩
end KKT3
end
