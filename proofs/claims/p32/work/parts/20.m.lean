section
/-! ===== contracts: what is_w tried in a book_w: swing, gains, bears, heaviest ===== -/
section BKS
variable {D : DD} {a b : Nat → Int} {m u k : Nat} {v : Int}
theorem RGA.up (r : RGA D a) (hk : k < 78) (hv : -1 ≤ v ∧ v ≤ 9999) : RGA D (updF a k v) := ⟨fun q z => by
  by_cases y : q = k
  · rw [y, updF_at]
    exact hv
  · rw [updF_ne y]
    exact r.1 q z, fun q z1 z2 => by
  rw [updF_ne (by omega)]
  exact r.2.1 q z1 z2, fun q z1 z2 => by
  rw [updF_ne (by omega)]
  exact r.2.2 q z1 z2⟩
end BKS
/-- a book_w is_w opened_w: what lies there_w is_w tried -/
def OPC (h h' : XH) : Prop := (∀ x k : Nat, ¬ (91 ≤ x ∧ x ≤ 111) → ¬ (x = 0 ∧ k = 15) → h' x k = h x k) ∧ ∀ q : Nat, q ≤ 162 → cl 91 h' q = cl 70 h q
section KKR0
variable {h h' h1 h2 : XH} {Q : Nat → List Int → XH → Prop} {t m p v u : Int} {D : DD}
theorem SETP.fr (r : SETP D h) (z : ∀ o k : Nat, (6 ≤ o ∧ o ≤ 24) ∨ (70 ≤ o ∧ o ≤ 90) → h' o k = h o k) : SETP D h' ∧ cl 70 h' = cl 70 h := by
  have e : cl 70 h' = cl 70 h := cl_eq (fun o k a b => z o k (Or.inr ⟨a, by omega⟩))
  refine ⟨⟨r.1, r.2.1.fr (fun o k a b => z o k (Or.inl ⟨a, b⟩)), fun y => (r.2.2.1 y).fr (z 22 3 (Or.inl ⟨by decide, by decide⟩)) (fun k => z 24 k (Or.inl ⟨by decide, by decide⟩)), ?_⟩, e⟩
  rw [e]
  exact r.2.2.2
theorem OPC.eq (o : OPC h h') (r : SETP D h) : EqD D (cl 91 h') (cl 70 h) := EqD.of r.1.cn.2.2.1 r.1.cn.2.2.2.1 o.2
theorem RSET.fr2 (r : RSET D h) (z1 : ∀ k : Nat, h' 188 k = h 188 k) (z2 : ∀ k : Nat, h' 189 k = h 189 k) (z3 : ∀ k : Nat, h' 190 k = h 190 k) (z4 : ∀ q : Nat, q < 404 → h' 194 q = h 194 q) : RSET D h' ∧ EqD D (bl 0 h') (bl 0 h) := by
  have e : EqD D (bl 0 h') (bl 0 h) := EqD.of r.1.cn.2.2.1 r.1.cn.2.2.2.1 (fun q y => z4 (0 + q) (by omega))
  refine ⟨⟨r.1, r.2.1.fr3 (fun x k a => ?_), r.2.2.1.fr (fun x k a => ?_), RGA.cg e r.2.2.2⟩, e⟩
  · rcases a with rfl | rfl | rfl
    · exact z1 k
    · exact z2 k
    · exact z3 k
  · rcases a with rfl | rfl
    · exact z1 k
    · exact z2 k
end KKR0
def CS74 : CSt := CS73
theorem snd_74 {xs : Nat → Int} {L K : Nat} : ∀ n, SndC CS74 (evF xs L g_ck K g_cW g_M n) := snd_73
def CS75 : CSt := CS74
theorem snd_75 {xs : Nat → Int} {L K : Nat} : ∀ n, SndC CS75 (evF xs L g_ck K g_cW g_M n) := snd_74
def CS76 : CSt := CS75
theorem snd_76 {xs : Nat → Int} {L K : Nat} : ∀ n, SndC CS76 (evF xs L g_ck K g_cW g_M n) := snd_75
end
section
/-! ===== what lasts beside the state_w: with whom meters are is_w told_w, slots_w that are seen_w are slots_w ===== -/
def SBK (c : Nat) (h : XH) : Prop := ∀ q : Nat, 78 ≤ q → (q : Int) < 78 + 12 * h 188 3 → h 194 (c + q) < h 188 2
def SLT (c : Nat) (h : XH) : Prop := h 194 (c + 404) ≤ 8 ∧ ∀ i : Nat, (i : Int) < h 194 (c + 404) → 0 ≤ h 194 (c + (405 + 3 * i)) ∧ h 194 (c + (405 + 3 * i)) < h 188 0
def RSU (h : XH) : Prop := (h 188 3 ≤ 6 ∧ h 182 18 ≤ 8) ∧ SBK 0 h ∧ SLT 0 h ∧ (∀ i : Nat, (i : Int) < h 182 18 → SBK (429 * (3 + i)) h) ∧ (h 195 0 ≠ 0 → SBK 429 h ∧ SLT 429 h) ∧ (h 195 1 ≠ 0 → SBK 858 h ∧ SLT 858 h)
section RSUS
variable {xs : Nat → Int} {L K n : Nat} {c c' d e' : Nat} {h h' h1 h2 x : XH} {D : DD} {g : XS × Nat × Nat} {v : List Int} {w : Nat}
theorem SBK.fr (s : SBK c h) (m6_w : h 188 3 ≤ 6) (e : ∀ k : Nat, k < 4 → h' 188 k = h 188 k) (z : ∀ q : Nat, q < 150 → h' 194 (c' + q) = h 194 (c + q)) : SBK c' h' := fun q a b => by
  rw [e 3 (by decide)] at b
  rw [z q (by omega), e 2 (by decide)]
  exact s q a b
theorem SLT.fr (s : SLT c h) (e : ∀ k : Nat, k < 4 → h' 188 k = h 188 k) (z : ∀ q : Nat, 404 ≤ q → q < 429 → h' 194 (c' + q) = h 194 (c + q)) : SLT c' h' := by
  obtain ⟨a, b⟩ := s
  have z4 := z 404 (by decide) (by decide)
  refine ⟨by omega, fun i hi_w => ?_⟩
  rw [z4] at hi_w
  rw [z (405 + 3 * i) (by omega) (by omega), e 0 (by decide)]
  exact b i hi_w
theorem RSU.fr (r : RSU h) (e : ∀ k : Nat, k < 4 → h' 188 k = h 188 k) (z : ∀ q : Nat, q < 4719 → h' 194 q = h 194 q) (u : h' 182 18 = h 182 18) (a0_w : h' 195 0 = h 195 0) (a1_w : h' 195 1 = h 195 1) : RSU h' := by
  obtain ⟨⟨m6_w, n8⟩, b0, t0_w, ui, k0_w, k1_w⟩ := r
  refine ⟨⟨by rw [e 3 (by decide)]; exact m6_w, by rw [u]; exact n8⟩, b0.fr m6_w e (fun q y => z _ (by omega)), t0_w.fr e (fun q y1 y2 => z _ (by omega)), fun i hi_w => ?_, fun y => ?_, fun y => ?_⟩
  · rw [u] at hi_w
    exact (ui i hi_w).fr m6_w e (fun q y => z _ (by omega))
  · rw [a0_w] at y
    exact ⟨(k0_w y).1.fr m6_w e (fun q y => z _ (by omega)), (k0_w y).2.fr e (fun q y1 y2 => z _ (by omega))⟩
  · rw [a1_w] at y
    exact ⟨(k1_w y).1.fr m6_w e (fun q y => z _ (by omega)), (k1_w y).2.fr e (fun q y1 y2 => z _ (by omega))⟩
/-- one more_w deed: what was is_w kept -/
theorem RSU.push (r : RSU h) (hw : h 182 18 = (w : Int)) (kx : RKP w (thz h) x) (e8 : ∀ k : Nat, k < 4 → h' 188 k = x 188 k) (e4_w : ∀ k : Nat, 404 ≤ k → k < 4719 → h' 194 k = x 194 k) (e2_w : h' 182 18 = x 182 18) (e5_w : ∀ k : Nat, h' 195 k = x 195 k) (sb_w : SBK 0 h') : RSU h' := by
  obtain ⟨⟨m6_w, n8⟩, b0, t0_w, ui, k0_w, k1_w⟩ := r
  obtain ⟨x1_w, x2_w, x3, x4_w⟩ := kx
  have w8 : w ≤ 8 := by omega
  have p7_w : pn8 w ≤ 7 := by
    unfold pn8
    split <;> omega
  have f8_w : ∀ k : Nat, k < 4 → h' 188 k = h 188 k := fun k z => (e8 k z).trans ((x1_w 188 k (by omega) (by omega)).trans (th_e (by decide)))
  have f5_w : ∀ k : Nat, h' 195 k = h 195 k := fun k => (e5_w k).trans ((x1_w 195 k (by omega) (by omega)).trans (th_e (by decide)))
  have f4_w : ∀ k : Nat, 404 ≤ k → k < 1287 → h' 194 k = h 194 k := fun k a b => (e4_w k a (by omega)).trans ((x1_w 194 k (by omega) (by omega)).trans (th_e (by decide)))
  have f2_w : h' 182 18 = ((pn8 w + 1 : Nat) : Int) := e2_w.trans x2_w
  refine ⟨⟨by rw [f8_w 3 (by decide)]; exact m6_w, by omega⟩, sb_w, t0_w.fr f8_w (fun q a b => f4_w _ (by omega) (by omega)), fun i hi_w => ?_, fun y => ?_, fun y => ?_⟩
  · by_cases yi : i = pn8 w
    · subst yi
      refine b0.fr m6_w f8_w (fun q y => ?_)
      rw [e4_w _ (by omega) (by omega), x4_w q (by omega), th_e (by decide), Nat.zero_add]
    · have ip : i < pn8 w := by omega
      have iw : (((if w = 8 then i + 1 else i) : Nat) : Int) < h 182 18 := by
        unfold pn8 at ip
        split at ip
        · rw [if_pos (by assumption)]
          omega
        · rw [if_neg (by assumption)]
          omega
      refine (ui _ iw).fr m6_w f8_w (fun q y => ?_)
      rw [e4_w _ (by omega) (by omega), x3 i ip q (by omega), th_e (by decide)]
  · rw [f5_w 0] at y
    exact ⟨(k0_w y).1.fr m6_w f8_w (fun q y => f4_w _ (by omega) (by omega)), (k0_w y).2.fr f8_w (fun q y1 y2 => f4_w _ (by omega) (by omega))⟩
  · rw [f5_w 1] at y
    exact ⟨(k1_w y).1.fr m6_w f8_w (fun q y => f4_w _ (by omega) (by omega)), (k1_w y).2.fr f8_w (fun q y1 y2 => f4_w _ (by omega) (by omega))⟩
theorem RSU.th (r : RSU h) : RSU (thz h) := r.fr (fun k _ => th_e (by decide)) (fun q _ => th_e (by decide)) (up_ne (by omega)) (th_e (by decide)) (th_e (by decide))
theorem SBK.kp (r : RSU h) (kx : RKP w (thz h) x) (e : ∀ k : Nat, k < 4 → h' 188 k = x 188 k) (z : ∀ q : Nat, 78 ≤ q → q < 150 → h' 194 q = x 194 q ∨ h' 194 q < h 188 2) : SBK 0 h' := fun q a b => by
  obtain ⟨⟨m6_w, n8⟩, b0, -⟩ := r
  obtain ⟨x1_w, -⟩ := kx
  have f8_w : ∀ k : Nat, k < 4 → h' 188 k = h 188 k := fun k z => (e k z).trans ((x1_w 188 k (by omega) (by omega)).trans (th_e (by decide)))
  rw [f8_w 3 (by decide)] at b
  rw [f8_w 2 (by decide)]
  have t := b0 q a b
  rw [Nat.zero_add] at t ⊢
  rcases z q a (by omega) with y | y
  · rw [y, x1_w 194 q (by omega) (by omega), th_e (by decide)]
    exact t
  · exact y
/-- what the reference's deeds keep_w -/
theorem rsu_265 {m p u : Int} (rf : RF D h) (r : RSU h) (h0 : 0 ≤ h 182 18) (e : evF xs L g_ck K g_cW g_M n 265 [182, m, p, u] ((a_g3, c, d), h) = some (1, v, ((a_g3, c, d), h2))) : RSU h2 := by
  obtain ⟨w, hw⟩ : ∃ w : Nat, h 182 18 = (w : Int) := ⟨(h 182 18).toNat, by omega⟩
  have w8 : w ≤ 8 := by
    have := r.1.2
    omega
  have l6 : D.2.2.2.2.1.length ≤ 6 := rf.ix.1.2.2.2.2.2
  have l12 := lp_lr rf (m := m)
  have cc : CS43 265 [182, m, p, u] h (fun k _ h' => k = 1 → RSU h') := by
    rw [cs43_265, kk_265]
    refine ⟨D, w, rf, hw, w8, fun _ _ => r.th, fun y x kx _ => ?_⟩
    unfold okR at y
    exact r.push hw kx (fun k _ => up_ne (by omega)) (fun k a b => up_ne (by omega)) (up_ne (by omega)) (fun k => up_ne (by omega)) (SBK.kp r kx (fun k _ => up_ne (by omega)) (fun q a b => Or.inl (up_ne (by omega))))
  exact (snd_43 n _ _ _ _ _ cc _ _ _ _ e).2 rfl
theorem rsu_267 {m s t : Int} (s12 : h 188 0 ≤ 12) (r : RSU h) (h0 : 0 ≤ h 182 18) (e : evF xs L g_ck K g_cW g_M n 267 [182, m, s, t] ((a_g3, c, d), h) = some (1, v, ((a_g3, c, d), h2))) : RSU h2 := by
  obtain ⟨w, hw⟩ : ∃ w : Nat, h 182 18 = (w : Int) := ⟨(h 182 18).toNat, by omega⟩
  have w8 : w ≤ 8 := by
    have := r.1.2
    omega
  have cc : CS43 267 [182, m, s, t] h (fun k _ h' => k = 1 → RSU h') := by
    rw [cs43_267, kk_267]
    refine ⟨w, r.1.1, s12, hw, w8, fun _ _ => r.th, fun y x h' kx f1_w f2_w _ => ?_⟩
    unfold okMr at y
    have m6_w := r.1.1
    refine r.push hw kx (fun k _ => f1_w 188 k (by decide)) (fun k a b => ?_) (f1_w 182 18 (by decide)) (fun k => f1_w 195 k (by decide)) (SBK.kp r kx (fun k _ => f1_w 188 k (by decide)) (fun q a b => ?_))
    · rw [f2_w k, if_neg (by omega)]
    · rw [f2_w q]
      by_cases yq : 78 + (12 * m.toNat + t.toNat) ≤ q ∧ q < 78 + (12 * m.toNat + 12)
      · rw [if_pos yq]
        exact Or.inr y.2.2.2.1
      · rw [if_neg yq]
        exact Or.inl rfl
  exact (snd_43 n _ _ _ _ _ cc _ _ _ _ e).2 rfl
theorem rsu_268 {t u : Int} (s12 : h 188 0 ≤ 12) (r : RSU h) (h0 : 0 ≤ h 182 18) (e : evF xs L g_ck K g_cW g_M n 268 [182, t, u] ((a_g3, c, d), h) = some (1, v, ((a_g3, c, d), h2))) : RSU h2 := by
  obtain ⟨w, hw⟩ : ∃ w : Nat, h 182 18 = (w : Int) := ⟨(h 182 18).toNat, by omega⟩
  have w8 : w ≤ 8 := by
    have := r.1.2
    omega
  have cc : CS43 268 [182, t, u] h (fun k _ h' => k = 1 → RSU h') := by
    rw [cs43_268, kk_268]
    refine ⟨w, s12, hw, w8, fun _ _ => r.th, fun y x kx _ => ?_⟩
    unfold okTr at y
    exact r.push hw kx (fun k _ => up_ne (by omega)) (fun k a b => up_ne (by omega)) (up_ne (by omega)) (fun k => up_ne (by omega)) (SBK.kp r kx (fun k _ => up_ne (by omega)) (fun q a b => Or.inl (up_ne (by omega))))
  exact (snd_43 n _ _ _ _ _ cc _ _ _ _ e).2 rfl
theorem rsu_271 {S U M q : Nat} (ru : RUH S U M q h) (r : RSU h) (h0 : 0 ≤ h 182 18) (e : evF xs L g_ck K g_cW g_M n 271 [182] ((a_g3, c, d), h) = some (1, v, ((a_g3, c, d), h2))) : RSU h2 := by
  obtain ⟨w, hw⟩ : ∃ w : Nat, h 182 18 = (w : Int) := ⟨(h 182 18).toNat, by omega⟩
  have w8 : w ≤ 8 := by
    have := r.1.2
    omega
  have cc : CS43 271 [182] h (fun k _ h' => k = 1 → RSU h') := by
    rw [cs43_271, kk_271]
    refine ⟨S, U, M, q, w, ru, hw, w8, fun _ _ => r.th, fun _ x h' kx f1_w f2_w _ _ => ?_⟩
    have k8 : ∀ k : Nat, h' 188 k = x 188 k := fun k => congrFun (f1_w.row (by decide) (by decide)) k
    have k5 : ∀ k : Nat, h' 195 k = x 195 k := fun k => congrFun (f1_w.row (by decide) (by decide)) k
    exact r.push hw kx (fun k _ => k8 k) (fun k a b => f2_w k (Or.inr a)) (f1_w 182 18 (fun _ => by decide) (by decide)) k5 (SBK.kp r kx (fun k _ => k8 k) (fun q a b => Or.inl (f2_w q (Or.inl (by omega)))))
  exact (snd_43 n _ _ _ _ _ cc _ _ _ _ e).2 rfl
theorem rsu_272 (r : RSU h) (h0 : 0 ≤ h 182 18) (e : evF xs L g_ck K g_cW g_M n 272 [182] ((a_g3, c, d), h) = some (1, v, ((a_g3, c, d), h2))) : RSU h2 := by
  obtain ⟨w, hw⟩ : ∃ w : Nat, h 182 18 = (w : Int) := ⟨(h 182 18).toNat, by omega⟩
  have w8 : w ≤ 8 := by
    have := r.1.2
    omega
  have cc : CS43 272 [182] h (fun k _ h' => k = 1 → RSU h') := by
    rw [cs43_272, kk_272]
    refine ⟨w, hw, w8, fun _ _ => r.th, fun m em h' f1_w f2_w f3_w _ => ?_⟩
    obtain ⟨⟨m6_w, n8⟩, b0, t0_w, ui, k0_w, k1_w⟩ := r
    have f8_w : ∀ k : Nat, k < 4 → h' 188 k = h 188 k := fun k _ => (f1_w 188 k (by omega) (by omega)).trans (th_e (by decide))
    have f5_w : ∀ k : Nat, h' 195 k = h 195 k := fun k => (f1_w 195 k (by omega) (by omega)).trans (th_e (by decide))
    have f4_w : ∀ k : Nat, 404 ≤ k → h' 194 k = h 194 k := fun k a => (f1_w 194 k (by omega) (by omega)).trans (th_e (by decide))
    refine ⟨⟨by rw [f8_w 3 (by decide)]; exact m6_w, by omega⟩, (ui m (by omega)).fr m6_w f8_w (fun q y => ?_), t0_w.fr f8_w (fun q a b => f4_w _ (by omega)), fun i hi_w => ?_, fun y => ?_, fun y => ?_⟩
    · rw [Nat.zero_add]
      exact f3_w q (by omega)
    · exact (ui i (by omega)).fr m6_w f8_w (fun q y => f4_w _ (by omega))
    · rw [f5_w 0] at y
      exact ⟨(k0_w y).1.fr m6_w f8_w (fun q y => f4_w _ (by omega)), (k0_w y).2.fr f8_w (fun q y1 y2 => f4_w _ (by omega))⟩
    · rw [f5_w 1] at y
      exact ⟨(k1_w y).1.fr m6_w f8_w (fun q y => f4_w _ (by omega)), (k1_w y).2.fr f8_w (fun q y1 y2 => f4_w _ (by omega))⟩
  exact (snd_43 n _ _ _ _ _ cc _ _ _ _ e).2 rfl
theorem rsu_304 {t u b : Int} (hb_w : b = 0 ∨ b = 1) (r : RSU h) (h0 : 0 ≤ h 194 404) (e : evF xs L g_ck K g_cW g_M n 304 [182, t, u, b] ((a_g3, c, d), h) = some (1, v, ((a_g3, c, d), h2))) : RSU h2 := by
  obtain ⟨w, hw⟩ : ∃ w : Nat, h 194 404 = (w : Int) := ⟨(h 194 404).toNat, by omega⟩
  have w8 : w ≤ 8 := by
    have := r.2.2.1.1
    rw [Nat.zero_add] at this
    omega
  have cc : CS43 304 [182, t, u, b] h (fun k _ h' => k = 1 → RSU h') := by
    rw [cs43_304, kk_304]
    refine ⟨w, hw, w8, hb_w, fun _ _ => r.th, fun y z _ => ?_⟩
    obtain ⟨⟨m6_w, n8⟩, b0, t0_w, ui, k0_w, k1_w⟩ := r
    generalize hH : j_up (j_up (j_up (j_up (thz h) 194 (405 + 3 * w) t) 194 (405 + 3 * w + 1) u) 194 (405 + 3 * w + 2) b) 194 404 ((w + 1 : Nat) : Int) = h'
    have f0_w : ∀ o k : Nat, ¬ (o = 194 ∧ 404 ≤ k ∧ k < 429) → h' o k = thz h o k := fun o k a => by
      rw [← hH, up_ne (by omega), up_ne (by omega), up_ne (by omega), up_ne (by omega)]
    have f8_w : ∀ k : Nat, k < 4 → h' 188 k = h 188 k := fun k _ => (f0_w 188 k (by omega)).trans (th_e (by decide))
    have f5_w : ∀ k : Nat, h' 195 k = h 195 k := fun k => (f0_w 195 k (by omega)).trans (th_e (by decide))
    have f4_w : ∀ k : Nat, k < 404 ∨ 429 ≤ k → h' 194 k = h 194 k := fun k a => (f0_w 194 k (by omega)).trans (th_e (by decide))
    have f2_w : h' 182 18 = h 182 18 := (f0_w 182 18 (by omega)).trans (up_ne (by omega))
    refine ⟨⟨by rw [f8_w 3 (by decide)]; exact m6_w, by omega⟩, b0.fr m6_w f8_w (fun q y => f4_w _ (by omega)), ⟨?_, fun i hi_w => ?_⟩, fun i hi_w => ?_, fun y => ?_, fun y => ?_⟩
    · rw [Nat.zero_add, ← hH, up_eq]
      omega
    · have e4_w : h' 194 (0 + 404) = ((w + 1 : Nat) : Int) := by
        rw [Nat.zero_add, ← hH]
        exact up_eq
      rw [e4_w] at hi_w
      rw [f8_w 0 (by decide), Nat.zero_add, ← hH, up_ne (by omega), up_ne (by omega), up_ne (by omega)]
      by_cases yi : i = w
      · rw [yi, up_eq]
        exact ⟨y.1, y.2.1⟩
      · rw [up_ne (by omega), th_e (by decide)]
        have := t0_w.2 i (by rw [Nat.zero_add]; omega)
        rw [Nat.zero_add] at this
        exact this
    · rw [f2_w] at hi_w
      exact (ui i hi_w).fr m6_w f8_w (fun q y => f4_w _ (by omega))
    · rw [f5_w 0] at y
      exact ⟨(k0_w y).1.fr m6_w f8_w (fun q y => f4_w _ (by omega)), (k0_w y).2.fr f8_w (fun q y1 y2 => f4_w _ (by omega))⟩
    · rw [f5_w 1] at y
      exact ⟨(k1_w y).1.fr m6_w f8_w (fun q y => f4_w _ (by omega)), (k1_w y).2.fr f8_w (fun q y1 y2 => f4_w _ (by omega))⟩
  exact (snd_43 n _ _ _ _ _ cc _ _ _ _ e).2 rfl
theorem rsu_311 {m b : Int} (hb_w : b = 0 ∨ b = 1) (q0 : h 195 0 = 0 ∨ h 195 0 = 1) (q1_w : h 195 1 = 0 ∨ h 195 1 = 1) (r : RSU h) (e : evF xs L g_ck K g_cW g_M n 311 [182, m, b] ((a_g3, c, d), h) = some (1, v, ((a_g3, c, d), h2))) : RSU h2 := by
  have cc : CS43 311 [182, m, b] h (fun k _ h' => k = 1 → RSU h') := by
    rw [cs43_311, kk_311]
    refine ⟨hb_w, q0, q1_w, fun _ _ => r.th, fun mn_w em m1_w => ⟨fun _ h' f1_w f2_w _ => ?_, fun _ => ⟨fun _ _ => r.th, fun yk h' f1_w f2_w _ => ?_⟩⟩⟩
    · obtain ⟨⟨m6_w, n8⟩, b0, t0_w, ui, k0_w, k1_w⟩ := r
      have f0_w : ∀ o k : Nat, o ≠ 195 → o ≠ 182 → ¬ (o = 194 ∧ 429 * (1 + mn_w) ≤ k ∧ k < 429 * (1 + mn_w) + 429) → j_up h' 182 18 (h' 182 18) o k = h o k := fun o k a a2 z => (up_ne (by omega)).trans ((f1_w o k z).trans ((up_ne (by omega)).trans (th_e a2)))
      have f8_w : ∀ k : Nat, k < 4 → j_up h' 182 18 (h' 182 18) 188 k = h 188 k := fun k _ => f0_w 188 k (by decide) (by decide) (by omega)
      have f2' : j_up h' 182 18 (h' 182 18) 182 18 = h 182 18 := up_eq.trans ((f1_w 182 18 (by omega)).trans ((up_ne (by omega)).trans (up_ne (by omega))))
      have f5_w : ∀ k : Nat, k ≠ mn_w → j_up h' 182 18 (h' 182 18) 195 k = h 195 k := fun k z => (up_ne (by omega)).trans ((f1_w 195 k (by omega)).trans ((up_ne (by omega)).trans (th_e (by decide))))
      have fb : ∀ q : Nat, q < 429 → j_up h' 182 18 (h' 182 18) 194 (429 * (1 + mn_w) + q) = h 194 (0 + q) := fun q z => by
        rw [Nat.zero_add]
        exact (up_ne (by omega)).trans (f2_w q z)
      have f4_w : ∀ k : Nat, ¬ (429 * (1 + mn_w) ≤ k ∧ k < 429 * (1 + mn_w) + 429) → j_up h' 182 18 (h' 182 18) 194 k = h 194 k := fun k z => f0_w 194 k (by decide) (by decide) (by omega)
      generalize j_up h' 182 18 (h' 182 18) = H at f8_w f2' f5_w fb f4_w ⊢
      have nb : SBK (429 * (1 + mn_w)) H ∧ SLT (429 * (1 + mn_w)) H := ⟨b0.fr m6_w f8_w (fun q y => fb q (by omega)), t0_w.fr f8_w (fun q a b => fb q b)⟩
      refine ⟨⟨by rw [f8_w 3 (by decide)]; exact m6_w, by omega⟩, b0.fr m6_w f8_w (fun q y => f4_w _ (by omega)), t0_w.fr f8_w (fun q y1 y2 => f4_w _ (by omega)), fun i hi_w => ?_, fun y => ?_, fun y => ?_⟩
      · rw [f2'] at hi_w
        exact (ui i hi_w).fr m6_w f8_w (fun q y => f4_w _ (by omega))
      · by_cases ym : mn_w = 0
        · subst ym
          exact nb
        · rw [f5_w 0 (by omega)] at y
          exact ⟨(k0_w y).1.fr m6_w f8_w (fun q y => f4_w _ (by omega)), (k0_w y).2.fr f8_w (fun q y1 y2 => f4_w _ (by omega))⟩
      · by_cases ym : mn_w = 1
        · subst ym
          exact nb
        · rw [f5_w 1 (by omega)] at y
          exact ⟨(k1_w y).1.fr m6_w f8_w (fun q y => f4_w _ (by omega)), (k1_w y).2.fr f8_w (fun q y1 y2 => f4_w _ (by omega))⟩
    · obtain ⟨⟨m6_w, n8⟩, b0, t0_w, ui, k0_w, k1_w⟩ := r
      have f0_w : ∀ o k : Nat, o ≠ 195 → o ≠ 182 → ¬ (o = 194 ∧ k < 429) → j_up h' 182 18 0 o k = h o k := fun o k a a2 z => (up_ne (by omega)).trans ((f1_w o k z).trans ((up_ne (by omega)).trans (th_e a2)))
      have f8_w : ∀ k : Nat, k < 4 → j_up h' 182 18 0 188 k = h 188 k := fun k _ => f0_w 188 k (by decide) (by decide) (by omega)
      have f2' : j_up h' 182 18 0 182 18 = 0 := up_eq
      have f5_w : ∀ k : Nat, k ≠ mn_w → j_up h' 182 18 0 195 k = h 195 k := fun k z => (up_ne (by omega)).trans ((f1_w 195 k (by omega)).trans ((up_ne (by omega)).trans (th_e (by decide))))
      have fb : ∀ q : Nat, q < 429 → j_up h' 182 18 0 194 (0 + q) = h 194 (429 * (1 + mn_w) + q) := fun q z => by
        rw [Nat.zero_add]
        exact (up_ne (by omega)).trans (f2_w q z)
      have f4_w : ∀ k : Nat, 429 ≤ k → j_up h' 182 18 0 194 k = h 194 k := fun k z => f0_w 194 k (by decide) (by decide) (by omega)
      have nb : SBK (429 * (1 + mn_w)) h ∧ SLT (429 * (1 + mn_w)) h := by
        rcases (show mn_w = 0 ∨ mn_w = 1 by omega) with rfl | rfl
        · exact k0_w yk
        · exact k1_w yk
      generalize j_up h' 182 18 0 = H at f8_w f2' f5_w fb f4_w ⊢
      refine ⟨⟨by rw [f8_w 3 (by decide)]; exact m6_w, by omega⟩, nb.1.fr m6_w f8_w (fun q y => fb q (by omega)), nb.2.fr f8_w (fun q a b => fb q b), fun i hi_w => absurd hi_w (by omega), fun y => ?_, fun y => ?_⟩
      · by_cases ym : mn_w = 0
        · subst ym
          exact ⟨(k0_w yk).1.fr m6_w f8_w (fun q y => f4_w _ (by omega)), (k0_w yk).2.fr f8_w (fun q y1 y2 => f4_w _ (by omega))⟩
        · rw [f5_w 0 (by omega)] at y
          exact ⟨(k0_w y).1.fr m6_w f8_w (fun q y => f4_w _ (by omega)), (k0_w y).2.fr f8_w (fun q y1 y2 => f4_w _ (by omega))⟩
      · by_cases ym : mn_w = 1
        · subst ym
          exact ⟨(k1_w yk).1.fr m6_w f8_w (fun q y => f4_w _ (by omega)), (k1_w yk).2.fr f8_w (fun q y1 y2 => f4_w _ (by omega))⟩
        · rw [f5_w 1 (by omega)] at y
          exact ⟨(k1_w y).1.fr m6_w f8_w (fun q y => f4_w _ (by omega)), (k1_w y).2.fr f8_w (fun q y1 y2 => f4_w _ (by omega))⟩
  exact (snd_43 n _ _ _ _ _ cc _ _ _ _ e).2 rfl
/-- at a grid's beginning -/
theorem rsu_begin (rf : RF D h) (bg : BGR D.2.2.2.2.1.length D.1.toNat h) : RSU h := by
  obtain ⟨sb_w, b4, -, b18, -, b50, b51⟩ := bg
  have w := rf.w
  have e3_w : h 188 3 = (nM D : Int) := rf.ix.1.2.2.1
  have e2_w : h 188 2 = (nU D : Int) := rf.ix.1.2.1
  have m6_w := w.cn.2.2.1
  refine ⟨⟨by omega, by omega⟩, fun q a b => ?_, ⟨by rw [Nat.zero_add]; omega, fun i hi_w => ?_⟩, fun i hi_w => absurd hi_w (by omega), fun y => absurd b50 y, fun y => absurd b51 y⟩
  · rw [e3_w] at b
    have hq : q < 78 + 12 * D.2.2.2.2.1.length := by
      have : nM D = D.2.2.2.2.1.length := rfl
      omega
    rw [sb_w q (by omega), if_neg (by omega), if_pos hq, e2_w]
    have hm_w : (q - 78) / 12 < nM D := by
      show (q - 78) / 12 < D.2.2.2.2.1.length
      omega
    obtain ⟨x, ex_w, hx⟩ := mt_x hm_w
    obtain ⟨-, ⟨s0, s1_w⟩, -⟩ := w.2.2.1 x hx
    obtain ⟨-, -, k3⟩ := rf.ix.2.2.2.2.2.2 _ x ex_w
    rw [k3]
    exact s1_w
  · rw [Nat.zero_add] at hi_w
    omega
end RSUS
end
section
/-! ===== calls keep_w what lasts beside Inv5 ===== -/
def RefU (h h1 : XH) : Prop := ∀ o k : Nat, 182 ≤ o → o ≤ 202 → h1 o k = h o k
/-- the class's lines, its rows of what was laid_w down_w, its marks_w -/
def CLW (h h1 : XH) : Prop := ∀ x q : Nat, (78 ≤ x ∧ x ≤ 84) ∨ (112 ≤ x ∧ x ≤ 153) ∨ (52 ≤ x ∧ x ≤ 60) → h1 x q = h x q
theorem u2_l52 : ∀ o k : Nat, 52 ≤ o → o ≤ 60 → aW u2_W o k = false := aW_out (by decide) (by decide)
section INVY
variable {xs : Nat → Int} {L K n : Nat} {c d : Nat} {h h' hX h1 h2 : XH} {D : DD} {I Y : XH → Prop}
theorem ext_2 {P : List Int → XH → Prop} {R : List Int → XH → XH → Prop} (z : ∃ (v1_w v2 : List Int) (h1 h2 : XH), P v1_w h1 ∧ R v2 h1 h2 ∧ I h2) (k : ∀ v1_w v2 h1 h2, P v1_w h1 → R v2 h1 h2 → Y h2) : ∃ (v1_w v2 : List Int) (h1 h2 : XH), P v1_w h1 ∧ R v2 h1 h2 ∧ I h2 ∧ Y h2 := by
  obtain ⟨v1_w, v2, h1, h2, a, b, e⟩ := z
  exact ⟨v1_w, v2, h1, h2, a, b, e, k v1_w v2 h1 h2 a b⟩
theorem RSU.u (y : RSU h) (u : RefU h h1) : RSU h1 := y.fr (fun k _ => u 188 k (by decide) (by decide)) (fun q _ => u 194 q (by decide) (by decide)) (u 182 18 (by decide) (by decide)) (u 195 0 (by decide) (by decide)) (u 195 1 (by decide) (by decide))
theorem ref_u (hK_w : 4294967300 ≤ K) {f : Nat} (hd_w : g_dp f < n) (hn : n < 99999) {vs v1_w : List Int} (hI : Inv5 h) (ha_w : VL (fun _ => 0) a_g3 ((g_T 0).2.1 f) vs) {g' : XS × Nat × Nat} {k : Nat} (e1_w : evF xs L g_ck K g_cW g_M n f vs ((a_g3, c, d), h) = some (k, v1_w, (g', h1))) : RefU h h1 := by
  obtain ⟨cc, r, g1, h', q1_w, -, q3_w, -⟩ := cls_lnk (xs := xs) (L := L) (c := c) (d := d) hK_w hd_w (by omega) hI.1.1.1 ha_w
  have t := q1_w.symm.trans e1_w
  cases t
  exact fun o k a _ => q3_w o k a
theorem RSU.q {r : Nat} {ws_w v : List Int} (y : RSU h) (hI : Inv5 h) (u : RefU h h1) (hf : r_n5 r = true) (hb_w : BKp xs L K n r ws_w) (e : evF xs L g_ck K g_cW g_M n r (182 :: ws_w) ((a_g3, c, d), h1) = some (1, v, ((a_g3, c, d), h2))) : RSU h2 := by
  obtain ⟨D, cd, rf, sm_w⟩ := hI.2
  simp only [r_n5, Bool.and_eq_true, Bool.not_eq_true'] at hf
  obtain ⟨⟨f4_w, f18⟩, f195⟩ := hf
  have f4' := f4_w
  simp only [r_n4, r_n3, r_nf, Bool.and_eq_true, Bool.not_eq_true'] at f4'
  have fin_w : m_in r = true := f4'.1.1.1.1.1.1.1.1.1.1
  obtain ⟨-, fr⟩ := fr_all n r (182 :: ws_w) _ _ _ _ _ _ fin_w rfl (Or.inr rfl) e
  obtain ⟨-, -, b5, b6, b7⟩ := ref_4 (g := (a_g3, c, d)) f4_w rfl e
  have uu : ∀ o, 182 ≤ o → o ≤ 202 → h1 o = h o := fun o a b => funext fun k => u o k a b
  have rf1 : RF D h1 := rf.fr (uu 188 (by decide) (by decide)) (uu 189 (by decide) (by decide)) (uu 190 (by decide) (by decide))
  have e1_w := uu 191 (by decide) (by decide)
  obtain ⟨l30, ln⟩ := lnb_of hI.1.1.2
  have bk : BKq h1 h2 := hb_w c d h1 h2 v D rf1 (by rw [e1_w]; exact l30) (fun n z => by rw [e1_w] at z ⊢; exact ln n z) e
  exact (y.u u).fr (fun k _ => congrFun b5 k) (fun q z => bk q z) (fr 182 18 (fun _ => f18) (fr_lo fin_w (by decide))) (fr 195 0 (fun y => absurd y (by decide)) f195) (fr 195 1 (fun y => absurd y (by decide)) f195)
theorem SM.z18 (sm_w : SM D h) (u : RefU h h1) : 0 ≤ h1 182 18 := by
  obtain ⟨w, -, -, wr_w⟩ := sm_w.pn
  rw [u 182 18 (by decide) (by decide), wr_w]
  omega
theorem rf_u (rf : RF D h) (u : RefU h h1) : RF D h1 := rf.fr (funext fun k => u 188 k (by decide) (by decide)) (funext fun k => u 189 k (by decide) (by decide)) (funext fun k => u 190 k (by decide) (by decide))
theorem s12_u (rf : RF D h) (u : RefU h h1) : h1 188 0 ≤ 12 := by
  have z := (sz_rf (rf_u rf u))
  omega
theorem y_265 {m p q : Int} {v : List Int} (hI : Inv5 h) (y : RSU h) (u : RefU h h1) (e : evF xs L g_ck K g_cW g_M n 265 [182, m, p, q] ((a_g3, c, d), h1) = some (1, v, ((a_g3, c, d), h2))) : RSU h2 := by
  obtain ⟨D, cd, rf, sm_w⟩ := hI.2
  exact rsu_265 (rf_u rf u) (y.u u) (sm_w.z18 u) e
theorem y_267 {m p q : Int} {v : List Int} (hI : Inv5 h) (y : RSU h) (u : RefU h h1) (e : evF xs L g_ck K g_cW g_M n 267 [182, m, p, q] ((a_g3, c, d), h1) = some (1, v, ((a_g3, c, d), h2))) : RSU h2 := by
  obtain ⟨D, cd, rf, sm_w⟩ := hI.2
  exact rsu_267 (s12_u rf u) (y.u u) (sm_w.z18 u) e
theorem y_268 {m p : Int} {v : List Int} (hI : Inv5 h) (y : RSU h) (u : RefU h h1) (e : evF xs L g_ck K g_cW g_M n 268 [182, m, p] ((a_g3, c, d), h1) = some (1, v, ((a_g3, c, d), h2))) : RSU h2 := by
  obtain ⟨D, cd, rf, sm_w⟩ := hI.2
  exact rsu_268 (s12_u rf u) (y.u u) (sm_w.z18 u) e
theorem y_271 {v : List Int} (hI : Inv5 h) (y : RSU h) (u : RefU h h1) (e : evF xs L g_ck K g_cW g_M n 271 [182] ((a_g3, c, d), h1) = some (1, v, ((a_g3, c, d), h2))) : RSU h2 := by
  obtain ⟨D, cd, rf, sm_w⟩ := hI.2
  obtain ⟨S, U, M, r, ⟨u1, u2_w, u3, u4_w, u5, u6, u7, u8, u9, u10⟩, -⟩ := ruh_of hI.1.1.2 rf
  have e8 : ∀ k : Nat, h1 188 k = h 188 k := fun k => u 188 k (by decide) (by decide)
  have e4_w : ∀ k : Nat, h1 194 k = h 194 k := fun k => u 194 k (by decide) (by decide)
  have ru : RUH S U M r h1 := ⟨(e8 0).trans u1, u2_w, (e8 2).trans u3, u4_w, (e8 3).trans u5, u6, fun m z => by
    obtain ⟨k, k4, ek⟩ := u7 m z
    exact ⟨k, k4, (e8 _).trans ek⟩, fun q z1 z2 => by
    obtain ⟨k, k4, ek⟩ := u8 q z1 z2
    exact ⟨k, k4, (e4_w _).trans ek⟩, (e4_w 162).trans u9, u10⟩
  exact rsu_271 ru (y.u u) (sm_w.z18 u) e
theorem y_272 {v : List Int} (hI : Inv5 h) (y : RSU h) (u : RefU h h1) (e : evF xs L g_ck K g_cW g_M n 272 [182] ((a_g3, c, d), h1) = some (1, v, ((a_g3, c, d), h2))) : RSU h2 := by
  obtain ⟨D, cd, rf, sm_w⟩ := hI.2
  exact rsu_272 (y.u u) (sm_w.z18 u) e
theorem y_304 {t q : Int} {b : Bool} {v : List Int} (hI : Inv5 h) (y : RSU h) (u : RefU h h1) (e : evF xs L g_ck K g_cW g_M n 304 [182, t, q, j_b b] ((a_g3, c, d), h1) = some (1, v, ((a_g3, c, d), h2))) : RSU h2 := by
  obtain ⟨D, cd, rf, sm_w⟩ := hI.2
  obtain ⟨w, -, -, w4_w, -⟩ := sm_w.2.2.2.1
  rw [Nat.zero_add] at w4_w
  exact rsu_304 jb_01 (y.u u) (by rw [u 194 404 (by decide) (by decide), w4_w]; omega) e
theorem y_311 {m : Int} {b : Bool} {v : List Int} (hI : Inv5 h) (y : RSU h) (u : RefU h h1) (e : evF xs L g_ck K g_cW g_M n 311 [182, m, j_b b] ((a_g3, c, d), h1) = some (1, v, ((a_g3, c, d), h2))) : RSU h2 := by
  obtain ⟨D, cd, rf, sm_w⟩ := hI.2
  obtain ⟨-, -, -, -, -, ⟨k0_w, -⟩, ⟨k1_w, -⟩⟩ := sm_w
  exact rsu_311 jb_01 (by rw [u 195 0 (by decide) (by decide)]; exact k0_w) (by rw [u 195 1 (by decide) (by decide)]; exact k1_w) (y.u u) e
/-- grid, work, feed -/
theorem y_206 {v1_w v : List Int} (hK2 : 20000000000 ≤ K) (hn : n + 41 < 99999) (hI : Inv5 h) (y : RSU h) (e1_w : evF xs L g_ck K g_cW g_M (n + 41) 2 [0] ((a_g3, c, d), h) = some (1, v1_w, ((a_g3, c, d), h1))) (e2_w : evF xs L g_ck K g_cW g_M (n + 41) 206 [182] ((a_g3, c, d), h1) = some (1, v, ((a_g3, c, d), h2))) : RSU h2 := by
  obtain ⟨hH, m0_w, m1_w, hm_w⟩ := hI.1.1.1
  obtain ⟨v', h1', q1_w, -, -, q4_w⟩ := grid_ok (xs := xs) (L := L) (K := K) (c := c) (d := d) (n := n + 40) (by omega) (by omega) hH
  have u : h1' = h1 := by
    have t := q1_w.symm.trans e1_w
    cases t
    rfl
  subst u
  have y1 : RSU h1' := y.u (fun o k a _ => q4_w o k a)
  have c206 : CS24 206 [182] h1' (fun k _ h' => k = 1 → RSU h') := by
    rw [cs24_206, kk_206s]
    refine ⟨(h 2 1).toNat, by rw [q4_w 182 2 (Nat.le_refl _), hm_w]; omega, by omega, fun r h' ⟨N, S, P, V, _, b⟩ _ => ?_⟩
    rcases b with ⟨f, _, _, _, kf, k4, _, k5, k18, _⟩ | ⟨D, _, _, rf, bg⟩
    · exact y1.fr (fun k z => kf.1 k (by omega)) (fun q _ => congrFun k4 q) k18 (congrFun k5 0) (congrFun k5 1)
    · exact rsu_begin rf bg
  exact (snd_24 (n + 41) _ _ _ _ _ c206 _ _ _ _ e2_w).2 rfl
theorem y_214 {v1_w v : List Int} (hK2 : 20000000000 ≤ K) (hn : n + 41 < 99999) (hI : Inv5 h) (y : RSU h) (e1_w : evF xs L g_ck K g_cW g_M (n + 41) 4 [0] ((a_g3, c, d), h) = some (1, v1_w, ((a_g3, c, d), h1))) (e2_w : evF xs L g_ck K g_cW g_M (n + 41) 214 [182] ((a_g3, c, d), h1) = some (1, v, ((a_g3, c, d), h2))) : RSU h2 := by
  obtain ⟨hH, m0_w, m1_w, hm_w⟩ := hI.1.1.1
  obtain ⟨v', h1', q1_w, -, -, q4_w⟩ := work_ok (xs := xs) (L := L) (K := K) (c := c) (d := d) (n := n + 40) (by omega) (by omega) hH
  have u : h1' = h1 := by
    have t := q1_w.symm.trans e1_w
    cases t
    rfl
  subst u
  obtain ⟨-, fr⟩ := fr_all (n + 41) 214 [182] _ _ _ _ _ _ (by decide) rfl (Or.inr rfl) e2_w
  exact (y.u (fun o k a _ => q4_w o k a)).fr (fun k _ => fr 188 k (fun z => absurd z (by decide)) (by decide)) (fun q _ => fr 194 q (fun z => absurd z (by decide)) (by decide)) (fr 182 18 (fun _ => by decide) (by decide)) (fr 195 0 (fun z => absurd z (by decide)) (by decide)) (fr 195 1 (fun z => absurd z (by decide)) (by decide))
theorem y_183 {a b e : Int} {v1_w v : List Int} (hK2 : 20000000000 ≤ K) (hI : Inv5 h) (y : RSU h) (e1_w : evF xs L g_ck K g_cW g_M (n + 41) 1 [0, a, b, e] ((a_g3, c, d), h) = some (1, v1_w, ((a_g3, c, d), h1))) (e2_w : evF xs L g_ck K g_cW g_M (n + 41) 183 [182, a, b, e] ((a_g3, c, d), h1) = some (1, v, ((a_g3, c, d), h2))) : RSU h2 := by
  obtain ⟨v', h1', h2', q1_w, q2_w, -, q4_w⟩ := feed_i4 (xs := xs) (L := L) (K := K) (n := n + 39) (c := c) (d := d) (a := a) (b := b) (e := e) (by omega) hI.four
  have u : h1' = h1 := by
    have t := q1_w.symm.trans e1_w
    cases t
    rfl
  subst u
  have u : h2' = h2 := by
    have t := q2_w.symm.trans e2_w
    cases t
    rfl
  subst u
  refine y.fr (fun k _ => q4_w 188 k (by decide) (by decide) (by decide) (by decide)) (fun q _ => q4_w 194 q (by decide) (by decide) (by decide) (by decide)) ?_ (q4_w 195 0 (by decide) (by decide) (by decide) (by decide)) (q4_w 195 1 (by decide) (by decide) (by decide) (by decide))
  obtain ⟨-, fr⟩ := fr_all (n + 41) 183 [182, a, b, e] _ _ _ _ _ _ (by decide) rfl (Or.inr rfl) e2_w
  rw [fr 182 18 (fun _ => rfl) rfl]
  obtain ⟨hH, m0_w, m1_w, hm_w⟩ := hI.1.1.1
  obtain ⟨x, w1_w, z1, w5⟩ := fqA (xs := xs) (L := L) (ck := g_ck) (cW := g_cW) (K := K) (n := n + 39) (a := a) (b := b) (c := e) (g := (a_g3, c, d)) (h := h) (by omega) fg_1 fg_2 fg_3 fg_4 (by decide) rfl ⟨m0_w, m1_w⟩
  have u1 : x = h1' := by
    have t := w1_w.symm.trans e1_w
    cases t
    rfl
  subst u1
  exact w5 (fun x => x 182 18 = h 182 18) (fun x m s p => by
    unfold upA
    split
    · have t2_w : (2 : Int).toNat = 2 := rfl
      have t3_w : (3 : Int).toNat = 3 := rfl
      rw [up_ne (fun z => by have := z.1; omega), up_ne (fun z => by have := z.1; omega)]
      exact p
    · exact p) rfl
/-- a question_w that may_w throw_w, not compared -/
theorem try_iy {q f r o ml_w : Nat} {pk_w rk : List Nat} {A : SX} {vs ws_w en : List Int} {p : List AVs × Option AVs} (hy : ∀ (c d : Nat) (h h1 h2 : XH) (v : List Int), Inv5 h → Y h → RefU h h1 → CLW h h1 → evF xs L g_ck K g_cW g_M (n + 41) r (182 :: ws_w) ((a_g3, c, d), h1) = some (1, v, ((a_g3, c, d), h2)) → Y h2) (ep : u2_T f = some p) (la : LsA p.1 vs) (hK2 : 20000000000 ≤ K) (hn : n + 41 < 99999) (hm_w : g_M q = (0, ml_w, pk_w, rk, sx 2 (sx 24 (sx 3 (sv o) z0 z0) A (sv f)) (sx 16 (sx 1 z0 (sv 1) z0) z0 z0) z0)) (hen : j_pad 0 ml_w (j_lay pk_w (vs ++ [203])) = en) (ho : en.getD o 0 = 203) (hA : ∀ st, evE xs L g_ck (evF xs L g_ck K g_cW g_M (n + 40)) g_cW A en st = some (vs, st)) (hd_w : g_dp f ≤ 30) (hR : (g_T 0).2.2.1 f = [1]) (ha_w : VL (fun _ => 0) a_g3 ((g_T 0).2.1 f) vs) (hr : r_dp r ≤ 30) (hf : r_n5 r = true) (hv : ∀ P, IL P (qP (r_T 0) r) (182 :: ws_w)) (hb_w : BKp xs L K (n + 41) r ws_w) :
    ∀ (c d : Nat) (h : XH), Inv5 h ∧ Y h → ∃ (v1_w v2 : List Int) (c' d' : Nat) (h1 h2 : XH), evF xs L g_ck K g_cW g_M (n + 41) q (vs ++ [203]) ((a_g3, c, d), h) = some (1, v1_w, ((a_g3, c', d'), h1)) ∧ evF xs L g_ck K g_cW g_M (n + 41) r (182 :: ws_w) ((a_g3, c', d'), h1) = some (1, v2, ((a_g3, c', d'), h2)) ∧ (Inv5 h2 ∧ Y h2) ∧ c' ≤ c + 1 ∧ d' ≤ d + 6 := fun c d h hIY => by
  have hI := hIY.1
  have f3_w : r_n3 r = true := by
    simp only [r_n5, r_n4, Bool.and_eq_true] at hf
    exact hf.1.1.1.1.1
  have f1_w : r_nf r = true := by
    simp only [r_n3, Bool.and_eq_true] at f3_w
    exact f3_w.1.1.1
  obtain ⟨v1_w, c', d', h1, e1_w, e2_w, e3_w, e4_w, e5_w⟩ := catch_g (xs := xs) (L := L) (K := K) (n := n + 40) (c := c) (d := d) (by omega) hm_w hen ho hA (by omega) (by omega) hR ha_w hI.1
  obtain ⟨v2, h2, g1, g2, -⟩ := ref_inv (xs := xs) (L := L) (c := c') (d := d') hK2 hn (by omega) f1_w hv e2_w.1
  obtain ⟨-, b1, b2, b3, b4⟩ := ref_3 (g := (a_g3, c', d')) f3_w rfl g1
  have w : ∃ hX, FrW u2_W h hX ∧ ∀ o k : Nat, o ≠ 203 → h1 o k = hX o k := by
    rcases e5_w with ⟨-, -, -, w, hX, -, q1_w, q2_w⟩ | ⟨-, r1_w, g3_w, hX, q1_w, q2_w⟩
    · exact ⟨hX, cls_u2 ep la q1_w, fun o k z => by rw [q2_w]; exact up_ne (fun y => z y.1)⟩
    · exact ⟨hX, cls_u2 ep la q1_w, fun o k z => by rw [q2_w]⟩
  obtain ⟨hX, w1_w, w2_w⟩ := w
  have u : RefU h h1 := fun o k a b => (w2_w o k (by omega)).trans (w1_w o k (u2_ref o k a (by omega)))
  have cw : CLW h h1 := fun x q a => (w2_w x q (by omega)).trans (w1_w x q (by
    rcases a with a | a | a
    · exact u2_l70 x q (by omega) (by omega)
    · exact u2_l112 x q (by omega) (by omega)
    · exact u2_l52 x q (by omega) (by omega)))
  exact ⟨[v1_w], v2, c', d', h1, h2, e1_w, g1, ⟨⟨e2_w.kp g2 b1 b2 b3 b4, hI.2.q hI.1.1.2 w1_w w2_w hf hb_w g1⟩, hy c' d' h h1 h2 v2 hI hIY.2 u cw g1⟩, e3_w, e4_w⟩
/-- a question_w that may_w throw_w, compared -/
theorem try_cy {X : XH → Prop} {q f r o ml_w : Nat} {pk_w rk : List Nat} {A : SX} {vs ws_w en : List Int} {p : List AVs × Option AVs} (hyx : ∀ h, Y h → X h) (hy : ∀ (c d : Nat) (h h1 h2 : XH) (v : List Int), Inv5 h → Y h → RefU h h1 → CLW h h1 → evF xs L g_ck K g_cW g_M (n + 41) r (182 :: ws_w) ((a_g3, c, d), h1) = some (1, v, ((a_g3, c, d), h2)) → Y h2) (ac : AskC X xs L K (n + 40) (n + 41) f r vs ws_w) (ep : u2_T f = some p) (la : LsA p.1 vs) (hK2 : 20000000000 ≤ K) (hn : n + 41 < 99999) (hm_w : g_M q = (0, ml_w, pk_w, rk, sx 2 (sx 24 (sx 3 (sv o) z0 z0) A (sv f)) (sx 16 (sx 1 z0 (sv 1) z0) z0 z0) z0)) (hen : j_pad 0 ml_w (j_lay pk_w (vs ++ [203])) = en) (ho : en.getD o 0 = 203) (hA : ∀ st, evE xs L g_ck (evF xs L g_ck K g_cW g_M (n + 40)) g_cW A en st = some (vs, st)) (hd_w : g_dp f ≤ 30) (hR : (g_T 0).2.2.1 f = [1]) (ha_w : VL (fun _ => 0) a_g3 ((g_T 0).2.1 f) vs) (hr : r_dp r ≤ 30) (hf : r_n5 r = true) (h203 : (m_W r).2.contains 203 = false) (hv : ∀ P, IL P (qP (r_T 0) r) (182 :: ws_w)) (hb_w : BKp xs L K (n + 41) r ws_w) :
    ∀ (c d : Nat) (h : XH), Inv5 h ∧ Y h → ∃ (v1_w : Int) (v2 : List Int) (c' d' : Nat) (h1 h2 : XH), evF xs L g_ck K g_cW g_M (n + 41) q (vs ++ [203]) ((a_g3, c, d), h) = some (1, [v1_w], ((a_g3, c', d'), h1)) ∧ evF xs L g_ck K g_cW g_M (n + 41) r (182 :: ws_w) ((a_g3, c', d'), h1) = some (1, v2, ((a_g3, c', d'), h2)) ∧ h2 182 0 = v1_w ∧ (v1_w = 0 ∧ [h2 203 0] = v2 ∨ v1_w = 1) ∧ (Inv5 h2 ∧ Y h2) ∧ c' ≤ c + 1 ∧ d' ≤ d + 6 := fun c d h hIY => by
  obtain ⟨w1_w, w2_w, c1_w, d1_w, g1, g2, a1_w, a2, a3, a4, a5, a6, a7⟩ := try_c5 (X := X) ac ep la hK2 hn hm_w hen ho hA hd_w hR ha_w hr hf h203 hv hb_w c d h hIY.1 (hyx h hIY.2)
  obtain ⟨v1_w, v2, c', d', h1, h2, e1_w, e2_w, e3_w, e4_w, e5_w⟩ := try_iy (Y := Y) hy ep la hK2 hn hm_w hen ho hA hd_w hR ha_w hr hf hv hb_w c d h hIY
  have t := a1_w.symm.trans e1_w
  cases t
  have t := a2.symm.trans e2_w
  cases t
  exact ⟨w1_w, w2_w, c1_w, d1_w, g1, g2, a1_w, a2, a3, a4, e3_w, a6, a7⟩
end INVY
def Inv6 (h : XH) : Prop := Inv5 h ∧ RSU h
theorem inv6_i0 : Inv6 i0 := by
  have a1_w : i0 188 3 = 0 := by decide +kernel
  have a7 : i0 194 404 = 0 := by decide +kernel
  have a8 : i0 182 18 = 0 := by decide +kernel
  have a9 : i0 195 0 = 0 := by decide +kernel
  have a10 : i0 195 1 = 0 := by decide +kernel
  have a7' : i0 194 (0 + 404) = 0 := a7
  exact ⟨inv5_i0, ⟨by omega, by omega⟩, fun q a b => by omega, ⟨by omega, fun i z => by omega⟩, fun i z => by omega, fun z => absurd a9 z, fun z => absurd a10 z⟩
end
section
/-! ===== contracts: what is_w left of a slot_w when all shares are out, all shares (written_w by wip/new_w/gen_t0.py) ===== -/
/-- whom meters are with is_w told_w -/
def SUPA (D : DD) (a : Nat → Int) : Prop := ∀ m s : Nat, m < nM D → s < 12 → a (78 + (12 * m + s)) < (nU D : Int)
section PRF
variable {D : DD} {a b : Nat → Int} {s m u n : Nat}
theorem SUPA.cg (w : WFD D) (e : EqD D a b) (p : SUPA D b) : SUPA D a := fun m s hm_w hs => by
  have m6_w := w.cn.2.2.1
  rw [e _ (Or.inr (Or.inl ⟨by omega, by omega⟩))]
  exact p m s hm_w hs
end PRF
def CS77 : CSt := CS76
theorem snd_77 {xs : Nat → Int} {L K : Nat} : ∀ n, SndC CS77 (evF xs L g_ck K g_cW g_M n) := snd_76
def CS78 : CSt := CS77
theorem snd_78 {xs : Nat → Int} {L K : Nat} : ∀ n, SndC CS78 (evF xs L g_ck K g_cW g_M n) := snd_77
end
section
/-! ===== contracts: days by draws ===== -/
section DYS
variable {D : DD} {a b : Nat → Int} {g n k : Nat} {v : Int} {h : XH}
theorem SUPA.up (p : SUPA D a) (hk : k < 78) : SUPA D (updF a k v) := fun m s hm_w hs => by
  rw [updF_ne (by omega)]
  exact p m s hm_w hs
end DYS
def CS79 : CSt := CS78
theorem snd_79 {xs : Nat → Int} {L K : Nat} : ∀ n, SndC CS79 (evF xs L g_ck K g_cW g_M n) := snd_78
def CS80 : CSt := CS79
theorem snd_80 {xs : Nat → Int} {L K : Nat} : ∀ n, SndC CS80 (evF xs L g_ck K g_cW g_M n) := snd_79
def CS81 : CSt := CS80
theorem snd_81 {xs : Nat → Int} {L K : Nat} : ∀ n, SndC CS81 (evF xs L g_ck K g_cW g_M n) := snd_80
end
section
/-! ===== contracts: who, ask_w ===== -/
def SER (D : DD) (n : Nat) (h : XH) : Prop := n ≤ 8 ∧ h 194 404 = (n : Int) ∧ ∀ i : Nat, i < n → 0 ≤ h 194 (405 + 3 * i) ∧ (h 194 (405 + 3 * i)).toNat < nS D
def CS82 : CSt := CS81
theorem snd_82 {xs : Nat → Int} {L K : Nat} : ∀ n, SndC CS82 (evF xs L g_ck K g_cW g_M n) := snd_81
end
section
/-! ===== contracts: who and ask_w, whole_w ===== -/
section KKT3
variable {h h' h1 h2 : XH} {Q : Nat → List Int → XH → Prop} {t b s n w g i x : Int} {D : DD} {v : Int}
theorem SER.th (s : SER D n.toNat h) : SER D n.toNat (j_up h 182 0 v) := ⟨s.1, (up_ne (by omega)).trans s.2.1, fun i z => by
  rw [up_ne (by omega)]
  exact s.2.2 i z⟩
end KKT3
def CS83 : CSt := CS82
theorem snd_83 {xs : Nat → Int} {L K : Nat} : ∀ n, SndC CS83 (evF xs L g_ck K g_cW g_M n) := snd_82
def CS84 : CSt := CS83
theorem snd_84 {xs : Nat → Int} {L K : Nat} : ∀ n, SndC CS84 (evF xs L g_ck K g_cW g_M n) := snd_83
end
