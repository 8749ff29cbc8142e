section
/-! ===== contracts: what is_w tried in a book_w: swing, gains, bears, heaviest ===== -/
section BKS
variable {D : DD} {a b : Nat → Int} {m u k : Nat} {v : Int}
theorem RGA.up (r : RGA D a) (hk : k < 78) (hv : -1 ≤ v ∧ v ≤ 9999) : RGA D (updF a k v) := ⟨fun q z => by
  by_cases y : q = k
  · rw [y, updF_at]
    exact hv
  · rw [updF_ne y]
    exact r.1 q z, fun q z1 z2 => by
  rw [updF_ne (by omega)]
  exact r.2.1 q z1 z2, fun q z1 z2 => by
  rw [updF_ne (by omega)]
  exact r.2.2 q z1 z2⟩
end BKS
/-- a book_w is_w opened_w: what lies there_w is_w tried -/
def OPC (h h' : XH) : Prop := (∀ x k : Nat, ¬ (91 ≤ x ∧ x ≤ 111) → ¬ (x = 0 ∧ k = 15) → h' x k = h x k) ∧ ∀ q : Nat, q ≤ 162 → cl 91 h' q = cl 70 h q
section KKR0
variable {h h' h1 h2 : XH} {Q : Nat → List Int → XH → Prop} {t m p v u : Int} {D : DD}
theorem SETP.fr (r : SETP D h) (z : ∀ o k : Nat, (6 ≤ o ∧ o ≤ 24) ∨ (70 ≤ o ∧ o ≤ 90) → h' o k = h o k) : SETP D h' ∧ cl 70 h' = cl 70 h := by
  have e : cl 70 h' = cl 70 h := cl_eq (fun o k a b => z o k (Or.inr ⟨a, by omega⟩))
  refine ⟨⟨r.1, r.2.1.fr (fun o k a b => z o k (Or.inl ⟨a, b⟩)), fun y => (r.2.2.1 y).fr (z 22 3 (Or.inl ⟨by decide, by decide⟩)) (fun k => z 24 k (Or.inl ⟨by decide, by decide⟩)), ?_⟩, e⟩
  rw [e]
  exact r.2.2.2
theorem OPC.eq (o : OPC h h') (r : SETP D h) : EqD D (cl 91 h') (cl 70 h) := EqD.of r.1.cn.2.2.1 r.1.cn.2.2.2.1 o.2
theorem RSET.fr2 (r : RSET D h) (z1 : ∀ k : Nat, h' 188 k = h 188 k) (z2 : ∀ k : Nat, h' 189 k = h 189 k) (z3 : ∀ k : Nat, h' 190 k = h 190 k) (z4 : ∀ q : Nat, q < 404 → h' 194 q = h 194 q) : RSET D h' ∧ EqD D (bl 0 h') (bl 0 h) := by
  have e : EqD D (bl 0 h') (bl 0 h) := EqD.of r.1.cn.2.2.1 r.1.cn.2.2.2.1 (fun q y => z4 (0 + q) (by omega))
  refine ⟨⟨r.1, r.2.1.fr3 (fun x k a => ?_), r.2.2.1.fr (fun x k a => ?_), RGA.cg e r.2.2.2⟩, e⟩
  · rcases a with rfl | rfl | rfl
    · exact z1 k
    · exact z2 k
    · exact z3 k
  · rcases a with rfl | rfl
    · exact z1 k
    · exact z2 k
end KKR0
def CS74 : CSt := CS73
theorem snd_74 {xs : Nat → Int} {L K : Nat} : ∀ n, SndC CS74 (evF xs L g_ck K g_cW g_M n) := snd_73
def CS75 : CSt := CS74
theorem RSET.tz0 {D : DD} {h : XH} {v : Int} (r : RSET D h) : RSET D (j_up h 182 0 v) ∧ EqD D (bl 0 (j_up h 182 0 v)) (bl 0 h) := r.fr2 (fun k => up_ne (by omega)) (fun k => up_ne (by omega)) (fun k => up_ne (by omega)) (fun q _ => up_ne (by omega))
theorem snd_75 {xs : Nat → Int} {L K : Nat} : ∀ n, SndC CS75 (evF xs L g_ck K g_cW g_M n) := snd_74
def CS76 : CSt := CS75
theorem snd_76 {xs : Nat → Int} {L K : Nat} : ∀ n, SndC CS76 (evF xs L g_ck K g_cW g_M n) := snd_75
end
section
/-! ===== what lasts beside the state_w: with whom meters are is_w told_w, slots_w that are seen_w are slots_w ===== -/
def SBK (c : Nat) (h : XH) : Prop := ∀ q : Nat, 78 ≤ q → (q : Int) < 78 + 12 * h 188 3 → h 194 (c + q) < h 188 2
def SLT (c : Nat) (h : XH) : Prop := h 194 (c + 404) ≤ 8 ∧ ∀ i : Nat, (i : Int) < h 194 (c + 404) → 0 ≤ h 194 (c + (405 + 3 * i)) ∧ h 194 (c + (405 + 3 * i)) < h 188 0
def RSU (h : XH) : Prop := (h 188 3 ≤ 6 ∧ h 182 18 ≤ 8) ∧ SBK 0 h ∧ SLT 0 h ∧ (∀ i : Nat, (i : Int) < h 182 18 → SBK (429 * (3 + i)) h) ∧ (h 195 0 ≠ 0 → SBK 429 h ∧ SLT 429 h) ∧ (h 195 1 ≠ 0 → SBK 858 h ∧ SLT 858 h)
section RSUS
variable {xs : Nat → Int} {L K n : Nat} {c c' d e' : Nat} {h h' h1 h2 x : XH} {D : DD} {g : XS × Nat × Nat} {v : List Int} {w : Nat}
theorem SBK.fr (s : SBK c h) (m6_w : h 188 3 ≤ 6) (e : ∀ k : Nat, k < 4 → h' 188 k = h 188 k) (z : ∀ q : Nat, q < 150 → h' 194 (c' + q) = h 194 (c + q)) : SBK c' h' := fun q a b => by
  rw [e 3 (by decide)] at b
  rw [z q (by omega), e 2 (by decide)]
  exact s q a b
theorem SLT.fr (s : SLT c h) (e : ∀ k : Nat, k < 4 → h' 188 k = h 188 k) (z : ∀ q : Nat, 404 ≤ q → q < 429 → h' 194 (c' + q) = h 194 (c + q)) : SLT c' h' := by
  obtain ⟨a, b⟩ := s
  have z4 := z 404 (by decide) (by decide)
  refine ⟨by omega, fun i hi_w => ?_⟩
  rw [z4] at hi_w
  rw [z (405 + 3 * i) (by omega) (by omega), e 0 (by decide)]
  exact b i hi_w
theorem RSU.fr (r : RSU h) (e : ∀ k : Nat, k < 4 → h' 188 k = h 188 k) (z : ∀ q : Nat, q < 4719 → h' 194 q = h 194 q) (u : h' 182 18 = h 182 18) (a0_w : h' 195 0 = h 195 0) (a1_w : h' 195 1 = h 195 1) : RSU h' := by
  obtain ⟨⟨m6_w, n8⟩, b0, t0_w, ui, k0_w, k1_w⟩ := r
  refine ⟨⟨by rw [e 3 (by decide)]; exact m6_w, by rw [u]; exact n8⟩, b0.fr m6_w e (fun q y => z _ (by omega)), t0_w.fr e (fun q y1 y2 => z _ (by omega)), fun i hi_w => ?_, fun y => ?_, fun y => ?_⟩
  · rw [u] at hi_w
    exact (ui i hi_w).fr m6_w e (fun q y => z _ (by omega))
  · rw [a0_w] at y
    exact ⟨(k0_w y).1.fr m6_w e (fun q y => z _ (by omega)), (k0_w y).2.fr e (fun q y1 y2 => z _ (by omega))⟩
  · rw [a1_w] at y
    exact ⟨(k1_w y).1.fr m6_w e (fun q y => z _ (by omega)), (k1_w y).2.fr e (fun q y1 y2 => z _ (by omega))⟩
/-- one more_w deed: what was is_w kept -/
theorem RSU.push (r : RSU h) (hw : h 182 18 = (w : Int)) (kx : RKP w (thz h) x) (e8 : ∀ k : Nat, k < 4 → h' 188 k = x 188 k) (e4_w : ∀ k : Nat, 404 ≤ k → k < 4719 → h' 194 k = x 194 k) (e2_w : h' 182 18 = x 182 18) (e5_w : ∀ k : Nat, h' 195 k = x 195 k) (sb_w : SBK 0 h') : RSU h' := by
  obtain ⟨⟨m6_w, n8⟩, b0, t0_w, ui, k0_w, k1_w⟩ := r
  obtain ⟨x1_w, x2_w, x3, x4_w⟩ := kx
  have w8 : w ≤ 8 := by omega
  have p7_w : pn8 w ≤ 7 := by
    unfold pn8
    split <;> omega
  have f8_w : ∀ k : Nat, k < 4 → h' 188 k = h 188 k := fun k z => (e8 k z).trans ((x1_w 188 k (by omega) (by omega)).trans (th_e (by decide)))
  have f5_w : ∀ k : Nat, h' 195 k = h 195 k := fun k => (e5_w k).trans ((x1_w 195 k (by omega) (by omega)).trans (th_e (by decide)))
  have f4_w : ∀ k : Nat, 404 ≤ k → k < 1287 → h' 194 k = h 194 k := fun k a b => (e4_w k a (by omega)).trans ((x1_w 194 k (by omega) (by omega)).trans (th_e (by decide)))
  have f2_w : h' 182 18 = ((pn8 w + 1 : Nat) : Int) := e2_w.trans x2_w
  refine ⟨⟨by rw [f8_w 3 (by decide)]; exact m6_w, by omega⟩, sb_w, t0_w.fr f8_w (fun q a b => f4_w _ (by omega) (by omega)), fun i hi_w => ?_, fun y => ?_, fun y => ?_⟩
  · by_cases yi : i = pn8 w
    · subst yi
      refine b0.fr m6_w f8_w (fun q y => ?_)
      rw [e4_w _ (by omega) (by omega), x4_w q (by omega), th_e (by decide), Nat.zero_add]
    · have ip : i < pn8 w := by omega
      have iw : (((if w = 8 then i + 1 else i) : Nat) : Int) < h 182 18 := by
        unfold pn8 at ip
        split at ip
        · rw [if_pos (by assumption)]
          omega
        · rw [if_neg (by assumption)]
          omega
      refine (ui _ iw).fr m6_w f8_w (fun q y => ?_)
      rw [e4_w _ (by omega) (by omega), x3 i ip q (by omega), th_e (by decide)]
  · rw [f5_w 0] at y
    exact ⟨(k0_w y).1.fr m6_w f8_w (fun q y => f4_w _ (by omega) (by omega)), (k0_w y).2.fr f8_w (fun q y1 y2 => f4_w _ (by omega) (by omega))⟩
  · rw [f5_w 1] at y
    exact ⟨(k1_w y).1.fr m6_w f8_w (fun q y => f4_w _ (by omega) (by omega)), (k1_w y).2.fr f8_w (fun q y1 y2 => f4_w _ (by omega) (by omega))⟩
theorem RSU.th (r : RSU h) : RSU (thz h) := r.fr (fun k _ => th_e (by decide)) (fun q _ => th_e (by decide)) (up_ne (by omega)) (th_e (by decide)) (th_e (by decide))
theorem SBK.kp (r : RSU h) (kx : RKP w (thz h) x) (e : ∀ k : Nat, k < 4 → h' 188 k = x 188 k) (z : ∀ q : Nat, 78 ≤ q → q < 150 → h' 194 q = x 194 q ∨ h' 194 q < h 188 2) : SBK 0 h' := fun q a b => by
  obtain ⟨⟨m6_w, n8⟩, b0, -⟩ := r
  obtain ⟨x1_w, -⟩ := kx
  have f8_w : ∀ k : Nat, k < 4 → h' 188 k = h 188 k := fun k z => (e k z).trans ((x1_w 188 k (by omega) (by omega)).trans (th_e (by decide)))
  rw [f8_w 3 (by decide)] at b
  rw [f8_w 2 (by decide)]
  have t := b0 q a b
  rw [Nat.zero_add] at t ⊢
  rcases z q a (by omega) with y | y
  · rw [y, x1_w 194 q (by omega) (by omega), th_e (by decide)]
    exact t
  · exact y
/-- what the reference's deeds keep_w -/
theorem rsu_265 {m p u : Int} (rf : RF D h) (r : RSU h) (h0 : 0 ≤ h 182 18) (e : evF xs L g_ck K g_cW g_M n 265 [182, m, p, u] ((a_g3, c, d), h) = some (1, v, ((a_g3, c, d), h2))) : RSU h2 := by
  obtain ⟨w, hw⟩ : ∃ w : Nat, h 182 18 = (w : Int) := ⟨(h 182 18).toNat, by omega⟩
  have w8 : w ≤ 8 := by
    have := r.1.2
    omega
  have l6 : D.2.2.2.2.1.length ≤ 6 := rf.ix.1.2.2.2.2.2
  have l12 := lp_lr rf (m := m)
  have cc : CS43 265 [182, m, p, u] h (fun k _ h' => k = 1 → RSU h') := by
    rw [cs43_265, kk_265]
    refine ⟨D, w, rf, hw, w8, fun _ _ => r.th, fun y x kx _ => ?_⟩
    unfold okR at y
    exact r.push hw kx (fun k _ => up_ne (by omega)) (fun k a b => up_ne (by omega)) (up_ne (by omega)) (fun k => up_ne (by omega)) (SBK.kp r kx (fun k _ => up_ne (by omega)) (fun q a b => Or.inl (up_ne (by omega))))
  exact (snd_43 n _ _ _ _ _ cc _ _ _ _ e).2 rfl
theorem rsu_267 {m s t : Int} (s12 : h 188 0 ≤ 12) (r : RSU h) (h0 : 0 ≤ h 182 18) (e : evF xs L g_ck K g_cW g_M n 267 [182, m, s, t] ((a_g3, c, d), h) = some (1, v, ((a_g3, c, d), h2))) : RSU h2 := by
  obtain ⟨w, hw⟩ : ∃ w : Nat, h 182 18 = (w : Int) := ⟨(h 182 18).toNat, by omega⟩
  have w8 : w ≤ 8 := by
    have := r.1.2
    omega
  have cc : CS43 267 [182, m, s, t] h (fun k _ h' => k = 1 → RSU h') := by
    rw [cs43_267, kk_267]
    refine ⟨w, r.1.1, s12, hw, w8, fun _ _ => r.th, fun y x h' kx f1_w f2_w _ => ?_⟩
    unfold okMr at y
    have m6_w := r.1.1
    refine r.push hw kx (fun k _ => f1_w 188 k (by decide)) (fun k a b => ?_) (f1_w 182 18 (by decide)) (fun k => f1_w 195 k (by decide)) (SBK.kp r kx (fun k _ => f1_w 188 k (by decide)) (fun q a b => ?_))
    · rw [f2_w k, if_neg (by omega)]
    · rw [f2_w q]
      by_cases yq : 78 + (12 * m.toNat + t.toNat) ≤ q ∧ q < 78 + (12 * m.toNat + 12)
      · rw [if_pos yq]
        exact Or.inr y.2.2.2.1
      · rw [if_neg yq]
        exact Or.inl rfl
  exact (snd_43 n _ _ _ _ _ cc _ _ _ _ e).2 rfl
theorem rsu_268 {t u : Int} (s12 : h 188 0 ≤ 12) (r : RSU h) (h0 : 0 ≤ h 182 18) (e : evF xs L g_ck K g_cW g_M n 268 [182, t, u] ((a_g3, c, d), h) = some (1, v, ((a_g3, c, d), h2))) : RSU h2 := by
  obtain ⟨w, hw⟩ : ∃ w : Nat, h 182 18 = (w : Int) := ⟨(h 182 18).toNat, by omega⟩
  have w8 : w ≤ 8 := by
    have := r.1.2
    omega
  have cc : CS43 268 [182, t, u] h (fun k _ h' => k = 1 → RSU h') := by
    rw [cs43_268, kk_268]
    refine ⟨w, s12, hw, w8, fun _ _ => r.th, fun y x kx _ => ?_⟩
    unfold okTr at y
    exact r.push hw kx (fun k _ => up_ne (by omega)) (fun k a b => up_ne (by omega)) (up_ne (by omega)) (fun k => up_ne (by omega)) (SBK.kp r kx (fun k _ => up_ne (by omega)) (fun q a b => Or.inl (up_ne (by omega))))
  exact (snd_43 n _ _ _ _ _ cc _ _ _ _ e).2 rfl
theorem rsu_271 {S U M q : Nat} (ru : RUH S U M q h) (r : RSU h) (h0 : 0 ≤ h 182 18) (e : evF xs L g_ck K g_cW g_M n 271 [182] ((a_g3, c, d), h) = some (1, v, ((a_g3, c, d), h2))) : RSU h2 := by
  obtain ⟨w, hw⟩ : ∃ w : Nat, h 182 18 = (w : Int) := ⟨(h 182 18).toNat, by omega⟩
  have w8 : w ≤ 8 := by
    have := r.1.2
    omega
  have cc : CS43 271 [182] h (fun k _ h' => k = 1 → RSU h') := by
    rw [cs43_271, kk_271]
    refine ⟨S, U, M, q, w, ru, hw, w8, fun _ _ => r.th, fun _ x h' kx f1_w f2_w _ _ => ?_⟩
    have k8 : ∀ k : Nat, h' 188 k = x 188 k := fun k => congrFun (f1_w.row (by decide) (by decide)) k
    have k5 : ∀ k : Nat, h' 195 k = x 195 k := fun k => congrFun (f1_w.row (by decide) (by decide)) k
    exact r.push hw kx (fun k _ => k8 k) (fun k a b => f2_w k (Or.inr a)) (f1_w 182 18 (fun _ => by decide) (by decide)) k5 (SBK.kp r kx (fun k _ => k8 k) (fun q a b => Or.inl (f2_w q (Or.inl (by omega)))))
  exact (snd_43 n _ _ _ _ _ cc _ _ _ _ e).2 rfl
theorem rsu_272 (r : RSU h) (h0 : 0 ≤ h 182 18) (e : evF xs L g_ck K g_cW g_M n 272 [182] ((a_g3, c, d), h) = some (1, v, ((a_g3, c, d), h2))) : RSU h2 := by
  obtain ⟨w, hw⟩ : ∃ w : Nat, h 182 18 = (w : Int) := ⟨(h 182 18).toNat, by omega⟩
  have w8 : w ≤ 8 := by
    have := r.1.2
    omega
  have cc : CS43 272 [182] h (fun k _ h' => k = 1 → RSU h') := by
    rw [cs43_272, kk_272]
    refine ⟨w, hw, w8, fun _ _ => r.th, fun m em h' f1_w f2_w f3_w _ => ?_⟩
    obtain ⟨⟨m6_w, n8⟩, b0, t0_w, ui, k0_w, k1_w⟩ := r
    have f8_w : ∀ k : Nat, k < 4 → h' 188 k = h 188 k := fun k _ => (f1_w 188 k (by omega) (by omega)).trans (th_e (by decide))
    have f5_w : ∀ k : Nat, h' 195 k = h 195 k := fun k => (f1_w 195 k (by omega) (by omega)).trans (th_e (by decide))
    have f4_w : ∀ k : Nat, 404 ≤ k → h' 194 k = h 194 k := fun k a => (f1_w 194 k (by omega) (by omega)).trans (th_e (by decide))
    refine ⟨⟨by rw [f8_w 3 (by decide)]; exact m6_w, by omega⟩, (ui m (by omega)).fr m6_w f8_w (fun q y => ?_), t0_w.fr f8_w (fun q a b => f4_w _ (by omega)), fun i hi_w => ?_, fun y => ?_, fun y => ?_⟩
    · rw [Nat.zero_add]
      exact f3_w q (by omega)
    · exact (ui i (by omega)).fr m6_w f8_w (fun q y => f4_w _ (by omega))
    · rw [f5_w 0] at y
      exact ⟨(k0_w y).1.fr m6_w f8_w (fun q y => f4_w _ (by omega)), (k0_w y).2.fr f8_w (fun q y1 y2 => f4_w _ (by omega))⟩
    · rw [f5_w 1] at y
      exact ⟨(k1_w y).1.fr m6_w f8_w (fun q y => f4_w _ (by omega)), (k1_w y).2.fr f8_w (fun q y1 y2 => f4_w _ (by omega))⟩
  exact (snd_43 n _ _ _ _ _ cc _ _ _ _ e).2 rfl
theorem rsu_304 {t u b : Int} (hb_w : b = 0 ∨ b = 1) (r : RSU h) (h0 : 0 ≤ h 194 404) (e : evF xs L g_ck K g_cW g_M n 304 [182, t, u, b] ((a_g3, c, d), h) = some (1, v, ((a_g3, c, d), h2))) : RSU h2 := by
  obtain ⟨w, hw⟩ : ∃ w : Nat, h 194 404 = (w : Int) := ⟨(h 194 404).toNat, by omega⟩
  have w8 : w ≤ 8 := by
    have := r.2.2.1.1
    rw [Nat.zero_add] at this
    omega
  have cc : CS43 304 [182, t, u, b] h (fun k _ h' => k = 1 → RSU h') := by
    rw [cs43_304, kk_304]
    refine ⟨w, hw, w8, hb_w, fun _ _ => r.th, fun y z _ => ?_⟩
    obtain ⟨⟨m6_w, n8⟩, b0, t0_w, ui, k0_w, k1_w⟩ := r
    generalize hH : j_up (j_up (j_up (j_up (thz h) 194 (405 + 3 * w) t) 194 (405 + 3 * w + 1) u) 194 (405 + 3 * w + 2) b) 194 404 ((w + 1 : Nat) : Int) = h'
    have f0_w : ∀ o k : Nat, ¬ (o = 194 ∧ 404 ≤ k ∧ k < 429) → h' o k = thz h o k := fun o k a => by
      rw [← hH, up_ne (by omega), up_ne (by omega), up_ne (by omega), up_ne (by omega)]
    have f8_w : ∀ k : Nat, k < 4 → h' 188 k = h 188 k := fun k _ => (f0_w 188 k (by omega)).trans (th_e (by decide))
    have f5_w : ∀ k : Nat, h' 195 k = h 195 k := fun k => (f0_w 195 k (by omega)).trans (th_e (by decide))
    have f4_w : ∀ k : Nat, k < 404 ∨ 429 ≤ k → h' 194 k = h 194 k := fun k a => (f0_w 194 k (by omega)).trans (th_e (by decide))
    have f2_w : h' 182 18 = h 182 18 := (f0_w 182 18 (by omega)).trans (up_ne (by omega))
    refine ⟨⟨by rw [f8_w 3 (by decide)]; exact m6_w, by omega⟩, b0.fr m6_w f8_w (fun q y => f4_w _ (by omega)), ⟨?_, fun i hi_w => ?_⟩, fun i hi_w => ?_, fun y => ?_, fun y => ?_⟩
    · rw [Nat.zero_add, ← hH, up_eq]
      omega
    · have e4_w : h' 194 (0 + 404) = ((w + 1 : Nat) : Int) := by
        rw [Nat.zero_add, ← hH]
        exact up_eq
      rw [e4_w] at hi_w
      rw [f8_w 0 (by decide), Nat.zero_add, ← hH, up_ne (by omega), up_ne (by omega), up_ne (by omega)]
      by_cases yi : i = w
      · rw [yi, up_eq]
        exact ⟨y.1, y.2.1⟩
      · rw [up_ne (by omega), th_e (by decide)]
        have := t0_w.2 i (by rw [Nat.zero_add]; omega)
        rw [Nat.zero_add] at this
        exact this
    · rw [f2_w] at hi_w
      exact (ui i hi_w).fr m6_w f8_w (fun q y => f4_w _ (by omega))
    · rw [f5_w 0] at y
      exact ⟨(k0_w y).1.fr m6_w f8_w (fun q y => f4_w _ (by omega)), (k0_w y).2.fr f8_w (fun q y1 y2 => f4_w _ (by omega))⟩
    · rw [f5_w 1] at y
      exact ⟨(k1_w y).1.fr m6_w f8_w (fun q y => f4_w _ (by omega)), (k1_w y).2.fr f8_w (fun q y1 y2 => f4_w _ (by omega))⟩
  exact (snd_43 n _ _ _ _ _ cc _ _ _ _ e).2 rfl
theorem rsu_311 {m b : Int} (hb_w : b = 0 ∨ b = 1) (q0 : h 195 0 = 0 ∨ h 195 0 = 1) (q1_w : h 195 1 = 0 ∨ h 195 1 = 1) (r : RSU h) (e : evF xs L g_ck K g_cW g_M n 311 [182, m, b] ((a_g3, c, d), h) = some (1, v, ((a_g3, c, d), h2))) : RSU h2 := by
  have cc : CS43 311 [182, m, b] h (fun k _ h' => k = 1 → RSU h') := by
    rw [cs43_311, kk_311]
    refine ⟨hb_w, q0, q1_w, fun _ _ => r.th, fun mn_w em m1_w => ⟨fun _ h' f1_w f2_w _ => ?_, fun _ => ⟨fun _ _ => r.th, fun yk h' f1_w f2_w _ => ?_⟩⟩⟩
    · obtain ⟨⟨m6_w, n8⟩, b0, t0_w, ui, k0_w, k1_w⟩ := r
      have f0_w : ∀ o k : Nat, o ≠ 195 → o ≠ 182 → ¬ (o = 194 ∧ 429 * (1 + mn_w) ≤ k ∧ k < 429 * (1 + mn_w) + 429) → j_up h' 182 18 (h' 182 18) o k = h o k := fun o k a a2 z => (up_ne (by omega)).trans ((f1_w o k z).trans ((up_ne (by omega)).trans (th_e a2)))
      have f8_w : ∀ k : Nat, k < 4 → j_up h' 182 18 (h' 182 18) 188 k = h 188 k := fun k _ => f0_w 188 k (by decide) (by decide) (by omega)
      have f2' : j_up h' 182 18 (h' 182 18) 182 18 = h 182 18 := up_eq.trans ((f1_w 182 18 (by omega)).trans ((up_ne (by omega)).trans (up_ne (by omega))))
      have f5_w : ∀ k : Nat, k ≠ mn_w → j_up h' 182 18 (h' 182 18) 195 k = h 195 k := fun k z => (up_ne (by omega)).trans ((f1_w 195 k (by omega)).trans ((up_ne (by omega)).trans (th_e (by decide))))
      have fb : ∀ q : Nat, q < 429 → j_up h' 182 18 (h' 182 18) 194 (429 * (1 + mn_w) + q) = h 194 (0 + q) := fun q z => by
        rw [Nat.zero_add]
        exact (up_ne (by omega)).trans (f2_w q z)
      have f4_w : ∀ k : Nat, ¬ (429 * (1 + mn_w) ≤ k ∧ k < 429 * (1 + mn_w) + 429) → j_up h' 182 18 (h' 182 18) 194 k = h 194 k := fun k z => f0_w 194 k (by decide) (by decide) (by omega)
      generalize j_up h' 182 18 (h' 182 18) = H at f8_w f2' f5_w fb f4_w ⊢
      have nb : SBK (429 * (1 + mn_w)) H ∧ SLT (429 * (1 + mn_w)) H := ⟨b0.fr m6_w f8_w (fun q y => fb q (by omega)), t0_w.fr f8_w (fun q a b => fb q b)⟩
      refine ⟨⟨by rw [f8_w 3 (by decide)]; exact m6_w, by omega⟩, b0.fr m6_w f8_w (fun q y => f4_w _ (by omega)), t0_w.fr f8_w (fun q y1 y2 => f4_w _ (by omega)), fun i hi_w => ?_, fun y => ?_, fun y => ?_⟩
      · rw [f2'] at hi_w
        exact (ui i hi_w).fr m6_w f8_w (fun q y => f4_w _ (by omega))
      · by_cases ym : mn_w = 0
        · subst ym
          exact nb
        · rw [f5_w 0 (by omega)] at y
          exact ⟨(k0_w y).1.fr m6_w f8_w (fun q y => f4_w _ (by omega)), (k0_w y).2.fr f8_w (fun q y1 y2 => f4_w _ (by omega))⟩
      · by_cases ym : mn_w = 1
        · subst ym
          exact nb
        · rw [f5_w 1 (by omega)] at y
          exact ⟨(k1_w y).1.fr m6_w f8_w (fun q y => f4_w _ (by omega)), (k1_w y).2.fr f8_w (fun q y1 y2 => f4_w _ (by omega))⟩
    · obtain ⟨⟨m6_w, n8⟩, b0, t0_w, ui, k0_w, k1_w⟩ := r
      have f0_w : ∀ o k : Nat, o ≠ 195 → o ≠ 182 → ¬ (o = 194 ∧ k < 429) → j_up h' 182 18 0 o k = h o k := fun o k a a2 z => (up_ne (by omega)).trans ((f1_w o k z).trans ((up_ne (by omega)).trans (th_e a2)))
      have f8_w : ∀ k : Nat, k < 4 → j_up h' 182 18 0 188 k = h 188 k := fun k _ => f0_w 188 k (by decide) (by decide) (by omega)
      have f2' : j_up h' 182 18 0 182 18 = 0 := up_eq
      have f5_w : ∀ k : Nat, k ≠ mn_w → j_up h' 182 18 0 195 k = h 195 k := fun k z => (up_ne (by omega)).trans ((f1_w 195 k (by omega)).trans ((up_ne (by omega)).trans (th_e (by decide))))
      have fb : ∀ q : Nat, q < 429 → j_up h' 182 18 0 194 (0 + q) = h 194 (429 * (1 + mn_w) + q) := fun q z => by
        rw [Nat.zero_add]
        exact (up_ne (by omega)).trans (f2_w q z)
      have f4_w : ∀ k : Nat, 429 ≤ k → j_up h' 182 18 0 194 k = h 194 k := fun k z => f0_w 194 k (by decide) (by decide) (by omega)
      have nb : SBK (429 * (1 + mn_w)) h ∧ SLT (429 * (1 + mn_w)) h := by
        rcases (show mn_w = 0 ∨ mn_w = 1 by omega) with rfl | rfl
        · exact k0_w yk
        · exact k1_w yk
      generalize j_up h' 182 18 0 = H at f8_w f2' f5_w fb f4_w ⊢
      refine ⟨⟨by rw [f8_w 3 (by decide)]; exact m6_w, by omega⟩, nb.1.fr m6_w f8_w (fun q y => fb q (by omega)), nb.2.fr f8_w (fun q a b => fb q b), fun i hi_w => absurd hi_w (by omega), fun y => ?_, fun y => ?_⟩
      · by_cases ym : mn_w = 0
        · subst ym
          exact ⟨(k0_w yk).1.fr m6_w f8_w (fun q y => f4_w _ (by omega)), (k0_w yk).2.fr f8_w (fun q y1 y2 => f4_w _ (by omega))⟩
        · rw [f5_w 0 (by omega)] at y
          exact ⟨(k0_w y).1.fr m6_w f8_w (fun q y => f4_w _ (by omega)), (k0_w y).2.fr f8_w (fun q y1 y2 => f4_w _ (by omega))⟩
      · by_cases ym : mn_w = 1
        · subst ym
          exact ⟨(k1_w yk).1.fr m6_w f8_w (fun q y => f4_w _ (by omega)), (k1_w yk).2.fr f8_w (fun q y1 y2 => f4_w _ (by omega))⟩
        · rw [f5_w 1 (by omega)] at y
          exact ⟨(k1_w y).1.fr m6_w f8_w (fun q y => f4_w _ (by omega)), (k1_w y).2.fr f8_w (fun q y1 y2 => f4_w _ (by omega))⟩
  exact (snd_43 n _ _ _ _ _ cc _ _ _ _ e).2 rfl
/-- at a grid's beginning -/
theorem rsu_begin (rf : RF D h) (bg : BGR D.2.2.2.2.1.length D.1.toNat h) : RSU h := by
  obtain ⟨sb_w, b4, -, b18, -, b50, b51⟩ := bg
  have w := rf.w
  have e3_w : h 188 3 = (nM D : Int) := rf.ix.1.2.2.1
  have e2_w : h 188 2 = (nU D : Int) := rf.ix.1.2.1
  have m6_w := w.cn.2.2.1
  refine ⟨⟨by omega, by omega⟩, fun q a b => ?_, ⟨by rw [Nat.zero_add]; omega, fun i hi_w => ?_⟩, fun i hi_w => absurd hi_w (by omega), fun y => absurd b50 y, fun y => absurd b51 y⟩
  · rw [e3_w] at b
    have hq : q < 78 + 12 * D.2.2.2.2.1.length := by
      have : nM D = D.2.2.2.2.1.length := rfl
      omega
    rw [sb_w q (by omega), if_neg (by omega), if_pos hq, e2_w]
    have hm_w : (q - 78) / 12 < nM D := by
      show (q - 78) / 12 < D.2.2.2.2.1.length
      omega
    obtain ⟨x, ex_w, hx⟩ := mt_x hm_w
    obtain ⟨-, ⟨s0, s1_w⟩, -⟩ := w.2.2.1 x hx
    obtain ⟨-, -, k3⟩ := rf.ix.2.2.2.2.2.2 _ x ex_w
    rw [k3]
    exact s1_w
  · rw [Nat.zero_add] at hi_w
    omega
end RSUS
end
section
/-! ===== calls keep_w what lasts beside Inv5 ===== -/
def RefU (h h1 : XH) : Prop := ∀ o k : Nat, 182 ≤ o → o ≤ 202 → h1 o k = h o k
/-- the class's lines, its rows of what was laid_w down_w, its marks_w -/
def CLW (h h1 : XH) : Prop := ∀ x q : Nat, (78 ≤ x ∧ x ≤ 84) ∨ (112 ≤ x ∧ x ≤ 153) ∨ (52 ≤ x ∧ x ≤ 60) → h1 x q = h x q
theorem u2_l52 : ∀ o k : Nat, 52 ≤ o → o ≤ 60 → aW u2_W o k = false := aW_out (by decide) (by decide)
section INVY
variable {xs : Nat → Int} {L K n : Nat} {c d : Nat} {h h' hX h1 h2 : XH} {D : DD} {I Y : XH → Prop}
theorem ext_2 {P : List Int → XH → Prop} {R : List Int → XH → XH → Prop} (z : ∃ (v1_w v2 : List Int) (h1 h2 : XH), P v1_w h1 ∧ R v2 h1 h2 ∧ I h2) (k : ∀ v1_w v2 h1 h2, P v1_w h1 → R v2 h1 h2 → Y h2) : ∃ (v1_w v2 : List Int) (h1 h2 : XH), P v1_w h1 ∧ R v2 h1 h2 ∧ I h2 ∧ Y h2 := by
  obtain ⟨v1_w, v2, h1, h2, a, b, e⟩ := z
  exact ⟨v1_w, v2, h1, h2, a, b, e, k v1_w v2 h1 h2 a b⟩
theorem RSU.u (y : RSU h) (u : RefU h h1) : RSU h1 := y.fr (fun k _ => u 188 k (by decide) (by decide)) (fun q _ => u 194 q (by decide) (by decide)) (u 182 18 (by decide) (by decide)) (u 195 0 (by decide) (by decide)) (u 195 1 (by decide) (by decide))
theorem ref_u (hK_w : 4294967300 ≤ K) {f : Nat} (hd_w : g_dp f < n) (hn : n < 99999) {vs v1_w : List Int} (hI : Inv5 h) (ha_w : VL (fun _ => 0) a_g3 ((g_T 0).2.1 f) vs) {g' : XS × Nat × Nat} {k : Nat} (e1_w : evF xs L g_ck K g_cW g_M n f vs ((a_g3, c, d), h) = some (k, v1_w, (g', h1))) : RefU h h1 := by
  obtain ⟨cc, r, g1, h', q1_w, -, q3_w, -⟩ := cls_lnk (xs := xs) (L := L) (c := c) (d := d) hK_w hd_w (by omega) hI.1.1.1 ha_w
  have t := q1_w.symm.trans e1_w
  cases t
  exact fun o k a _ => q3_w o k a
theorem RSU.q {r : Nat} {ws_w v : List Int} (y : RSU h) (hI : Inv5 h) (u : RefU h h1) (hf : r_n5 r = true) (hb_w : BKp xs L K n r ws_w) (e : evF xs L g_ck K g_cW g_M n r (182 :: ws_w) ((a_g3, c, d), h1) = some (1, v, ((a_g3, c, d), h2))) : RSU h2 := by
  obtain ⟨D, cd, rf, sm_w⟩ := hI.2
  simp only [r_n5, Bool.and_eq_true, Bool.not_eq_true'] at hf
  obtain ⟨⟨f4_w, f18⟩, f195⟩ := hf
  have f4' := f4_w
  simp only [r_n4, r_n3, r_nf, Bool.and_eq_true, Bool.not_eq_true'] at f4'
  have fin_w : m_in r = true := f4'.1.1.1.1.1.1.1.1.1.1
  obtain ⟨-, fr⟩ := fr_all n r (182 :: ws_w) _ _ _ _ _ _ fin_w rfl (Or.inr rfl) e
  obtain ⟨-, -, b5, b6, b7⟩ := ref_4 (g := (a_g3, c, d)) f4_w rfl e
  have uu : ∀ o, 182 ≤ o → o ≤ 202 → h1 o = h o := fun o a b => funext fun k => u o k a b
  have rf1 : RF D h1 := rf.fr (uu 188 (by decide) (by decide)) (uu 189 (by decide) (by decide)) (uu 190 (by decide) (by decide))
  have e1_w := uu 191 (by decide) (by decide)
  obtain ⟨l30, ln⟩ := lnb_of hI.1.1.2
  have bk : BKq h1 h2 := hb_w c d h1 h2 v D rf1 (by rw [e1_w]; exact l30) (fun n z => by rw [e1_w] at z ⊢; exact ln n z) e
  exact (y.u u).fr (fun k _ => congrFun b5 k) (fun q z => bk q z) (fr 182 18 (fun _ => f18) (fr_lo fin_w (by decide))) (fr 195 0 (fun y => absurd y (by decide)) f195) (fr 195 1 (fun y => absurd y (by decide)) f195)
theorem SM.z18 (sm_w : SM D h) (u : RefU h h1) : 0 ≤ h1 182 18 := by
  obtain ⟨w, -, -, wr_w⟩ := sm_w.pn
  rw [u 182 18 (by decide) (by decide), wr_w]
  omega
theorem rf_u (rf : RF D h) (u : RefU h h1) : RF D h1 := rf.fr (funext fun k => u 188 k (by decide) (by decide)) (funext fun k => u 189 k (by decide) (by decide)) (funext fun k => u 190 k (by decide) (by decide))
theorem s12_u (rf : RF D h) (u : RefU h h1) : h1 188 0 ≤ 12 := by
  have z := (sz_rf (rf_u rf u))
  omega
theorem y_265 {m p q : Int} {v : List Int} (hI : Inv5 h) (y : RSU h) (u : RefU h h1) (e : evF xs L g_ck K g_cW g_M n 265 [182, m, p, q] ((a_g3, c, d), h1) = some (1, v, ((a_g3, c, d), h2))) : RSU h2 := by
  obtain ⟨D, cd, rf, sm_w⟩ := hI.2
  exact rsu_265 (rf_u rf u) (y.u u) (sm_w.z18 u) e
theorem y_267 {m p q : Int} {v : List Int} (hI : Inv5 h) (y : RSU h) (u : RefU h h1) (e : evF xs L g_ck K g_cW g_M n 267 [182, m, p, q] ((a_g3, c, d), h1) = some (1, v, ((a_g3, c, d), h2))) : RSU h2 := by
  obtain ⟨D, cd, rf, sm_w⟩ := hI.2
  exact rsu_267 (s12_u rf u) (y.u u) (sm_w.z18 u) e
theorem y_268 {m p : Int} {v : List Int} (hI : Inv5 h) (y : RSU h) (u : RefU h h1) (e : evF xs L g_ck K g_cW g_M n 268 [182, m, p] ((a_g3, c, d), h1) = some (1, v, ((a_g3, c, d), h2))) : RSU h2 := by
  obtain ⟨D, cd, rf, sm_w⟩ := hI.2
  exact rsu_268 (s12_u rf u) (y.u u) (sm_w.z18 u) e
theorem y_271 {v : List Int} (hI : Inv5 h) (y : RSU h) (u : RefU h h1) (e : evF xs L g_ck K g_cW g_M n 271 [182] ((a_g3, c, d), h1) = some (1, v, ((a_g3, c, d), h2))) : RSU h2 := by
  obtain ⟨D, cd, rf, sm_w⟩ := hI.2
  obtain ⟨S, U, M, r, ⟨u1, u2_w, u3, u4_w, u5, u6, u7, u8, u9, u10⟩, -⟩ := ruh_of hI.1.1.2 rf
  have e8 : ∀ k : Nat, h1 188 k = h 188 k := fun k => u 188 k (by decide) (by decide)
  have e4_w : ∀ k : Nat, h1 194 k = h 194 k := fun k => u 194 k (by decide) (by decide)
  have ru : RUH S U M r h1 := ⟨(e8 0).trans u1, u2_w, (e8 2).trans u3, u4_w, (e8 3).trans u5, u6, fun m z => by
    obtain ⟨k, k4, ek⟩ := u7 m z
    exact ⟨k, k4, (e8 _).trans ek⟩, fun q z1 z2 => by
    obtain ⟨k, k4, ek⟩ := u8 q z1 z2
    exact ⟨k, k4, (e4_w _).trans ek⟩, (e4_w 162).trans u9, u10⟩
  exact rsu_271 ru (y.u u) (sm_w.z18 u) e
theorem y_272 {v : List Int} (hI : Inv5 h) (y : RSU h) (u : RefU h h1) (e : evF xs L g_ck K g_cW g_M n 272 [182] ((a_g3, c, d), h1) = some (1, v, ((a_g3, c, d), h2))) : RSU h2 := by
  obtain ⟨D, cd, rf, sm_w⟩ := hI.2
  exact rsu_272 (y.u u) (sm_w.z18 u) e
theorem y_304 {t q : Int} {b : Bool} {v : List Int} (hI : Inv5 h) (y : RSU h) (u : RefU h h1) (e : evF xs L g_ck K g_cW g_M n 304 [182, t, q, j_b b] ((a_g3, c, d), h1) = some (1, v, ((a_g3, c, d), h2))) : RSU h2 := by
  obtain ⟨D, cd, rf, sm_w⟩ := hI.2
  obtain ⟨w, -, -, w4_w, -⟩ := sm_w.2.2.2.1
  rw [Nat.zero_add] at w4_w
  exact rsu_304 jb_01 (y.u u) (by rw [u 194 404 (by decide) (by decide), w4_w]; omega) e
theorem y_311 {m : Int} {b : Bool} {v : List Int} (hI : Inv5 h) (y : RSU h) (u : RefU h h1) (e : evF xs L g_ck K g_cW g_M n 311 [182, m, j_b b] ((a_g3, c, d), h1) = some (1, v, ((a_g3, c, d), h2))) : RSU h2 := by
  obtain ⟨D, cd, rf, sm_w⟩ := hI.2
  obtain ⟨-, -, -, -, -, ⟨k0_w, -⟩, ⟨k1_w, -⟩⟩ := sm_w
  exact rsu_311 jb_01 (by rw [u 195 0 (by decide) (by decide)]; exact k0_w) (by rw [u 195 1 (by decide) (by decide)]; exact k1_w) (y.u u) e
/-- grid, work, feed -/
theorem y_206 {v1_w v : List Int} (hK2 : 20000000000 ≤ K) (hn : n + 41 < 99999) (hI : Inv5 h) (y : RSU h) (e1_w : evF xs L g_ck K g_cW g_M (n + 41) 2 [0] ((a_g3, c, d), h) = some (1, v1_w, ((a_g3, c, d), h1))) (e2_w : evF xs L g_ck K g_cW g_M (n + 41) 206 [182] ((a_g3, c, d), h1) = some (1, v, ((a_g3, c, d), h2))) : RSU h2 := by
  obtain ⟨hH, m0_w, m1_w, hm_w⟩ := hI.1.1.1
  obtain ⟨v', h1', q1_w, -, -, q4_w⟩ := grid_ok (xs := xs) (L := L) (K := K) (c := c) (d := d) (n := n + 40) (by omega) (by omega) hH
  have u : h1' = h1 := by
    have t := q1_w.symm.trans e1_w
    cases t
    rfl
  subst u
  have y1 : RSU h1' := y.u (fun o k a _ => q4_w o k a)
  have c206 : CS24 206 [182] h1' (fun k _ h' => k = 1 → RSU h') := by
    rw [cs24_206, kk_206s]
    refine ⟨(h 2 1).toNat, by rw [q4_w 182 2 (Nat.le_refl _), hm_w]; omega, by omega, fun r h' ⟨N, S, P, V, _, b⟩ _ => ?_⟩
    rcases b with ⟨f, _, _, _, kf, k4, _, k5, k18, _⟩ | ⟨D, _, _, rf, bg⟩
    · exact y1.fr (fun k z => kf.1 k (by omega)) (fun q _ => congrFun k4 q) k18 (congrFun k5 0) (congrFun k5 1)
    · exact rsu_begin rf bg
  exact (snd_24 (n + 41) _ _ _ _ _ c206 _ _ _ _ e2_w).2 rfl
theorem y_214 {v1_w v : List Int} (hK2 : 20000000000 ≤ K) (hn : n + 41 < 99999) (hI : Inv5 h) (y : RSU h) (e1_w : evF xs L g_ck K g_cW g_M (n + 41) 4 [0] ((a_g3, c, d), h) = some (1, v1_w, ((a_g3, c, d), h1))) (e2_w : evF xs L g_ck K g_cW g_M (n + 41) 214 [182] ((a_g3, c, d), h1) = some (1, v, ((a_g3, c, d), h2))) : RSU h2 := by
  obtain ⟨hH, m0_w, m1_w, hm_w⟩ := hI.1.1.1
  obtain ⟨v', h1', q1_w, -, -, q4_w⟩ := work_ok (xs := xs) (L := L) (K := K) (c := c) (d := d) (n := n + 40) (by omega) (by omega) hH
  have u : h1' = h1 := by
    have t := q1_w.symm.trans e1_w
    cases t
    rfl
  subst u
  obtain ⟨-, fr⟩ := fr_all (n + 41) 214 [182] _ _ _ _ _ _ (by decide) rfl (Or.inr rfl) e2_w
  exact (y.u (fun o k a _ => q4_w o k a)).fr (fun k _ => fr 188 k (fun z => absurd z (by decide)) (by decide)) (fun q _ => fr 194 q (fun z => absurd z (by decide)) (by decide)) (fr 182 18 (fun _ => by decide) (by decide)) (fr 195 0 (fun z => absurd z (by decide)) (by decide)) (fr 195 1 (fun z => absurd z (by decide)) (by decide))
theorem y_183 {a b e : Int} {v1_w v : List Int} (hK2 : 20000000000 ≤ K) (hI : Inv5 h) (y : RSU h) (e1_w : evF xs L g_ck K g_cW g_M (n + 41) 1 [0, a, b, e] ((a_g3, c, d), h) = some (1, v1_w, ((a_g3, c, d), h1))) (e2_w : evF xs L g_ck K g_cW g_M (n + 41) 183 [182, a, b, e] ((a_g3, c, d), h1) = some (1, v, ((a_g3, c, d), h2))) : RSU h2 := by
  obtain ⟨v', h1', h2', q1_w, q2_w, -, q4_w⟩ := feed_i4 (xs := xs) (L := L) (K := K) (n := n + 39) (c := c) (d := d) (a := a) (b := b) (e := e) (by omega) hI.four
  have u : h1' = h1 := by
    have t := q1_w.symm.trans e1_w
    cases t
    rfl
  subst u
  have u : h2' = h2 := by
    have t := q2_w.symm.trans e2_w
    cases t
    rfl
  subst u
  refine y.fr (fun k _ => q4_w 188 k (by decide) (by decide) (by decide) (by decide)) (fun q _ => q4_w 194 q (by decide) (by decide) (by decide) (by decide)) ?_ (q4_w 195 0 (by decide) (by decide) (by decide) (by decide)) (q4_w 195 1 (by decide) (by decide) (by decide) (by decide))
  obtain ⟨-, fr⟩ := fr_all (n + 41) 183 [182, a, b, e] _ _ _ _ _ _ (by decide) rfl (Or.inr rfl) e2_w
  rw [fr 182 18 (fun _ => rfl) rfl]
  obtain ⟨hH, m0_w, m1_w, hm_w⟩ := hI.1.1.1
  obtain ⟨x, w1_w, z1, w5⟩ := fqA (xs := xs) (L := L) (ck := g_ck) (cW := g_cW) (K := K) (n := n + 39) (a := a) (b := b) (c := e) (g := (a_g3, c, d)) (h := h) (by omega) fg_1 fg_2 fg_3 fg_4 (by decide) rfl ⟨m0_w, m1_w⟩
  have u1 : x = h1' := by
    have t := w1_w.symm.trans e1_w
    cases t
    rfl
  subst u1
  exact w5 (fun x => x 182 18 = h 182 18) (fun x m s p => by
    unfold upA
    split
    · have t2_w : (2 : Int).toNat = 2 := rfl
      have t3_w : (3 : Int).toNat = 3 := rfl
      rw [up_ne (fun z => by have := z.1; omega), up_ne (fun z => by have := z.1; omega)]
      exact p
    · exact p) rfl
/-- a question_w that may_w throw_w, not compared -/
theorem try_iy {q f r o ml_w : Nat} {pk_w rk : List Nat} {A : SX} {vs ws_w en : List Int} {p : List AVs × Option AVs} (hy : ∀ (c d : Nat) (h h1 h2 : XH) (v : List Int), Inv5 h → Y h → RefU h h1 → CLW h h1 → evF xs L g_ck K g_cW g_M (n + 41) r (182 :: ws_w) ((a_g3, c, d), h1) = some (1, v, ((a_g3, c, d), h2)) → Y h2) (ep : u2_T f = some p) (la : LsA p.1 vs) (hK2 : 20000000000 ≤ K) (hn : n + 41 < 99999) (hm_w : g_M q = (0, ml_w, pk_w, rk, sx 2 (sx 24 (sx 3 (sv o) z0 z0) A (sv f)) (sx 16 (sx 1 z0 (sv 1) z0) z0 z0) z0)) (hen : j_pad 0 ml_w (j_lay pk_w (vs ++ [203])) = en) (ho : en.getD o 0 = 203) (hA : ∀ st, evE xs L g_ck (evF xs L g_ck K g_cW g_M (n + 40)) g_cW A en st = some (vs, st)) (hd_w : g_dp f ≤ 30) (hR : (g_T 0).2.2.1 f = [1]) (ha_w : VL (fun _ => 0) a_g3 ((g_T 0).2.1 f) vs) (hr : r_dp r ≤ 30) (hf : r_n5 r = true) (hv : ∀ P, IL P (qP (r_T 0) r) (182 :: ws_w)) (hb_w : BKp xs L K (n + 41) r ws_w) :
    ∀ (c d : Nat) (h : XH), Inv5 h ∧ Y h → ∃ (v1_w v2 : List Int) (c' d' : Nat) (h1 h2 : XH), evF xs L g_ck K g_cW g_M (n + 41) q (vs ++ [203]) ((a_g3, c, d), h) = some (1, v1_w, ((a_g3, c', d'), h1)) ∧ evF xs L g_ck K g_cW g_M (n + 41) r (182 :: ws_w) ((a_g3, c', d'), h1) = some (1, v2, ((a_g3, c', d'), h2)) ∧ (Inv5 h2 ∧ Y h2) ∧ c' ≤ c + 1 ∧ d' ≤ d + 6 := fun c d h hIY => by
  have hI := hIY.1
  have f3_w : r_n3 r = true := by
    simp only [r_n5, r_n4, Bool.and_eq_true] at hf
    exact hf.1.1.1.1.1
  have f1_w : r_nf r = true := by
    simp only [r_n3, Bool.and_eq_true] at f3_w
    exact f3_w.1.1.1
  obtain ⟨v1_w, c', d', h1, e1_w, e2_w, e3_w, e4_w, e5_w⟩ := catch_g (xs := xs) (L := L) (K := K) (n := n + 40) (c := c) (d := d) (by omega) hm_w hen ho hA (by omega) (by omega) hR ha_w hI.1
  obtain ⟨v2, h2, g1, g2, -⟩ := ref_inv (xs := xs) (L := L) (c := c') (d := d') hK2 hn (by omega) f1_w hv e2_w.1
  obtain ⟨-, b1, b2, b3, b4⟩ := ref_3 (g := (a_g3, c', d')) f3_w rfl g1
  have w : ∃ hX, FrW u2_W h hX ∧ ∀ o k : Nat, o ≠ 203 → h1 o k = hX o k := by
    rcases e5_w with ⟨-, -, -, w, hX, -, q1_w, q2_w⟩ | ⟨-, r1_w, g3_w, hX, q1_w, q2_w⟩
    · exact ⟨hX, cls_u2 ep la q1_w, fun o k z => by rw [q2_w]; exact up_ne (fun y => z y.1)⟩
    · exact ⟨hX, cls_u2 ep la q1_w, fun o k z => by rw [q2_w]⟩
  obtain ⟨hX, w1_w, w2_w⟩ := w
  have u : RefU h h1 := fun o k a b => (w2_w o k (by omega)).trans (w1_w o k (u2_ref o k a (by omega)))
  have cw : CLW h h1 := fun x q a => (w2_w x q (by omega)).trans (w1_w x q (by
    rcases a with a | a | a
    · exact u2_l70 x q (by omega) (by omega)
    · exact u2_l112 x q (by omega) (by omega)
    · exact u2_l52 x q (by omega) (by omega)))
  exact ⟨[v1_w], v2, c', d', h1, h2, e1_w, g1, ⟨⟨e2_w.kp g2 b1 b2 b3 b4, hI.2.q hI.1.1.2 w1_w w2_w hf hb_w g1⟩, hy c' d' h h1 h2 v2 hI hIY.2 u cw g1⟩, e3_w, e4_w⟩
/-- a question_w that may_w throw_w, compared -/
theorem try_cy {X : XH → Prop} {q f r o ml_w : Nat} {pk_w rk : List Nat} {A : SX} {vs ws_w en : List Int} {p : List AVs × Option AVs} (hyx : ∀ h, Y h → X h) (hy : ∀ (c d : Nat) (h h1 h2 : XH) (v : List Int), Inv5 h → Y h → RefU h h1 → CLW h h1 → evF xs L g_ck K g_cW g_M (n + 41) r (182 :: ws_w) ((a_g3, c, d), h1) = some (1, v, ((a_g3, c, d), h2)) → Y h2) (ac : AskC X xs L K (n + 40) (n + 41) f r vs ws_w) (ep : u2_T f = some p) (la : LsA p.1 vs) (hK2 : 20000000000 ≤ K) (hn : n + 41 < 99999) (hm_w : g_M q = (0, ml_w, pk_w, rk, sx 2 (sx 24 (sx 3 (sv o) z0 z0) A (sv f)) (sx 16 (sx 1 z0 (sv 1) z0) z0 z0) z0)) (hen : j_pad 0 ml_w (j_lay pk_w (vs ++ [203])) = en) (ho : en.getD o 0 = 203) (hA : ∀ st, evE xs L g_ck (evF xs L g_ck K g_cW g_M (n + 40)) g_cW A en st = some (vs, st)) (hd_w : g_dp f ≤ 30) (hR : (g_T 0).2.2.1 f = [1]) (ha_w : VL (fun _ => 0) a_g3 ((g_T 0).2.1 f) vs) (hr : r_dp r ≤ 30) (hf : r_n5 r = true) (h203 : (m_W r).2.contains 203 = false) (hv : ∀ P, IL P (qP (r_T 0) r) (182 :: ws_w)) (hb_w : BKp xs L K (n + 41) r ws_w) :
    ∀ (c d : Nat) (h : XH), Inv5 h ∧ Y h → ∃ (v1_w : Int) (v2 : List Int) (c' d' : Nat) (h1 h2 : XH), evF xs L g_ck K g_cW g_M (n + 41) q (vs ++ [203]) ((a_g3, c, d), h) = some (1, [v1_w], ((a_g3, c', d'), h1)) ∧ evF xs L g_ck K g_cW g_M (n + 41) r (182 :: ws_w) ((a_g3, c', d'), h1) = some (1, v2, ((a_g3, c', d'), h2)) ∧ h2 182 0 = v1_w ∧ (v1_w = 0 ∧ [h2 203 0] = v2 ∨ v1_w = 1) ∧ (Inv5 h2 ∧ Y h2) ∧ c' ≤ c + 1 ∧ d' ≤ d + 6 := fun c d h hIY => by
  obtain ⟨w1_w, w2_w, c1_w, d1_w, g1, g2, a1_w, a2, a3, a4, a5, a6, a7⟩ := try_c5 (X := X) ac ep la hK2 hn hm_w hen ho hA hd_w hR ha_w hr hf h203 hv hb_w c d h hIY.1 (hyx h hIY.2)
  obtain ⟨v1_w, v2, c', d', h1, h2, e1_w, e2_w, e3_w, e4_w, e5_w⟩ := try_iy (Y := Y) hy ep la hK2 hn hm_w hen ho hA hd_w hR ha_w hr hf hv hb_w c d h hIY
  have t := a1_w.symm.trans e1_w
  cases t
  have t := a2.symm.trans e2_w
  cases t
  exact ⟨w1_w, w2_w, c1_w, d1_w, g1, g2, a1_w, a2, a3, a4, e3_w, a6, a7⟩
end INVY
def Inv6 (h : XH) : Prop := Inv5 h ∧ RSU h
theorem inv6_i0 : Inv6 i0 := by
  have a1_w : i0 188 3 = 0 := by decide +kernel
  have a7 : i0 194 404 = 0 := by decide +kernel
  have a8 : i0 182 18 = 0 := by decide +kernel
  have a9 : i0 195 0 = 0 := by decide +kernel
  have a10 : i0 195 1 = 0 := by decide +kernel
  have a7' : i0 194 (0 + 404) = 0 := a7
  exact ⟨inv5_i0, ⟨by omega, by omega⟩, fun q a b => by omega, ⟨by omega, fun i z => by omega⟩, fun i z => by omega, fun z => absurd a9 z, fun z => absurd a10 z⟩
end
section
/-! ===== contracts: what is_w left of a slot_w when all shares are out, all shares (written_w by wip/new_w/gen_t0.py) ===== -/
def prfA (D : DD) (a : Nat → Int) (s : Nat) : Int := a (150 + s) - sumN (netA D a s) (nM D)
/-- whom meters are with is_w told_w -/
def SUPA (D : DD) (a : Nat → Int) : Prop := ∀ m s : Nat, m < nM D → s < 12 → a (78 + (12 * m + s)) < (nU D : Int)
def vPrf (D : DD) (a : Nat → Int) : List Int → Int
  | [s] => prfA D a s.toNat
  | _ => 0
def okPr (D : DD) : List Int → Prop
  | [s] => 0 ≤ s ∧ s < D.1
  | _ => False
section PRF
variable {D : DD} {a b : Nat → Int} {s m u n : Nat}
theorem sumN_pick {k : Nat} {v : Int} : ∀ n, sumN (fun u => if (k : Int) = ((u : Nat) : Int) then v else 0) n = if k < n then v else 0
  | 0 => rfl
  | n + 1 => by
    rw [sumN, sumN_pick n]
    by_cases y : k < n
    · rw [if_pos y, if_neg (show ¬ (k : Int) = (n : Int) by omega), if_pos (show k < n + 1 by omega)]
      exact Int.add_zero v
    · by_cases z : k = n
      · subst z
        rw [if_neg y, if_pos rfl, if_pos (Nat.lt_succ_self k)]
        exact Int.zero_add v
      · rw [if_neg y, if_neg (show ¬ (k : Int) = (n : Int) by omega), if_neg (show ¬ k < n + 1 by omega)]
        rfl
/-- each_w is_w with one of them -/
theorem sup_sum (w : WFD D) (ra : RGA D a) (sp_w : SUPA D a) (hs : s < nS D) : sumN (fun u => shrA D a s u) (nU D) = sumN (netA D a s) (nM D) := by
  obtain ⟨c4, u4_w, m6_w, s12, eD⟩ := w.cn
  have e : sumN (fun u => shrA D a s u) (nU D) = sumN (fun u => sumN (fun m => if a (78 + (12 * m + s)) = ((u : Nat) : Int) then netA D a s m else 0) (nM D)) (nU D) := rfl
  rw [e, sumN_swap (fun u m => if a (78 + (12 * m + s)) = ((u : Nat) : Int) then netA D a s m else 0) (nU D) (nM D)]
  refine sumN_cg _ (fun m hm_w => ?_)
  obtain ⟨k0_w, k3⟩ := ra.2.1 (78 + (12 * m + s)) (by omega) (by omega)
  have kU_w := sp_w m s hm_w (by omega)
  obtain ⟨k, ek⟩ : ∃ k : Nat, a (78 + (12 * m + s)) = (k : Int) := ⟨(a (78 + (12 * m + s))).toNat, by omega⟩
  show sumN (fun u => if a (78 + (12 * m + s)) = ((u : Nat) : Int) then netA D a s m else 0) (nU D) = netA D a s m
  rw [ek, sumN_pick]
  exact if_pos (by omega)
theorem nets_b (w : WFD D) (ra : RGA D a) (hs : s < nS D) (hn : n ≤ nM D) : -5400000 ≤ sumN (netA D a s) n ∧ sumN (netA D a s) n ≤ 5400000 := by
  have m6_w := w.cn.2.2.1
  have B := sumN_b (f := netA D a s) (B := 900000) n (fun k hk => netA_b w ra hs (by omega))
  omega
theorem prfA_cg (w : WFD D) (e : EqD D a b) (hs : s < nS D) : prfA D a s = prfA D b s := by
  unfold prfA
  rw [e (150 + s) (Or.inr (Or.inr (Or.inl ⟨by omega, by omega⟩))), sumN_cg (f := netA D a s) (g := netA D b s) _ (fun m hm_w => netA_cg w e hm_w hs)]
theorem SUPA.cg (w : WFD D) (e : EqD D a b) (p : SUPA D b) : SUPA D a := fun m s hm_w hs => by
  have m6_w := w.cn.2.2.1
  rw [e _ (Or.inr (Or.inl ⟨by omega, by omega⟩))]
  exact p m s hm_w hs
theorem supa_of {h : XH} (r : RSU h) (rf : RF D h) : SUPA D (bl 0 h) := fun m s hm_w hs => by
  have e3_w : h 188 3 = (nM D : Int) := rf.ix.1.2.2.1
  have e2_w : h 188 2 = (nU D : Int) := rf.ix.1.2.1
  have t := r.2.1 (78 + (12 * m + s)) (by omega) (by omega)
  rw [e2_w] at t
  exact t
end PRF
/-- questions that want more_w of what lies there_w -/
def kCP (P : DD → (Nat → Int) → Prop) (ok : DD → List Int → Prop) (v : DD → (Nat → Int) → List Int → Int) : KT := fun av h Q => av.head? = some 0 ∧ ∃ D : DD, SETP D h ∧ P D (cl 70 h) ∧ (¬ ok D av.tail → ∀ h', Q 4 [] h') ∧ (ok D av.tail → ∀ h', Q 1 [v D (cl 70 h) av.tail] h')
def kRP (P : DD → (Nat → Int) → Prop) (ok : DD → List Int → Prop) (v : DD → (Nat → Int) → List Int → Int) : KT := fun av h Q => av.head? = some 182 ∧ ∃ D : DD, RSET D h ∧ P D (bl 0 h) ∧ (¬ ok D av.tail → ∀ h', h' 182 0 = 1 → Q 1 [0] h') ∧ (ok D av.tail → ∀ h', h' 182 0 = 0 → Q 1 [v D (bl 0 h) av.tail] h')
def k178 : KT := fun av h Q => match av with
  | [o, p, l, s] => o = 157 ∧ p = 6 ∧ ∃ (D : DD) (b sn : Nat), isLb b ∧ l = (b : Int) ∧ WFD D ∧ CDw 6 D h ∧ (0 < nC D → LWC D h) ∧ s = (sn : Int) ∧ sn < nS D ∧ RGA D (cl b h) ∧ SUPA D (cl b h) ∧ ∀ h', (∀ x k : Nat, ¬ stO x → ¬ (x = 157 ∧ k = 10) → h' x k = h x k) → Q 1 [prfA D (cl b h) sn] h'
  | _ => False
def k285c : KT := fun av h Q => match av with
  | [t, b, s] => t = 182 ∧ ∃ (D : DD) (bn sn : Nat), WFD D ∧ RF D h ∧ LWR D h ∧ b = (bn : Int) ∧ bn ≤ 4719 ∧ s = (sn : Int) ∧ sn < nS D ∧ RGA D (bl bn h) ∧ ∀ h', (∀ x k : Nat, ¬ wkW x → ¬ (x = 182 ∧ k = 25) → h' x k = h x k) → Q 1 [prfA D (bl bn h) sn] h'
  | _ => False
def k24u : KT := fun av h Q => match av with
  | [o, s] => kCP SUPA okPr vPrf [o, s] h Q
  | _ => False
def k286 : KT := fun av h Q => match av with
  | [o, s] => kRP SUPA okPr vPrf [o, s] h Q
  | _ => False
section KKT0
variable {h h' h1 h2 : XH} {Q : Nat → List Int → XH → Prop} {t b s l : Int} {D : DD}
theorem kk_178 : k178 [157, 6, l, s] h Q = ∃ (D : DD) (b sn : Nat), isLb b ∧ l = (b : Int) ∧ WFD D ∧ CDw 6 D h ∧ (0 < nC D → LWC D h) ∧ s = (sn : Int) ∧ sn < nS D ∧ RGA D (cl b h) ∧ SUPA D (cl b h) ∧ ∀ h', (∀ x k : Nat, ¬ stO x → ¬ (x = 157 ∧ k = 10) → h' x k = h x k) → Q 1 [prfA D (cl b h) sn] h' := propext ⟨fun a => a.2.2, fun a => ⟨rfl, rfl, a⟩⟩
theorem kk_285c : k285c [182, b, s] h Q = ∃ (D : DD) (bn sn : Nat), WFD D ∧ RF D h ∧ LWR D h ∧ b = (bn : Int) ∧ bn ≤ 4719 ∧ s = (sn : Int) ∧ sn < nS D ∧ RGA D (bl bn h) ∧ ∀ h', (∀ x k : Nat, ¬ wkW x → ¬ (x = 182 ∧ k = 25) → h' x k = h x k) → Q 1 [prfA D (bl bn h) sn] h' := propext ⟨fun a => a.2, fun a => ⟨rfl, a⟩⟩
theorem kk_24u : k24u [t, s] h Q = kCP SUPA okPr vPrf [t, s] h Q := id rfl
theorem kk_286 : k286 [t, s] h Q = kRP SUPA okPr vPrf [t, s] h Q := id rfl
end KKT0
def CS77 : CSt := fun f => match f with
  | 178 => k178
  | 285 => k285c
  | _ => CS76 f
theorem cs77_54 {av : List Int} {h : XH} {Q : Nat → List Int → XH → Prop} : CS77 54 av h Q = k54 av h Q := id rfl
theorem cs77_228 {av : List Int} {h : XH} {Q : Nat → List Int → XH → Prop} : CS77 228 av h Q = k228 av h Q := id rfl
theorem cs77_172 {av : List Int} {h : XH} {Q : Nat → List Int → XH → Prop} : CS77 172 av h Q = k172 av h Q := id rfl
theorem cs77_254 {av : List Int} {h : XH} {Q : Nat → List Int → XH → Prop} : CS77 254 av h Q = k254 av h Q := id rfl
theorem cs77_178 {av : List Int} {h : XH} {Q : Nat → List Int → XH → Prop} : CS77 178 av h Q = k178 av h Q := id rfl
theorem cs77_285 {av : List Int} {h : XH} {Q : Nat → List Int → XH → Prop} : CS77 285 av h Q = k285c av h Q := id rfl
theorem m_178 : BodyOK CS77 CS77 178 := fun av h Q hQ => by
  rw [cs77_178] at hQ
  unfold k178 at hQ
  split at hQ
  · rename_i o p l s
    obtain ⟨rfl, rfl, D, b, sn, hb_w, rfl, w, cd, lw, rfl, hs, ra, sp_w, hQ⟩ := hQ
    obtain ⟨c4, u4_w, m6_w, s12, eD⟩ := w.cn
    have z11 : h 6 11 = (nU D : Int) := cd.1.1.2.1
    have eP : prfA D (cl b h) sn = cl b h (150 + sn) - sumN (fun u => shrA D (cl b h) sn u) (nU D) := by
      rw [sup_sum w ra sp_w hs]
      rfl
    rw [eP] at hQ
    have nst : ∀ p, p < 28 ∨ (29 ≤ p ∧ p ≤ 158) ∨ 178 ≤ p → ¬ stO p := fun p a z => by
      unfold stO smW at z
      omega
    have hb' : isLb b := hb_w
    rcases hb_w with rfl | rfl
    · show pS CS77 bb_178 [157, 6, 70, (sn : Int), 0, 0] h _
      unfold bb_178
      simp only [qe_1, qe_3, qe_4, qe_5, qe_7, qe_72, qe_10, qe_102, qe_13, qe_14, qe_15, qe_16, qe_17, qe_18, qe_20, qe_22, qe_23, qe_21, qe_24, qe_25, qe_26, qe_27, qe_28, qe_30, qe_31, qe_32, qc_20, qc_22, qc_23, qc_21, qc_24, qc_25, qc_26, qc_27, qc_1, qc_3, qc_4, qc_7, qc_13, qc_28, qc_32, qs_1, qs_2, qs_3, qs_4, qs_5, qs_6, qs_9, qs_10, qs_11, qs_14, qs_15, qs_16, qs_27, qs_17, qs_18, qs_19, qs_20, qs_22, qs_23, qs_28, qs_25, qs_26, qs_7, qs_8, kc_1, kn_1, kc_2, kn_2, kc_3, kn_3, kc_4, kn_4, kc_5, kn_5, kc_6, kn_6, kc_7, kn_7, kc_8, kn_8, kc_9, kn_9, kc_10, kn_10, kc_11, kn_11, kc_12, kn_12, kc_13, kn_13, kc_14, kn_14, kc_15, kn_15, kc_16, kc_17, kc_18, kc_19, kc_20, kc_21, kc_22, kc_23, kc_30, kc_32, kc_40, kc_43, kc_45, kc_48, kc_52, kc_56, kc_57, kc_59, kc_60, kc_61, kc_63, kc_64, kc_72, kc_78, kc_97, kc_99, kc_122, kc_126, kc_128, kc_192, kc_200, kc_255, kc_999, kc_1000, kc_9999, kn_9999, kc_10000, kc_12345, kc_65536, kc_252645135, kc_858993459, kc_1103515245, kc_1431655765, kc_2147483647, kc_0, kc_24, kc_28, kc_37, kc_41, kc_42, kc_73, kc_91, kc_95, kc_96, kc_98, kc_100, kc_112, kc_125, kc_150, kc_162, kc_163, kc_168, kc_186, kc_190, kc_250, kc_355, kc_356, kc_404, kc_405, kc_429, kc_573, kc_1002, kc_1100, kc_1891, kc_2200, kc_4719, kc_4869, kc_4881, kc_5148, kc_19741, kc_25433, kc_320403, kc_628412, kc_629093, kc_660401, kc_679843, kc_918640, kc_979410, kc_1178088, kc_6232410, kc_24644941, kc_36238189, kc_38270444, kc_392531318, kc_425693491, kc_1342154595, kc_2147483648, kc_42328242873, kc_891704255789, kc_1722105685577, kc_1858726030364, ct_0, ct_1, ct_2, ct_3, ct_4, ct_5, cf_0, cf_1, cf_2, cf_3, cf_4, cf_5, w_ty6, w_ty7, m_sv, m_z0, m_hd, m_g0, m_gs, m_s0, m_ss, m_ap, m_an, forall_const, true_and, and_true, ne_eq, not_true_eq_false, not_false_eq_true, false_implies, true_implies, implies_true, eq_self, reduceCtorEq, Nat.reduceDiv, Nat.reduceMod, Int.reduceToNat, or_true, true_or, or_false, false_or, or_self, m_it, m_if, m_c1, m_01, m_02, m_03, m_04, m_10, m_12, m_13, m_14, m_20, m_21, m_23, m_24, m_30, m_31, m_32, m_34, m_40, m_41, m_42, m_43, Int.reduceLE, Int.reduceLT, Int.reduceGE, Int.reduceGT, Int.reduceNeg, Int.reduceAdd, Int.reduceSub, Int.reduceMul, Int.reduceEq, Int.reduceNe, Nat.reduceAdd, jun2, ro_0_0, ro_0_1, ro_0_2, ro_0_3, ro_0_4, ro_0_5, ro_0_6, ro_0_7, ro_0_8, ro_0_9, ro_0_10, ro_0_11, ro_0_12, ro_1_0, ro_1_1, ro_2_0, ro_4_0, ro_6_0, ro_6_1, ro_6_2, ro_6_3, ro_6_4, ro_6_5, ro_6_6, ro_6_7, ro_6_8, ro_8_0, ro_10_0, ro_12_0, ro_14_0, ro_16_0, ro_18_0, ro_20_0, ro_22_0, ro_22_1, ro_22_2, ro_23_0, ro_25_0, ro_27_0, ro_29_0, ro_29_1, ro_29_2, ro_29_3, ro_29_4, ro_29_5, ro_29_6, ro_29_7, ro_29_8, ro_31_0, ro_33_0, ro_35_0, ro_37_0, ro_39_0, ro_41_0, ro_43_0, ro_45_0, ro_45_1, ro_45_2, ro_46_0, ro_48_0, ro_50_0, ro_52_0, ro_52_1, ro_52_2, ro_52_3, ro_53_0, ro_55_0, ro_57_0, ro_59_0, ro_61_0, ro_61_1, ro_61_2, ro_61_3, ro_62_0, ro_64_0, ro_66_0, ro_68_0, ro_70_0, ro_70_1, ro_70_2, ro_70_3, ro_70_4, ro_70_5, ro_70_6, ro_70_7, ro_70_8, ro_70_9, ro_71_0, ro_73_0, ro_75_0, ro_77_0, ro_79_0, ro_81_0, ro_83_0, ro_85_0, ro_87_0, ro_89_0, ro_91_0, ro_91_1, ro_91_2, ro_91_3, ro_91_4, ro_91_5, ro_91_6, ro_91_7, ro_91_8, ro_91_9, ro_92_0, ro_94_0, ro_96_0, ro_98_0, ro_100_0, ro_102_0, ro_104_0, ro_106_0, ro_108_0, ro_110_0, ro_112_0, ro_112_1, ro_112_2, ro_112_3, ro_112_4, ro_112_5, ro_112_6, ro_112_7, ro_112_8, ro_112_9, ro_113_0, ro_115_0, ro_117_0, ro_119_0, ro_121_0, ro_123_0, ro_125_0, ro_127_0, ro_129_0, ro_131_0, ro_133_0, ro_133_1, ro_133_2, ro_133_3, ro_133_4, ro_133_5, ro_133_6, ro_133_7, ro_133_8, ro_133_9, ro_134_0, ro_136_0, ro_138_0, ro_140_0, ro_142_0, ro_144_0, ro_146_0, ro_148_0, ro_150_0, ro_152_0, ro_154_0, ro_155_0, ro_157_0, ro_157_1, ro_157_2, ro_157_3, ro_157_4, ro_157_5, ro_157_6, ro_157_7, ro_157_8, ro_157_9, ro_158_0, ro_160_0, ro_162_0, ro_164_0, ro_166_0, ro_168_0, ro_170_0, ro_172_0, ro_174_0, ro_176_0, ro_178_0, ro_180_0, ro_182_1, ro_182_4, ro_182_5, ro_182_6, ro_182_9, ro_182_10, ro_182_11, ro_182_13, ro_182_14, ro_182_15, ro_182_16, ro_182_17, ro_182_20, ro_182_21, ro_182_22, ro_182_23, ro_182_24, ro_182_26, ro_182_27, ro_182_28, lo_3, lo_5, lo_7, lo_9, lo_11, lo_13, lo_15, lo_17, lo_19, lo_21, lo_24, lo_26, lo_28, lo_30, lo_32, lo_34, lo_36, lo_38, lo_40, lo_42, lo_44, lo_47, lo_49, lo_51, lo_54, lo_56, lo_58, lo_60, lo_63, lo_65, lo_67, lo_69, lo_72, lo_74, lo_76, lo_78, lo_80, lo_82, lo_84, lo_86, lo_88, lo_90, lo_93, lo_95, lo_97, lo_99, lo_101, lo_103, lo_105, lo_107, lo_109, lo_111, lo_114, lo_116, lo_118, lo_120, lo_122, lo_124, lo_126, lo_128, lo_130, lo_132, lo_135, lo_137, lo_139, lo_141, lo_143, lo_145, lo_147, lo_149, lo_151, lo_153, lo_156, lo_159, lo_161, lo_163, lo_165, lo_167, lo_169, lo_171, lo_173, lo_175, lo_177, lo_179, lo_181, lo_183, lo_184, lo_185, lo_186, lo_187, lo_188, lo_189, lo_190, lo_191, lo_192, lo_193, lo_194, lo_195, lo_196, lo_197, lo_198, lo_199, lo_200, lo_201, lo_202, lo_203, jp_nn, jp_eq, jp_e1, Classical.not_not, ji0, ji1, ji2, cs77_54, kk_54, cs77_172, kk_172, jl_0, jl_1, jl_2, jl_3, jl_4, jl_5, jl_6, jl_7, jl_8, jl_9, jl_10, jl_11, jl_12, jl_13, jl_14, jl_15, jl_16, jl_17, jl_18, jl_19, jl_20, jl_21, jl_22, jl_23, jl_24, jl_25, jl_26, jl_27, jl_28, jl_29, jl_30, jl_31, jl_32, jl_33, jl_34, jl_35, jl_36, jl_37, jl_38, jl_39, jl_40, jl_95, jl_96, jl_97, jl_98, jl_99, jl_100, jl_101, jl_102, jl_103, jl_104, jl_105, jl_106, jl_107, jl_108, jl_109, jl_110, jl_111, jl_112, jl_113, jl_114, jl_186, jl_1100, jr, ju, jpT, jpF, tnc, Nat.reduceEqDiff, reduceIte, and_false, false_and, not_true_eq_false, not_false_eq_true, or_false, gt_iff_lt, ge_iff_le, Int.lt_irrefl, Int.le_refl]
      refine ⟨D, 70, sn, hb', rfl, w, cd, lw, rfl, hs, ra, fun h1 f1_w g1 => ?_⟩
      have q6_w : ∀ p, p < 28 ∨ (29 ≤ p ∧ p ≤ 156) → ∀ k, h1 p k = h p k := fun p a k => f1_w p k (nst p (by omega)) (by omega)
      have f0_w : rg h1 75 (sn : Int) = cl 70 h (150 + sn) := (rg_in (o := 75) (c := 76) (n := 12) ro_75_0 lo_76 (by omega)).trans ((q6_w 76 (Or.inr ⟨by decide, by decide⟩) sn).trans ((cl_fe (h := h) (b := 70) (q := 150 + sn) (by omega) (by omega)).trans (congrArg (h 76) (by omega))).symm)
      have eU : h1 6 11 = (nU D : Int) := (q6_w 6 (Or.inl (by decide)) 11).trans z11
      obtain ⟨-, -, -, g4⟩ := g1
      simp only [qe_1, qe_3, qe_4, qe_5, qe_7, qe_72, qe_10, qe_102, qe_13, qe_14, qe_15, qe_16, qe_17, qe_18, qe_20, qe_22, qe_23, qe_21, qe_24, qe_25, qe_26, qe_27, qe_28, qe_30, qe_31, qe_32, qc_20, qc_22, qc_23, qc_21, qc_24, qc_25, qc_26, qc_27, qc_1, qc_3, qc_4, qc_7, qc_13, qc_28, qc_32, qs_1, qs_2, qs_3, qs_4, qs_5, qs_6, qs_9, qs_10, qs_11, qs_14, qs_15, qs_16, qs_27, qs_17, qs_18, qs_19, qs_20, qs_22, qs_23, qs_28, qs_25, qs_26, qs_7, qs_8, kc_1, kn_1, kc_2, kn_2, kc_3, kn_3, kc_4, kn_4, kc_5, kn_5, kc_6, kn_6, kc_7, kn_7, kc_8, kn_8, kc_9, kn_9, kc_10, kn_10, kc_11, kn_11, kc_12, kn_12, kc_13, kn_13, kc_14, kn_14, kc_15, kn_15, kc_16, kc_17, kc_18, kc_19, kc_20, kc_21, kc_22, kc_23, kc_30, kc_32, kc_40, kc_43, kc_45, kc_48, kc_52, kc_56, kc_57, kc_59, kc_60, kc_61, kc_63, kc_64, kc_72, kc_78, kc_97, kc_99, kc_122, kc_126, kc_128, kc_192, kc_200, kc_255, kc_999, kc_1000, kc_9999, kn_9999, kc_10000, kc_12345, kc_65536, kc_252645135, kc_858993459, kc_1103515245, kc_1431655765, kc_2147483647, kc_0, kc_24, kc_28, kc_37, kc_41, kc_42, kc_73, kc_91, kc_95, kc_96, kc_98, kc_100, kc_112, kc_125, kc_150, kc_162, kc_163, kc_168, kc_186, kc_190, kc_250, kc_355, kc_356, kc_404, kc_405, kc_429, kc_573, kc_1002, kc_1100, kc_1891, kc_2200, kc_4719, kc_4869, kc_4881, kc_5148, kc_19741, kc_25433, kc_320403, kc_628412, kc_629093, kc_660401, kc_679843, kc_918640, kc_979410, kc_1178088, kc_6232410, kc_24644941, kc_36238189, kc_38270444, kc_392531318, kc_425693491, kc_1342154595, kc_2147483648, kc_42328242873, kc_891704255789, kc_1722105685577, kc_1858726030364, ct_0, ct_1, ct_2, ct_3, ct_4, ct_5, cf_0, cf_1, cf_2, cf_3, cf_4, cf_5, w_ty6, w_ty7, m_sv, m_z0, m_hd, m_g0, m_gs, m_s0, m_ss, m_ap, m_an, forall_const, true_and, and_true, ne_eq, not_true_eq_false, not_false_eq_true, false_implies, true_implies, implies_true, eq_self, reduceCtorEq, Nat.reduceDiv, Nat.reduceMod, Int.reduceToNat, or_true, true_or, or_false, false_or, or_self, m_it, m_if, m_c1, m_01, m_02, m_03, m_04, m_10, m_12, m_13, m_14, m_20, m_21, m_23, m_24, m_30, m_31, m_32, m_34, m_40, m_41, m_42, m_43, Int.reduceLE, Int.reduceLT, Int.reduceGE, Int.reduceGT, Int.reduceNeg, Int.reduceAdd, Int.reduceSub, Int.reduceMul, Int.reduceEq, Int.reduceNe, Nat.reduceAdd, jun2, ro_0_0, ro_0_1, ro_0_2, ro_0_3, ro_0_4, ro_0_5, ro_0_6, ro_0_7, ro_0_8, ro_0_9, ro_0_10, ro_0_11, ro_0_12, ro_1_0, ro_1_1, ro_2_0, ro_4_0, ro_6_0, ro_6_1, ro_6_2, ro_6_3, ro_6_4, ro_6_5, ro_6_6, ro_6_7, ro_6_8, ro_8_0, ro_10_0, ro_12_0, ro_14_0, ro_16_0, ro_18_0, ro_20_0, ro_22_0, ro_22_1, ro_22_2, ro_23_0, ro_25_0, ro_27_0, ro_29_0, ro_29_1, ro_29_2, ro_29_3, ro_29_4, ro_29_5, ro_29_6, ro_29_7, ro_29_8, ro_31_0, ro_33_0, ro_35_0, ro_37_0, ro_39_0, ro_41_0, ro_43_0, ro_45_0, ro_45_1, ro_45_2, ro_46_0, ro_48_0, ro_50_0, ro_52_0, ro_52_1, ro_52_2, ro_52_3, ro_53_0, ro_55_0, ro_57_0, ro_59_0, ro_61_0, ro_61_1, ro_61_2, ro_61_3, ro_62_0, ro_64_0, ro_66_0, ro_68_0, ro_70_0, ro_70_1, ro_70_2, ro_70_3, ro_70_4, ro_70_5, ro_70_6, ro_70_7, ro_70_8, ro_70_9, ro_71_0, ro_73_0, ro_75_0, ro_77_0, ro_79_0, ro_81_0, ro_83_0, ro_85_0, ro_87_0, ro_89_0, ro_91_0, ro_91_1, ro_91_2, ro_91_3, ro_91_4, ro_91_5, ro_91_6, ro_91_7, ro_91_8, ro_91_9, ro_92_0, ro_94_0, ro_96_0, ro_98_0, ro_100_0, ro_102_0, ro_104_0, ro_106_0, ro_108_0, ro_110_0, ro_112_0, ro_112_1, ro_112_2, ro_112_3, ro_112_4, ro_112_5, ro_112_6, ro_112_7, ro_112_8, ro_112_9, ro_113_0, ro_115_0, ro_117_0, ro_119_0, ro_121_0, ro_123_0, ro_125_0, ro_127_0, ro_129_0, ro_131_0, ro_133_0, ro_133_1, ro_133_2, ro_133_3, ro_133_4, ro_133_5, ro_133_6, ro_133_7, ro_133_8, ro_133_9, ro_134_0, ro_136_0, ro_138_0, ro_140_0, ro_142_0, ro_144_0, ro_146_0, ro_148_0, ro_150_0, ro_152_0, ro_154_0, ro_155_0, ro_157_0, ro_157_1, ro_157_2, ro_157_3, ro_157_4, ro_157_5, ro_157_6, ro_157_7, ro_157_8, ro_157_9, ro_158_0, ro_160_0, ro_162_0, ro_164_0, ro_166_0, ro_168_0, ro_170_0, ro_172_0, ro_174_0, ro_176_0, ro_178_0, ro_180_0, ro_182_1, ro_182_4, ro_182_5, ro_182_6, ro_182_9, ro_182_10, ro_182_11, ro_182_13, ro_182_14, ro_182_15, ro_182_16, ro_182_17, ro_182_20, ro_182_21, ro_182_22, ro_182_23, ro_182_24, ro_182_26, ro_182_27, ro_182_28, lo_3, lo_5, lo_7, lo_9, lo_11, lo_13, lo_15, lo_17, lo_19, lo_21, lo_24, lo_26, lo_28, lo_30, lo_32, lo_34, lo_36, lo_38, lo_40, lo_42, lo_44, lo_47, lo_49, lo_51, lo_54, lo_56, lo_58, lo_60, lo_63, lo_65, lo_67, lo_69, lo_72, lo_74, lo_76, lo_78, lo_80, lo_82, lo_84, lo_86, lo_88, lo_90, lo_93, lo_95, lo_97, lo_99, lo_101, lo_103, lo_105, lo_107, lo_109, lo_111, lo_114, lo_116, lo_118, lo_120, lo_122, lo_124, lo_126, lo_128, lo_130, lo_132, lo_135, lo_137, lo_139, lo_141, lo_143, lo_145, lo_147, lo_149, lo_151, lo_153, lo_156, lo_159, lo_161, lo_163, lo_165, lo_167, lo_169, lo_171, lo_173, lo_175, lo_177, lo_179, lo_181, lo_183, lo_184, lo_185, lo_186, lo_187, lo_188, lo_189, lo_190, lo_191, lo_192, lo_193, lo_194, lo_195, lo_196, lo_197, lo_198, lo_199, lo_200, lo_201, lo_202, lo_203, jp_nn, jp_eq, jp_e1, Classical.not_not, ji0, ji1, ji2, cs77_54, kk_54, cs77_172, kk_172, jl_0, jl_1, jl_2, jl_3, jl_4, jl_5, jl_6, jl_7, jl_8, jl_9, jl_10, jl_11, jl_12, jl_13, jl_14, jl_15, jl_16, jl_17, jl_18, jl_19, jl_20, jl_21, jl_22, jl_23, jl_24, jl_25, jl_26, jl_27, jl_28, jl_29, jl_30, jl_31, jl_32, jl_33, jl_34, jl_35, jl_36, jl_37, jl_38, jl_39, jl_40, jl_95, jl_96, jl_97, jl_98, jl_99, jl_100, jl_101, jl_102, jl_103, jl_104, jl_105, jl_106, jl_107, jl_108, jl_109, jl_110, jl_111, jl_112, jl_113, jl_114, jl_186, jl_1100, jr, ju, jpT, jpF, tnc, Nat.reduceEqDiff, reduceIte, and_false, false_and, not_true_eq_false, not_false_eq_true, or_false, gt_iff_lt, ge_iff_le, Int.lt_irrefl, Int.le_refl, f0_w]
      refine qp_lp (fun en h' => ∃ u : Nat, en = [157, 6, 70, (sn : Int), cl 70 h (150 + sn) - sumN (fun u => shrA D (cl 70 h) sn u) u, (u : Int)] ∧ u ≤ nU D ∧ h' = h1) ⟨0, by rw [show sumN (fun u => shrA D (cl 70 h) sn u) 0 = 0 from rfl, Int.sub_zero]; rfl, Nat.zero_le _, rfl⟩ ?_
      intro en h2 ⟨u, e5_w, z1, z2⟩
      subst e5_w
      subst z2
      by_cases y : u < nU D
      · have y1 : (u : Int) < (nU D : Int) := by omega
        have y2 : ¬ (nU D : Int) ≤ (u : Int) := by omega
        have eu := jk1 (k := u) (by omega)
        have r1_w : rg h2 168 (u : Int) = shrA D (cl 70 h) sn u := (rg_in (o := 168) (c := 169) (n := 4) ro_168_0 lo_169 (by omega)).trans (g4 u (by omega))
        have SB := shrA_b (u := u) w ra hs
        have B := sumN_b (f := fun u => shrA D (cl 70 h) sn u) (B := 5400000) u (fun k hk => shrA_b w ra hs)
        have F := ra.2.2 (150 + sn) (by omega) (by omega)
        have e6_w : j32 (cl 70 h (150 + sn) - sumN (fun u => shrA D (cl 70 h) sn u) u - shrA D (cl 70 h) sn u) = cl 70 h (150 + sn) - sumN (fun u => shrA D (cl 70 h) sn u) (u + 1) := by
          rw [show sumN (fun u => shrA D (cl 70 h) sn u) (u + 1) = sumN (fun u => shrA D (cl 70 h) sn u) u + shrA D (cl 70 h) sn u from rfl, j32_id (by omega) (by omega)]
          omega
        simp only [qe_1, qe_3, qe_4, qe_5, qe_7, qe_72, qe_10, qe_102, qe_13, qe_14, qe_15, qe_16, qe_17, qe_18, qe_20, qe_22, qe_23, qe_21, qe_24, qe_25, qe_26, qe_27, qe_28, qe_30, qe_31, qe_32, qc_20, qc_22, qc_23, qc_21, qc_24, qc_25, qc_26, qc_27, qc_1, qc_3, qc_4, qc_7, qc_13, qc_28, qc_32, qs_1, qs_2, qs_3, qs_4, qs_5, qs_6, qs_9, qs_10, qs_11, qs_14, qs_15, qs_16, qs_27, qs_17, qs_18, qs_19, qs_20, qs_22, qs_23, qs_28, qs_25, qs_26, qs_7, qs_8, kc_1, kn_1, kc_2, kn_2, kc_3, kn_3, kc_4, kn_4, kc_5, kn_5, kc_6, kn_6, kc_7, kn_7, kc_8, kn_8, kc_9, kn_9, kc_10, kn_10, kc_11, kn_11, kc_12, kn_12, kc_13, kn_13, kc_14, kn_14, kc_15, kn_15, kc_16, kc_17, kc_18, kc_19, kc_20, kc_21, kc_22, kc_23, kc_30, kc_32, kc_40, kc_43, kc_45, kc_48, kc_52, kc_56, kc_57, kc_59, kc_60, kc_61, kc_63, kc_64, kc_72, kc_78, kc_97, kc_99, kc_122, kc_126, kc_128, kc_192, kc_200, kc_255, kc_999, kc_1000, kc_9999, kn_9999, kc_10000, kc_12345, kc_65536, kc_252645135, kc_858993459, kc_1103515245, kc_1431655765, kc_2147483647, kc_0, kc_24, kc_28, kc_37, kc_41, kc_42, kc_73, kc_91, kc_95, kc_96, kc_98, kc_100, kc_112, kc_125, kc_150, kc_162, kc_163, kc_168, kc_186, kc_190, kc_250, kc_355, kc_356, kc_404, kc_405, kc_429, kc_573, kc_1002, kc_1100, kc_1891, kc_2200, kc_4719, kc_4869, kc_4881, kc_5148, kc_19741, kc_25433, kc_320403, kc_628412, kc_629093, kc_660401, kc_679843, kc_918640, kc_979410, kc_1178088, kc_6232410, kc_24644941, kc_36238189, kc_38270444, kc_392531318, kc_425693491, kc_1342154595, kc_2147483648, kc_42328242873, kc_891704255789, kc_1722105685577, kc_1858726030364, ct_0, ct_1, ct_2, ct_3, ct_4, ct_5, cf_0, cf_1, cf_2, cf_3, cf_4, cf_5, w_ty6, w_ty7, m_sv, m_z0, m_hd, m_g0, m_gs, m_s0, m_ss, m_ap, m_an, forall_const, true_and, and_true, ne_eq, not_true_eq_false, not_false_eq_true, false_implies, true_implies, implies_true, eq_self, reduceCtorEq, Nat.reduceDiv, Nat.reduceMod, Int.reduceToNat, or_true, true_or, or_false, false_or, or_self, m_it, m_if, m_c1, m_01, m_02, m_03, m_04, m_10, m_12, m_13, m_14, m_20, m_21, m_23, m_24, m_30, m_31, m_32, m_34, m_40, m_41, m_42, m_43, Int.reduceLE, Int.reduceLT, Int.reduceGE, Int.reduceGT, Int.reduceNeg, Int.reduceAdd, Int.reduceSub, Int.reduceMul, Int.reduceEq, Int.reduceNe, Nat.reduceAdd, jun2, ro_0_0, ro_0_1, ro_0_2, ro_0_3, ro_0_4, ro_0_5, ro_0_6, ro_0_7, ro_0_8, ro_0_9, ro_0_10, ro_0_11, ro_0_12, ro_1_0, ro_1_1, ro_2_0, ro_4_0, ro_6_0, ro_6_1, ro_6_2, ro_6_3, ro_6_4, ro_6_5, ro_6_6, ro_6_7, ro_6_8, ro_8_0, ro_10_0, ro_12_0, ro_14_0, ro_16_0, ro_18_0, ro_20_0, ro_22_0, ro_22_1, ro_22_2, ro_23_0, ro_25_0, ro_27_0, ro_29_0, ro_29_1, ro_29_2, ro_29_3, ro_29_4, ro_29_5, ro_29_6, ro_29_7, ro_29_8, ro_31_0, ro_33_0, ro_35_0, ro_37_0, ro_39_0, ro_41_0, ro_43_0, ro_45_0, ro_45_1, ro_45_2, ro_46_0, ro_48_0, ro_50_0, ro_52_0, ro_52_1, ro_52_2, ro_52_3, ro_53_0, ro_55_0, ro_57_0, ro_59_0, ro_61_0, ro_61_1, ro_61_2, ro_61_3, ro_62_0, ro_64_0, ro_66_0, ro_68_0, ro_70_0, ro_70_1, ro_70_2, ro_70_3, ro_70_4, ro_70_5, ro_70_6, ro_70_7, ro_70_8, ro_70_9, ro_71_0, ro_73_0, ro_75_0, ro_77_0, ro_79_0, ro_81_0, ro_83_0, ro_85_0, ro_87_0, ro_89_0, ro_91_0, ro_91_1, ro_91_2, ro_91_3, ro_91_4, ro_91_5, ro_91_6, ro_91_7, ro_91_8, ro_91_9, ro_92_0, ro_94_0, ro_96_0, ro_98_0, ro_100_0, ro_102_0, ro_104_0, ro_106_0, ro_108_0, ro_110_0, ro_112_0, ro_112_1, ro_112_2, ro_112_3, ro_112_4, ro_112_5, ro_112_6, ro_112_7, ro_112_8, ro_112_9, ro_113_0, ro_115_0, ro_117_0, ro_119_0, ro_121_0, ro_123_0, ro_125_0, ro_127_0, ro_129_0, ro_131_0, ro_133_0, ro_133_1, ro_133_2, ro_133_3, ro_133_4, ro_133_5, ro_133_6, ro_133_7, ro_133_8, ro_133_9, ro_134_0, ro_136_0, ro_138_0, ro_140_0, ro_142_0, ro_144_0, ro_146_0, ro_148_0, ro_150_0, ro_152_0, ro_154_0, ro_155_0, ro_157_0, ro_157_1, ro_157_2, ro_157_3, ro_157_4, ro_157_5, ro_157_6, ro_157_7, ro_157_8, ro_157_9, ro_158_0, ro_160_0, ro_162_0, ro_164_0, ro_166_0, ro_168_0, ro_170_0, ro_172_0, ro_174_0, ro_176_0, ro_178_0, ro_180_0, ro_182_1, ro_182_4, ro_182_5, ro_182_6, ro_182_9, ro_182_10, ro_182_11, ro_182_13, ro_182_14, ro_182_15, ro_182_16, ro_182_17, ro_182_20, ro_182_21, ro_182_22, ro_182_23, ro_182_24, ro_182_26, ro_182_27, ro_182_28, lo_3, lo_5, lo_7, lo_9, lo_11, lo_13, lo_15, lo_17, lo_19, lo_21, lo_24, lo_26, lo_28, lo_30, lo_32, lo_34, lo_36, lo_38, lo_40, lo_42, lo_44, lo_47, lo_49, lo_51, lo_54, lo_56, lo_58, lo_60, lo_63, lo_65, lo_67, lo_69, lo_72, lo_74, lo_76, lo_78, lo_80, lo_82, lo_84, lo_86, lo_88, lo_90, lo_93, lo_95, lo_97, lo_99, lo_101, lo_103, lo_105, lo_107, lo_109, lo_111, lo_114, lo_116, lo_118, lo_120, lo_122, lo_124, lo_126, lo_128, lo_130, lo_132, lo_135, lo_137, lo_139, lo_141, lo_143, lo_145, lo_147, lo_149, lo_151, lo_153, lo_156, lo_159, lo_161, lo_163, lo_165, lo_167, lo_169, lo_171, lo_173, lo_175, lo_177, lo_179, lo_181, lo_183, lo_184, lo_185, lo_186, lo_187, lo_188, lo_189, lo_190, lo_191, lo_192, lo_193, lo_194, lo_195, lo_196, lo_197, lo_198, lo_199, lo_200, lo_201, lo_202, lo_203, jp_nn, jp_eq, jp_e1, Classical.not_not, ji0, ji1, ji2, cs77_54, kk_54, cs77_172, kk_172, jl_0, jl_1, jl_2, jl_3, jl_4, jl_5, jl_6, jl_7, jl_8, jl_9, jl_10, jl_11, jl_12, jl_13, jl_14, jl_15, jl_16, jl_17, jl_18, jl_19, jl_20, jl_21, jl_22, jl_23, jl_24, jl_25, jl_26, jl_27, jl_28, jl_29, jl_30, jl_31, jl_32, jl_33, jl_34, jl_35, jl_36, jl_37, jl_38, jl_39, jl_40, jl_95, jl_96, jl_97, jl_98, jl_99, jl_100, jl_101, jl_102, jl_103, jl_104, jl_105, jl_106, jl_107, jl_108, jl_109, jl_110, jl_111, jl_112, jl_113, jl_114, jl_186, jl_1100, jr, ju, jpT, jpF, tnc, Nat.reduceEqDiff, reduceIte, and_false, false_and, not_true_eq_false, not_false_eq_true, or_false, gt_iff_lt, ge_iff_le, Int.lt_irrefl, Int.le_refl, eU, y1, y2, r1_w, e6_w, eu]
        intros
        exact ⟨u + 1, rfl, by omega⟩
      · have y1 : ¬ (u : Int) < (nU D : Int) := by omega
        have y2 : (nU D : Int) ≤ (u : Int) := by omega
        have eu : u = nU D := by omega
        subst eu
        simp only [qe_1, qe_3, qe_4, qe_5, qe_7, qe_72, qe_10, qe_102, qe_13, qe_14, qe_15, qe_16, qe_17, qe_18, qe_20, qe_22, qe_23, qe_21, qe_24, qe_25, qe_26, qe_27, qe_28, qe_30, qe_31, qe_32, qc_20, qc_22, qc_23, qc_21, qc_24, qc_25, qc_26, qc_27, qc_1, qc_3, qc_4, qc_7, qc_13, qc_28, qc_32, qs_1, qs_2, qs_3, qs_4, qs_5, qs_6, qs_9, qs_10, qs_11, qs_14, qs_15, qs_16, qs_27, qs_17, qs_18, qs_19, qs_20, qs_22, qs_23, qs_28, qs_25, qs_26, qs_7, qs_8, kc_1, kn_1, kc_2, kn_2, kc_3, kn_3, kc_4, kn_4, kc_5, kn_5, kc_6, kn_6, kc_7, kn_7, kc_8, kn_8, kc_9, kn_9, kc_10, kn_10, kc_11, kn_11, kc_12, kn_12, kc_13, kn_13, kc_14, kn_14, kc_15, kn_15, kc_16, kc_17, kc_18, kc_19, kc_20, kc_21, kc_22, kc_23, kc_30, kc_32, kc_40, kc_43, kc_45, kc_48, kc_52, kc_56, kc_57, kc_59, kc_60, kc_61, kc_63, kc_64, kc_72, kc_78, kc_97, kc_99, kc_122, kc_126, kc_128, kc_192, kc_200, kc_255, kc_999, kc_1000, kc_9999, kn_9999, kc_10000, kc_12345, kc_65536, kc_252645135, kc_858993459, kc_1103515245, kc_1431655765, kc_2147483647, kc_0, kc_24, kc_28, kc_37, kc_41, kc_42, kc_73, kc_91, kc_95, kc_96, kc_98, kc_100, kc_112, kc_125, kc_150, kc_162, kc_163, kc_168, kc_186, kc_190, kc_250, kc_355, kc_356, kc_404, kc_405, kc_429, kc_573, kc_1002, kc_1100, kc_1891, kc_2200, kc_4719, kc_4869, kc_4881, kc_5148, kc_19741, kc_25433, kc_320403, kc_628412, kc_629093, kc_660401, kc_679843, kc_918640, kc_979410, kc_1178088, kc_6232410, kc_24644941, kc_36238189, kc_38270444, kc_392531318, kc_425693491, kc_1342154595, kc_2147483648, kc_42328242873, kc_891704255789, kc_1722105685577, kc_1858726030364, ct_0, ct_1, ct_2, ct_3, ct_4, ct_5, cf_0, cf_1, cf_2, cf_3, cf_4, cf_5, w_ty6, w_ty7, m_sv, m_z0, m_hd, m_g0, m_gs, m_s0, m_ss, m_ap, m_an, forall_const, true_and, and_true, ne_eq, not_true_eq_false, not_false_eq_true, false_implies, true_implies, implies_true, eq_self, reduceCtorEq, Nat.reduceDiv, Nat.reduceMod, Int.reduceToNat, or_true, true_or, or_false, false_or, or_self, m_it, m_if, m_c1, m_01, m_02, m_03, m_04, m_10, m_12, m_13, m_14, m_20, m_21, m_23, m_24, m_30, m_31, m_32, m_34, m_40, m_41, m_42, m_43, Int.reduceLE, Int.reduceLT, Int.reduceGE, Int.reduceGT, Int.reduceNeg, Int.reduceAdd, Int.reduceSub, Int.reduceMul, Int.reduceEq, Int.reduceNe, Nat.reduceAdd, jun2, ro_0_0, ro_0_1, ro_0_2, ro_0_3, ro_0_4, ro_0_5, ro_0_6, ro_0_7, ro_0_8, ro_0_9, ro_0_10, ro_0_11, ro_0_12, ro_1_0, ro_1_1, ro_2_0, ro_4_0, ro_6_0, ro_6_1, ro_6_2, ro_6_3, ro_6_4, ro_6_5, ro_6_6, ro_6_7, ro_6_8, ro_8_0, ro_10_0, ro_12_0, ro_14_0, ro_16_0, ro_18_0, ro_20_0, ro_22_0, ro_22_1, ro_22_2, ro_23_0, ro_25_0, ro_27_0, ro_29_0, ro_29_1, ro_29_2, ro_29_3, ro_29_4, ro_29_5, ro_29_6, ro_29_7, ro_29_8, ro_31_0, ro_33_0, ro_35_0, ro_37_0, ro_39_0, ro_41_0, ro_43_0, ro_45_0, ro_45_1, ro_45_2, ro_46_0, ro_48_0, ro_50_0, ro_52_0, ro_52_1, ro_52_2, ro_52_3, ro_53_0, ro_55_0, ro_57_0, ro_59_0, ro_61_0, ro_61_1, ro_61_2, ro_61_3, ro_62_0, ro_64_0, ro_66_0, ro_68_0, ro_70_0, ro_70_1, ro_70_2, ro_70_3, ro_70_4, ro_70_5, ro_70_6, ro_70_7, ro_70_8, ro_70_9, ro_71_0, ro_73_0, ro_75_0, ro_77_0, ro_79_0, ro_81_0, ro_83_0, ro_85_0, ro_87_0, ro_89_0, ro_91_0, ro_91_1, ro_91_2, ro_91_3, ro_91_4, ro_91_5, ro_91_6, ro_91_7, ro_91_8, ro_91_9, ro_92_0, ro_94_0, ro_96_0, ro_98_0, ro_100_0, ro_102_0, ro_104_0, ro_106_0, ro_108_0, ro_110_0, ro_112_0, ro_112_1, ro_112_2, ro_112_3, ro_112_4, ro_112_5, ro_112_6, ro_112_7, ro_112_8, ro_112_9, ro_113_0, ro_115_0, ro_117_0, ro_119_0, ro_121_0, ro_123_0, ro_125_0, ro_127_0, ro_129_0, ro_131_0, ro_133_0, ro_133_1, ro_133_2, ro_133_3, ro_133_4, ro_133_5, ro_133_6, ro_133_7, ro_133_8, ro_133_9, ro_134_0, ro_136_0, ro_138_0, ro_140_0, ro_142_0, ro_144_0, ro_146_0, ro_148_0, ro_150_0, ro_152_0, ro_154_0, ro_155_0, ro_157_0, ro_157_1, ro_157_2, ro_157_3, ro_157_4, ro_157_5, ro_157_6, ro_157_7, ro_157_8, ro_157_9, ro_158_0, ro_160_0, ro_162_0, ro_164_0, ro_166_0, ro_168_0, ro_170_0, ro_172_0, ro_174_0, ro_176_0, ro_178_0, ro_180_0, ro_182_1, ro_182_4, ro_182_5, ro_182_6, ro_182_9, ro_182_10, ro_182_11, ro_182_13, ro_182_14, ro_182_15, ro_182_16, ro_182_17, ro_182_20, ro_182_21, ro_182_22, ro_182_23, ro_182_24, ro_182_26, ro_182_27, ro_182_28, lo_3, lo_5, lo_7, lo_9, lo_11, lo_13, lo_15, lo_17, lo_19, lo_21, lo_24, lo_26, lo_28, lo_30, lo_32, lo_34, lo_36, lo_38, lo_40, lo_42, lo_44, lo_47, lo_49, lo_51, lo_54, lo_56, lo_58, lo_60, lo_63, lo_65, lo_67, lo_69, lo_72, lo_74, lo_76, lo_78, lo_80, lo_82, lo_84, lo_86, lo_88, lo_90, lo_93, lo_95, lo_97, lo_99, lo_101, lo_103, lo_105, lo_107, lo_109, lo_111, lo_114, lo_116, lo_118, lo_120, lo_122, lo_124, lo_126, lo_128, lo_130, lo_132, lo_135, lo_137, lo_139, lo_141, lo_143, lo_145, lo_147, lo_149, lo_151, lo_153, lo_156, lo_159, lo_161, lo_163, lo_165, lo_167, lo_169, lo_171, lo_173, lo_175, lo_177, lo_179, lo_181, lo_183, lo_184, lo_185, lo_186, lo_187, lo_188, lo_189, lo_190, lo_191, lo_192, lo_193, lo_194, lo_195, lo_196, lo_197, lo_198, lo_199, lo_200, lo_201, lo_202, lo_203, jp_nn, jp_eq, jp_e1, Classical.not_not, ji0, ji1, ji2, cs77_54, kk_54, cs77_172, kk_172, jl_0, jl_1, jl_2, jl_3, jl_4, jl_5, jl_6, jl_7, jl_8, jl_9, jl_10, jl_11, jl_12, jl_13, jl_14, jl_15, jl_16, jl_17, jl_18, jl_19, jl_20, jl_21, jl_22, jl_23, jl_24, jl_25, jl_26, jl_27, jl_28, jl_29, jl_30, jl_31, jl_32, jl_33, jl_34, jl_35, jl_36, jl_37, jl_38, jl_39, jl_40, jl_95, jl_96, jl_97, jl_98, jl_99, jl_100, jl_101, jl_102, jl_103, jl_104, jl_105, jl_106, jl_107, jl_108, jl_109, jl_110, jl_111, jl_112, jl_113, jl_114, jl_186, jl_1100, jr, ju, jpT, jpF, tnc, Nat.reduceEqDiff, reduceIte, and_false, false_and, not_true_eq_false, not_false_eq_true, or_false, gt_iff_lt, ge_iff_le, Int.lt_irrefl, Int.le_refl, eU, y1, y2]
        exact hQ h2 f1_w
    · show pS CS77 bb_178 [157, 6, 91, (sn : Int), 0, 0] h _
      unfold bb_178
      simp only [qe_1, qe_3, qe_4, qe_5, qe_7, qe_72, qe_10, qe_102, qe_13, qe_14, qe_15, qe_16, qe_17, qe_18, qe_20, qe_22, qe_23, qe_21, qe_24, qe_25, qe_26, qe_27, qe_28, qe_30, qe_31, qe_32, qc_20, qc_22, qc_23, qc_21, qc_24, qc_25, qc_26, qc_27, qc_1, qc_3, qc_4, qc_7, qc_13, qc_28, qc_32, qs_1, qs_2, qs_3, qs_4, qs_5, qs_6, qs_9, qs_10, qs_11, qs_14, qs_15, qs_16, qs_27, qs_17, qs_18, qs_19, qs_20, qs_22, qs_23, qs_28, qs_25, qs_26, qs_7, qs_8, kc_1, kn_1, kc_2, kn_2, kc_3, kn_3, kc_4, kn_4, kc_5, kn_5, kc_6, kn_6, kc_7, kn_7, kc_8, kn_8, kc_9, kn_9, kc_10, kn_10, kc_11, kn_11, kc_12, kn_12, kc_13, kn_13, kc_14, kn_14, kc_15, kn_15, kc_16, kc_17, kc_18, kc_19, kc_20, kc_21, kc_22, kc_23, kc_30, kc_32, kc_40, kc_43, kc_45, kc_48, kc_52, kc_56, kc_57, kc_59, kc_60, kc_61, kc_63, kc_64, kc_72, kc_78, kc_97, kc_99, kc_122, kc_126, kc_128, kc_192, kc_200, kc_255, kc_999, kc_1000, kc_9999, kn_9999, kc_10000, kc_12345, kc_65536, kc_252645135, kc_858993459, kc_1103515245, kc_1431655765, kc_2147483647, kc_0, kc_24, kc_28, kc_37, kc_41, kc_42, kc_73, kc_91, kc_95, kc_96, kc_98, kc_100, kc_112, kc_125, kc_150, kc_162, kc_163, kc_168, kc_186, kc_190, kc_250, kc_355, kc_356, kc_404, kc_405, kc_429, kc_573, kc_1002, kc_1100, kc_1891, kc_2200, kc_4719, kc_4869, kc_4881, kc_5148, kc_19741, kc_25433, kc_320403, kc_628412, kc_629093, kc_660401, kc_679843, kc_918640, kc_979410, kc_1178088, kc_6232410, kc_24644941, kc_36238189, kc_38270444, kc_392531318, kc_425693491, kc_1342154595, kc_2147483648, kc_42328242873, kc_891704255789, kc_1722105685577, kc_1858726030364, ct_0, ct_1, ct_2, ct_3, ct_4, ct_5, cf_0, cf_1, cf_2, cf_3, cf_4, cf_5, w_ty6, w_ty7, m_sv, m_z0, m_hd, m_g0, m_gs, m_s0, m_ss, m_ap, m_an, forall_const, true_and, and_true, ne_eq, not_true_eq_false, not_false_eq_true, false_implies, true_implies, implies_true, eq_self, reduceCtorEq, Nat.reduceDiv, Nat.reduceMod, Int.reduceToNat, or_true, true_or, or_false, false_or, or_self, m_it, m_if, m_c1, m_01, m_02, m_03, m_04, m_10, m_12, m_13, m_14, m_20, m_21, m_23, m_24, m_30, m_31, m_32, m_34, m_40, m_41, m_42, m_43, Int.reduceLE, Int.reduceLT, Int.reduceGE, Int.reduceGT, Int.reduceNeg, Int.reduceAdd, Int.reduceSub, Int.reduceMul, Int.reduceEq, Int.reduceNe, Nat.reduceAdd, jun2, ro_0_0, ro_0_1, ro_0_2, ro_0_3, ro_0_4, ro_0_5, ro_0_6, ro_0_7, ro_0_8, ro_0_9, ro_0_10, ro_0_11, ro_0_12, ro_1_0, ro_1_1, ro_2_0, ro_4_0, ro_6_0, ro_6_1, ro_6_2, ro_6_3, ro_6_4, ro_6_5, ro_6_6, ro_6_7, ro_6_8, ro_8_0, ro_10_0, ro_12_0, ro_14_0, ro_16_0, ro_18_0, ro_20_0, ro_22_0, ro_22_1, ro_22_2, ro_23_0, ro_25_0, ro_27_0, ro_29_0, ro_29_1, ro_29_2, ro_29_3, ro_29_4, ro_29_5, ro_29_6, ro_29_7, ro_29_8, ro_31_0, ro_33_0, ro_35_0, ro_37_0, ro_39_0, ro_41_0, ro_43_0, ro_45_0, ro_45_1, ro_45_2, ro_46_0, ro_48_0, ro_50_0, ro_52_0, ro_52_1, ro_52_2, ro_52_3, ro_53_0, ro_55_0, ro_57_0, ro_59_0, ro_61_0, ro_61_1, ro_61_2, ro_61_3, ro_62_0, ro_64_0, ro_66_0, ro_68_0, ro_70_0, ro_70_1, ro_70_2, ro_70_3, ro_70_4, ro_70_5, ro_70_6, ro_70_7, ro_70_8, ro_70_9, ro_71_0, ro_73_0, ro_75_0, ro_77_0, ro_79_0, ro_81_0, ro_83_0, ro_85_0, ro_87_0, ro_89_0, ro_91_0, ro_91_1, ro_91_2, ro_91_3, ro_91_4, ro_91_5, ro_91_6, ro_91_7, ro_91_8, ro_91_9, ro_92_0, ro_94_0, ro_96_0, ro_98_0, ro_100_0, ro_102_0, ro_104_0, ro_106_0, ro_108_0, ro_110_0, ro_112_0, ro_112_1, ro_112_2, ro_112_3, ro_112_4, ro_112_5, ro_112_6, ro_112_7, ro_112_8, ro_112_9, ro_113_0, ro_115_0, ro_117_0, ro_119_0, ro_121_0, ro_123_0, ro_125_0, ro_127_0, ro_129_0, ro_131_0, ro_133_0, ro_133_1, ro_133_2, ro_133_3, ro_133_4, ro_133_5, ro_133_6, ro_133_7, ro_133_8, ro_133_9, ro_134_0, ro_136_0, ro_138_0, ro_140_0, ro_142_0, ro_144_0, ro_146_0, ro_148_0, ro_150_0, ro_152_0, ro_154_0, ro_155_0, ro_157_0, ro_157_1, ro_157_2, ro_157_3, ro_157_4, ro_157_5, ro_157_6, ro_157_7, ro_157_8, ro_157_9, ro_158_0, ro_160_0, ro_162_0, ro_164_0, ro_166_0, ro_168_0, ro_170_0, ro_172_0, ro_174_0, ro_176_0, ro_178_0, ro_180_0, ro_182_1, ro_182_4, ro_182_5, ro_182_6, ro_182_9, ro_182_10, ro_182_11, ro_182_13, ro_182_14, ro_182_15, ro_182_16, ro_182_17, ro_182_20, ro_182_21, ro_182_22, ro_182_23, ro_182_24, ro_182_26, ro_182_27, ro_182_28, lo_3, lo_5, lo_7, lo_9, lo_11, lo_13, lo_15, lo_17, lo_19, lo_21, lo_24, lo_26, lo_28, lo_30, lo_32, lo_34, lo_36, lo_38, lo_40, lo_42, lo_44, lo_47, lo_49, lo_51, lo_54, lo_56, lo_58, lo_60, lo_63, lo_65, lo_67, lo_69, lo_72, lo_74, lo_76, lo_78, lo_80, lo_82, lo_84, lo_86, lo_88, lo_90, lo_93, lo_95, lo_97, lo_99, lo_101, lo_103, lo_105, lo_107, lo_109, lo_111, lo_114, lo_116, lo_118, lo_120, lo_122, lo_124, lo_126, lo_128, lo_130, lo_132, lo_135, lo_137, lo_139, lo_141, lo_143, lo_145, lo_147, lo_149, lo_151, lo_153, lo_156, lo_159, lo_161, lo_163, lo_165, lo_167, lo_169, lo_171, lo_173, lo_175, lo_177, lo_179, lo_181, lo_183, lo_184, lo_185, lo_186, lo_187, lo_188, lo_189, lo_190, lo_191, lo_192, lo_193, lo_194, lo_195, lo_196, lo_197, lo_198, lo_199, lo_200, lo_201, lo_202, lo_203, jp_nn, jp_eq, jp_e1, Classical.not_not, ji0, ji1, ji2, cs77_54, kk_54, cs77_172, kk_172, jl_0, jl_1, jl_2, jl_3, jl_4, jl_5, jl_6, jl_7, jl_8, jl_9, jl_10, jl_11, jl_12, jl_13, jl_14, jl_15, jl_16, jl_17, jl_18, jl_19, jl_20, jl_21, jl_22, jl_23, jl_24, jl_25, jl_26, jl_27, jl_28, jl_29, jl_30, jl_31, jl_32, jl_33, jl_34, jl_35, jl_36, jl_37, jl_38, jl_39, jl_40, jl_95, jl_96, jl_97, jl_98, jl_99, jl_100, jl_101, jl_102, jl_103, jl_104, jl_105, jl_106, jl_107, jl_108, jl_109, jl_110, jl_111, jl_112, jl_113, jl_114, jl_186, jl_1100, jr, ju, jpT, jpF, tnc, Nat.reduceEqDiff, reduceIte, and_false, false_and, not_true_eq_false, not_false_eq_true, or_false, gt_iff_lt, ge_iff_le, Int.lt_irrefl, Int.le_refl]
      refine ⟨D, 91, sn, hb', rfl, w, cd, lw, rfl, hs, ra, fun h1 f1_w g1 => ?_⟩
      have q6_w : ∀ p, p < 28 ∨ (29 ≤ p ∧ p ≤ 156) → ∀ k, h1 p k = h p k := fun p a k => f1_w p k (nst p (by omega)) (by omega)
      have f0_w : rg h1 96 (sn : Int) = cl 91 h (150 + sn) := (rg_in (o := 96) (c := 97) (n := 12) ro_96_0 lo_97 (by omega)).trans ((q6_w 97 (Or.inr ⟨by decide, by decide⟩) sn).trans ((cl_fe (h := h) (b := 91) (q := 150 + sn) (by omega) (by omega)).trans (congrArg (h 97) (by omega))).symm)
      have eU : h1 6 11 = (nU D : Int) := (q6_w 6 (Or.inl (by decide)) 11).trans z11
      obtain ⟨-, -, -, g4⟩ := g1
      simp only [qe_1, qe_3, qe_4, qe_5, qe_7, qe_72, qe_10, qe_102, qe_13, qe_14, qe_15, qe_16, qe_17, qe_18, qe_20, qe_22, qe_23, qe_21, qe_24, qe_25, qe_26, qe_27, qe_28, qe_30, qe_31, qe_32, qc_20, qc_22, qc_23, qc_21, qc_24, qc_25, qc_26, qc_27, qc_1, qc_3, qc_4, qc_7, qc_13, qc_28, qc_32, qs_1, qs_2, qs_3, qs_4, qs_5, qs_6, qs_9, qs_10, qs_11, qs_14, qs_15, qs_16, qs_27, qs_17, qs_18, qs_19, qs_20, qs_22, qs_23, qs_28, qs_25, qs_26, qs_7, qs_8, kc_1, kn_1, kc_2, kn_2, kc_3, kn_3, kc_4, kn_4, kc_5, kn_5, kc_6, kn_6, kc_7, kn_7, kc_8, kn_8, kc_9, kn_9, kc_10, kn_10, kc_11, kn_11, kc_12, kn_12, kc_13, kn_13, kc_14, kn_14, kc_15, kn_15, kc_16, kc_17, kc_18, kc_19, kc_20, kc_21, kc_22, kc_23, kc_30, kc_32, kc_40, kc_43, kc_45, kc_48, kc_52, kc_56, kc_57, kc_59, kc_60, kc_61, kc_63, kc_64, kc_72, kc_78, kc_97, kc_99, kc_122, kc_126, kc_128, kc_192, kc_200, kc_255, kc_999, kc_1000, kc_9999, kn_9999, kc_10000, kc_12345, kc_65536, kc_252645135, kc_858993459, kc_1103515245, kc_1431655765, kc_2147483647, kc_0, kc_24, kc_28, kc_37, kc_41, kc_42, kc_73, kc_91, kc_95, kc_96, kc_98, kc_100, kc_112, kc_125, kc_150, kc_162, kc_163, kc_168, kc_186, kc_190, kc_250, kc_355, kc_356, kc_404, kc_405, kc_429, kc_573, kc_1002, kc_1100, kc_1891, kc_2200, kc_4719, kc_4869, kc_4881, kc_5148, kc_19741, kc_25433, kc_320403, kc_628412, kc_629093, kc_660401, kc_679843, kc_918640, kc_979410, kc_1178088, kc_6232410, kc_24644941, kc_36238189, kc_38270444, kc_392531318, kc_425693491, kc_1342154595, kc_2147483648, kc_42328242873, kc_891704255789, kc_1722105685577, kc_1858726030364, ct_0, ct_1, ct_2, ct_3, ct_4, ct_5, cf_0, cf_1, cf_2, cf_3, cf_4, cf_5, w_ty6, w_ty7, m_sv, m_z0, m_hd, m_g0, m_gs, m_s0, m_ss, m_ap, m_an, forall_const, true_and, and_true, ne_eq, not_true_eq_false, not_false_eq_true, false_implies, true_implies, implies_true, eq_self, reduceCtorEq, Nat.reduceDiv, Nat.reduceMod, Int.reduceToNat, or_true, true_or, or_false, false_or, or_self, m_it, m_if, m_c1, m_01, m_02, m_03, m_04, m_10, m_12, m_13, m_14, m_20, m_21, m_23, m_24, m_30, m_31, m_32, m_34, m_40, m_41, m_42, m_43, Int.reduceLE, Int.reduceLT, Int.reduceGE, Int.reduceGT, Int.reduceNeg, Int.reduceAdd, Int.reduceSub, Int.reduceMul, Int.reduceEq, Int.reduceNe, Nat.reduceAdd, jun2, ro_0_0, ro_0_1, ro_0_2, ro_0_3, ro_0_4, ro_0_5, ro_0_6, ro_0_7, ro_0_8, ro_0_9, ro_0_10, ro_0_11, ro_0_12, ro_1_0, ro_1_1, ro_2_0, ro_4_0, ro_6_0, ro_6_1, ro_6_2, ro_6_3, ro_6_4, ro_6_5, ro_6_6, ro_6_7, ro_6_8, ro_8_0, ro_10_0, ro_12_0, ro_14_0, ro_16_0, ro_18_0, ro_20_0, ro_22_0, ro_22_1, ro_22_2, ro_23_0, ro_25_0, ro_27_0, ro_29_0, ro_29_1, ro_29_2, ro_29_3, ro_29_4, ro_29_5, ro_29_6, ro_29_7, ro_29_8, ro_31_0, ro_33_0, ro_35_0, ro_37_0, ro_39_0, ro_41_0, ro_43_0, ro_45_0, ro_45_1, ro_45_2, ro_46_0, ro_48_0, ro_50_0, ro_52_0, ro_52_1, ro_52_2, ro_52_3, ro_53_0, ro_55_0, ro_57_0, ro_59_0, ro_61_0, ro_61_1, ro_61_2, ro_61_3, ro_62_0, ro_64_0, ro_66_0, ro_68_0, ro_70_0, ro_70_1, ro_70_2, ro_70_3, ro_70_4, ro_70_5, ro_70_6, ro_70_7, ro_70_8, ro_70_9, ro_71_0, ro_73_0, ro_75_0, ro_77_0, ro_79_0, ro_81_0, ro_83_0, ro_85_0, ro_87_0, ro_89_0, ro_91_0, ro_91_1, ro_91_2, ro_91_3, ro_91_4, ro_91_5, ro_91_6, ro_91_7, ro_91_8, ro_91_9, ro_92_0, ro_94_0, ro_96_0, ro_98_0, ro_100_0, ro_102_0, ro_104_0, ro_106_0, ro_108_0, ro_110_0, ro_112_0, ro_112_1, ro_112_2, ro_112_3, ro_112_4, ro_112_5, ro_112_6, ro_112_7, ro_112_8, ro_112_9, ro_113_0, ro_115_0, ro_117_0, ro_119_0, ro_121_0, ro_123_0, ro_125_0, ro_127_0, ro_129_0, ro_131_0, ro_133_0, ro_133_1, ro_133_2, ro_133_3, ro_133_4, ro_133_5, ro_133_6, ro_133_7, ro_133_8, ro_133_9, ro_134_0, ro_136_0, ro_138_0, ro_140_0, ro_142_0, ro_144_0, ro_146_0, ro_148_0, ro_150_0, ro_152_0, ro_154_0, ro_155_0, ro_157_0, ro_157_1, ro_157_2, ro_157_3, ro_157_4, ro_157_5, ro_157_6, ro_157_7, ro_157_8, ro_157_9, ro_158_0, ro_160_0, ro_162_0, ro_164_0, ro_166_0, ro_168_0, ro_170_0, ro_172_0, ro_174_0, ro_176_0, ro_178_0, ro_180_0, ro_182_1, ro_182_4, ro_182_5, ro_182_6, ro_182_9, ro_182_10, ro_182_11, ro_182_13, ro_182_14, ro_182_15, ro_182_16, ro_182_17, ro_182_20, ro_182_21, ro_182_22, ro_182_23, ro_182_24, ro_182_26, ro_182_27, ro_182_28, lo_3, lo_5, lo_7, lo_9, lo_11, lo_13, lo_15, lo_17, lo_19, lo_21, lo_24, lo_26, lo_28, lo_30, lo_32, lo_34, lo_36, lo_38, lo_40, lo_42, lo_44, lo_47, lo_49, lo_51, lo_54, lo_56, lo_58, lo_60, lo_63, lo_65, lo_67, lo_69, lo_72, lo_74, lo_76, lo_78, lo_80, lo_82, lo_84, lo_86, lo_88, lo_90, lo_93, lo_95, lo_97, lo_99, lo_101, lo_103, lo_105, lo_107, lo_109, lo_111, lo_114, lo_116, lo_118, lo_120, lo_122, lo_124, lo_126, lo_128, lo_130, lo_132, lo_135, lo_137, lo_139, lo_141, lo_143, lo_145, lo_147, lo_149, lo_151, lo_153, lo_156, lo_159, lo_161, lo_163, lo_165, lo_167, lo_169, lo_171, lo_173, lo_175, lo_177, lo_179, lo_181, lo_183, lo_184, lo_185, lo_186, lo_187, lo_188, lo_189, lo_190, lo_191, lo_192, lo_193, lo_194, lo_195, lo_196, lo_197, lo_198, lo_199, lo_200, lo_201, lo_202, lo_203, jp_nn, jp_eq, jp_e1, Classical.not_not, ji0, ji1, ji2, cs77_54, kk_54, cs77_172, kk_172, jl_0, jl_1, jl_2, jl_3, jl_4, jl_5, jl_6, jl_7, jl_8, jl_9, jl_10, jl_11, jl_12, jl_13, jl_14, jl_15, jl_16, jl_17, jl_18, jl_19, jl_20, jl_21, jl_22, jl_23, jl_24, jl_25, jl_26, jl_27, jl_28, jl_29, jl_30, jl_31, jl_32, jl_33, jl_34, jl_35, jl_36, jl_37, jl_38, jl_39, jl_40, jl_95, jl_96, jl_97, jl_98, jl_99, jl_100, jl_101, jl_102, jl_103, jl_104, jl_105, jl_106, jl_107, jl_108, jl_109, jl_110, jl_111, jl_112, jl_113, jl_114, jl_186, jl_1100, jr, ju, jpT, jpF, tnc, Nat.reduceEqDiff, reduceIte, and_false, false_and, not_true_eq_false, not_false_eq_true, or_false, gt_iff_lt, ge_iff_le, Int.lt_irrefl, Int.le_refl, f0_w]
      refine qp_lp (fun en h' => ∃ u : Nat, en = [157, 6, 91, (sn : Int), cl 91 h (150 + sn) - sumN (fun u => shrA D (cl 91 h) sn u) u, (u : Int)] ∧ u ≤ nU D ∧ h' = h1) ⟨0, by rw [show sumN (fun u => shrA D (cl 91 h) sn u) 0 = 0 from rfl, Int.sub_zero]; rfl, Nat.zero_le _, rfl⟩ ?_
      intro en h2 ⟨u, e5_w, z1, z2⟩
      subst e5_w
      subst z2
      by_cases y : u < nU D
      · have y1 : (u : Int) < (nU D : Int) := by omega
        have y2 : ¬ (nU D : Int) ≤ (u : Int) := by omega
        have eu := jk1 (k := u) (by omega)
        have r1_w : rg h2 168 (u : Int) = shrA D (cl 91 h) sn u := (rg_in (o := 168) (c := 169) (n := 4) ro_168_0 lo_169 (by omega)).trans (g4 u (by omega))
        have SB := shrA_b (u := u) w ra hs
        have B := sumN_b (f := fun u => shrA D (cl 91 h) sn u) (B := 5400000) u (fun k hk => shrA_b w ra hs)
        have F := ra.2.2 (150 + sn) (by omega) (by omega)
        have e6_w : j32 (cl 91 h (150 + sn) - sumN (fun u => shrA D (cl 91 h) sn u) u - shrA D (cl 91 h) sn u) = cl 91 h (150 + sn) - sumN (fun u => shrA D (cl 91 h) sn u) (u + 1) := by
          rw [show sumN (fun u => shrA D (cl 91 h) sn u) (u + 1) = sumN (fun u => shrA D (cl 91 h) sn u) u + shrA D (cl 91 h) sn u from rfl, j32_id (by omega) (by omega)]
          omega
        simp only [qe_1, qe_3, qe_4, qe_5, qe_7, qe_72, qe_10, qe_102, qe_13, qe_14, qe_15, qe_16, qe_17, qe_18, qe_20, qe_22, qe_23, qe_21, qe_24, qe_25, qe_26, qe_27, qe_28, qe_30, qe_31, qe_32, qc_20, qc_22, qc_23, qc_21, qc_24, qc_25, qc_26, qc_27, qc_1, qc_3, qc_4, qc_7, qc_13, qc_28, qc_32, qs_1, qs_2, qs_3, qs_4, qs_5, qs_6, qs_9, qs_10, qs_11, qs_14, qs_15, qs_16, qs_27, qs_17, qs_18, qs_19, qs_20, qs_22, qs_23, qs_28, qs_25, qs_26, qs_7, qs_8, kc_1, kn_1, kc_2, kn_2, kc_3, kn_3, kc_4, kn_4, kc_5, kn_5, kc_6, kn_6, kc_7, kn_7, kc_8, kn_8, kc_9, kn_9, kc_10, kn_10, kc_11, kn_11, kc_12, kn_12, kc_13, kn_13, kc_14, kn_14, kc_15, kn_15, kc_16, kc_17, kc_18, kc_19, kc_20, kc_21, kc_22, kc_23, kc_30, kc_32, kc_40, kc_43, kc_45, kc_48, kc_52, kc_56, kc_57, kc_59, kc_60, kc_61, kc_63, kc_64, kc_72, kc_78, kc_97, kc_99, kc_122, kc_126, kc_128, kc_192, kc_200, kc_255, kc_999, kc_1000, kc_9999, kn_9999, kc_10000, kc_12345, kc_65536, kc_252645135, kc_858993459, kc_1103515245, kc_1431655765, kc_2147483647, kc_0, kc_24, kc_28, kc_37, kc_41, kc_42, kc_73, kc_91, kc_95, kc_96, kc_98, kc_100, kc_112, kc_125, kc_150, kc_162, kc_163, kc_168, kc_186, kc_190, kc_250, kc_355, kc_356, kc_404, kc_405, kc_429, kc_573, kc_1002, kc_1100, kc_1891, kc_2200, kc_4719, kc_4869, kc_4881, kc_5148, kc_19741, kc_25433, kc_320403, kc_628412, kc_629093, kc_660401, kc_679843, kc_918640, kc_979410, kc_1178088, kc_6232410, kc_24644941, kc_36238189, kc_38270444, kc_392531318, kc_425693491, kc_1342154595, kc_2147483648, kc_42328242873, kc_891704255789, kc_1722105685577, kc_1858726030364, ct_0, ct_1, ct_2, ct_3, ct_4, ct_5, cf_0, cf_1, cf_2, cf_3, cf_4, cf_5, w_ty6, w_ty7, m_sv, m_z0, m_hd, m_g0, m_gs, m_s0, m_ss, m_ap, m_an, forall_const, true_and, and_true, ne_eq, not_true_eq_false, not_false_eq_true, false_implies, true_implies, implies_true, eq_self, reduceCtorEq, Nat.reduceDiv, Nat.reduceMod, Int.reduceToNat, or_true, true_or, or_false, false_or, or_self, m_it, m_if, m_c1, m_01, m_02, m_03, m_04, m_10, m_12, m_13, m_14, m_20, m_21, m_23, m_24, m_30, m_31, m_32, m_34, m_40, m_41, m_42, m_43, Int.reduceLE, Int.reduceLT, Int.reduceGE, Int.reduceGT, Int.reduceNeg, Int.reduceAdd, Int.reduceSub, Int.reduceMul, Int.reduceEq, Int.reduceNe, Nat.reduceAdd, jun2, ro_0_0, ro_0_1, ro_0_2, ro_0_3, ro_0_4, ro_0_5, ro_0_6, ro_0_7, ro_0_8, ro_0_9, ro_0_10, ro_0_11, ro_0_12, ro_1_0, ro_1_1, ro_2_0, ro_4_0, ro_6_0, ro_6_1, ro_6_2, ro_6_3, ro_6_4, ro_6_5, ro_6_6, ro_6_7, ro_6_8, ro_8_0, ro_10_0, ro_12_0, ro_14_0, ro_16_0, ro_18_0, ro_20_0, ro_22_0, ro_22_1, ro_22_2, ro_23_0, ro_25_0, ro_27_0, ro_29_0, ro_29_1, ro_29_2, ro_29_3, ro_29_4, ro_29_5, ro_29_6, ro_29_7, ro_29_8, ro_31_0, ro_33_0, ro_35_0, ro_37_0, ro_39_0, ro_41_0, ro_43_0, ro_45_0, ro_45_1, ro_45_2, ro_46_0, ro_48_0, ro_50_0, ro_52_0, ro_52_1, ro_52_2, ro_52_3, ro_53_0, ro_55_0, ro_57_0, ro_59_0, ro_61_0, ro_61_1, ro_61_2, ro_61_3, ro_62_0, ro_64_0, ro_66_0, ro_68_0, ro_70_0, ro_70_1, ro_70_2, ro_70_3, ro_70_4, ro_70_5, ro_70_6, ro_70_7, ro_70_8, ro_70_9, ro_71_0, ro_73_0, ro_75_0, ro_77_0, ro_79_0, ro_81_0, ro_83_0, ro_85_0, ro_87_0, ro_89_0, ro_91_0, ro_91_1, ro_91_2, ro_91_3, ro_91_4, ro_91_5, ro_91_6, ro_91_7, ro_91_8, ro_91_9, ro_92_0, ro_94_0, ro_96_0, ro_98_0, ro_100_0, ro_102_0, ro_104_0, ro_106_0, ro_108_0, ro_110_0, ro_112_0, ro_112_1, ro_112_2, ro_112_3, ro_112_4, ro_112_5, ro_112_6, ro_112_7, ro_112_8, ro_112_9, ro_113_0, ro_115_0, ro_117_0, ro_119_0, ro_121_0, ro_123_0, ro_125_0, ro_127_0, ro_129_0, ro_131_0, ro_133_0, ro_133_1, ro_133_2, ro_133_3, ro_133_4, ro_133_5, ro_133_6, ro_133_7, ro_133_8, ro_133_9, ro_134_0, ro_136_0, ro_138_0, ro_140_0, ro_142_0, ro_144_0, ro_146_0, ro_148_0, ro_150_0, ro_152_0, ro_154_0, ro_155_0, ro_157_0, ro_157_1, ro_157_2, ro_157_3, ro_157_4, ro_157_5, ro_157_6, ro_157_7, ro_157_8, ro_157_9, ro_158_0, ro_160_0, ro_162_0, ro_164_0, ro_166_0, ro_168_0, ro_170_0, ro_172_0, ro_174_0, ro_176_0, ro_178_0, ro_180_0, ro_182_1, ro_182_4, ro_182_5, ro_182_6, ro_182_9, ro_182_10, ro_182_11, ro_182_13, ro_182_14, ro_182_15, ro_182_16, ro_182_17, ro_182_20, ro_182_21, ro_182_22, ro_182_23, ro_182_24, ro_182_26, ro_182_27, ro_182_28, lo_3, lo_5, lo_7, lo_9, lo_11, lo_13, lo_15, lo_17, lo_19, lo_21, lo_24, lo_26, lo_28, lo_30, lo_32, lo_34, lo_36, lo_38, lo_40, lo_42, lo_44, lo_47, lo_49, lo_51, lo_54, lo_56, lo_58, lo_60, lo_63, lo_65, lo_67, lo_69, lo_72, lo_74, lo_76, lo_78, lo_80, lo_82, lo_84, lo_86, lo_88, lo_90, lo_93, lo_95, lo_97, lo_99, lo_101, lo_103, lo_105, lo_107, lo_109, lo_111, lo_114, lo_116, lo_118, lo_120, lo_122, lo_124, lo_126, lo_128, lo_130, lo_132, lo_135, lo_137, lo_139, lo_141, lo_143, lo_145, lo_147, lo_149, lo_151, lo_153, lo_156, lo_159, lo_161, lo_163, lo_165, lo_167, lo_169, lo_171, lo_173, lo_175, lo_177, lo_179, lo_181, lo_183, lo_184, lo_185, lo_186, lo_187, lo_188, lo_189, lo_190, lo_191, lo_192, lo_193, lo_194, lo_195, lo_196, lo_197, lo_198, lo_199, lo_200, lo_201, lo_202, lo_203, jp_nn, jp_eq, jp_e1, Classical.not_not, ji0, ji1, ji2, cs77_54, kk_54, cs77_172, kk_172, jl_0, jl_1, jl_2, jl_3, jl_4, jl_5, jl_6, jl_7, jl_8, jl_9, jl_10, jl_11, jl_12, jl_13, jl_14, jl_15, jl_16, jl_17, jl_18, jl_19, jl_20, jl_21, jl_22, jl_23, jl_24, jl_25, jl_26, jl_27, jl_28, jl_29, jl_30, jl_31, jl_32, jl_33, jl_34, jl_35, jl_36, jl_37, jl_38, jl_39, jl_40, jl_95, jl_96, jl_97, jl_98, jl_99, jl_100, jl_101, jl_102, jl_103, jl_104, jl_105, jl_106, jl_107, jl_108, jl_109, jl_110, jl_111, jl_112, jl_113, jl_114, jl_186, jl_1100, jr, ju, jpT, jpF, tnc, Nat.reduceEqDiff, reduceIte, and_false, false_and, not_true_eq_false, not_false_eq_true, or_false, gt_iff_lt, ge_iff_le, Int.lt_irrefl, Int.le_refl, eU, y1, y2, r1_w, e6_w, eu]
        intros
        exact ⟨u + 1, rfl, by omega⟩
      · have y1 : ¬ (u : Int) < (nU D : Int) := by omega
        have y2 : (nU D : Int) ≤ (u : Int) := by omega
        have eu : u = nU D := by omega
        subst eu
        simp only [qe_1, qe_3, qe_4, qe_5, qe_7, qe_72, qe_10, qe_102, qe_13, qe_14, qe_15, qe_16, qe_17, qe_18, qe_20, qe_22, qe_23, qe_21, qe_24, qe_25, qe_26, qe_27, qe_28, qe_30, qe_31, qe_32, qc_20, qc_22, qc_23, qc_21, qc_24, qc_25, qc_26, qc_27, qc_1, qc_3, qc_4, qc_7, qc_13, qc_28, qc_32, qs_1, qs_2, qs_3, qs_4, qs_5, qs_6, qs_9, qs_10, qs_11, qs_14, qs_15, qs_16, qs_27, qs_17, qs_18, qs_19, qs_20, qs_22, qs_23, qs_28, qs_25, qs_26, qs_7, qs_8, kc_1, kn_1, kc_2, kn_2, kc_3, kn_3, kc_4, kn_4, kc_5, kn_5, kc_6, kn_6, kc_7, kn_7, kc_8, kn_8, kc_9, kn_9, kc_10, kn_10, kc_11, kn_11, kc_12, kn_12, kc_13, kn_13, kc_14, kn_14, kc_15, kn_15, kc_16, kc_17, kc_18, kc_19, kc_20, kc_21, kc_22, kc_23, kc_30, kc_32, kc_40, kc_43, kc_45, kc_48, kc_52, kc_56, kc_57, kc_59, kc_60, kc_61, kc_63, kc_64, kc_72, kc_78, kc_97, kc_99, kc_122, kc_126, kc_128, kc_192, kc_200, kc_255, kc_999, kc_1000, kc_9999, kn_9999, kc_10000, kc_12345, kc_65536, kc_252645135, kc_858993459, kc_1103515245, kc_1431655765, kc_2147483647, kc_0, kc_24, kc_28, kc_37, kc_41, kc_42, kc_73, kc_91, kc_95, kc_96, kc_98, kc_100, kc_112, kc_125, kc_150, kc_162, kc_163, kc_168, kc_186, kc_190, kc_250, kc_355, kc_356, kc_404, kc_405, kc_429, kc_573, kc_1002, kc_1100, kc_1891, kc_2200, kc_4719, kc_4869, kc_4881, kc_5148, kc_19741, kc_25433, kc_320403, kc_628412, kc_629093, kc_660401, kc_679843, kc_918640, kc_979410, kc_1178088, kc_6232410, kc_24644941, kc_36238189, kc_38270444, kc_392531318, kc_425693491, kc_1342154595, kc_2147483648, kc_42328242873, kc_891704255789, kc_1722105685577, kc_1858726030364, ct_0, ct_1, ct_2, ct_3, ct_4, ct_5, cf_0, cf_1, cf_2, cf_3, cf_4, cf_5, w_ty6, w_ty7, m_sv, m_z0, m_hd, m_g0, m_gs, m_s0, m_ss, m_ap, m_an, forall_const, true_and, and_true, ne_eq, not_true_eq_false, not_false_eq_true, false_implies, true_implies, implies_true, eq_self, reduceCtorEq, Nat.reduceDiv, Nat.reduceMod, Int.reduceToNat, or_true, true_or, or_false, false_or, or_self, m_it, m_if, m_c1, m_01, m_02, m_03, m_04, m_10, m_12, m_13, m_14, m_20, m_21, m_23, m_24, m_30, m_31, m_32, m_34, m_40, m_41, m_42, m_43, Int.reduceLE, Int.reduceLT, Int.reduceGE, Int.reduceGT, Int.reduceNeg, Int.reduceAdd, Int.reduceSub, Int.reduceMul, Int.reduceEq, Int.reduceNe, Nat.reduceAdd, jun2, ro_0_0, ro_0_1, ro_0_2, ro_0_3, ro_0_4, ro_0_5, ro_0_6, ro_0_7, ro_0_8, ro_0_9, ro_0_10, ro_0_11, ro_0_12, ro_1_0, ro_1_1, ro_2_0, ro_4_0, ro_6_0, ro_6_1, ro_6_2, ro_6_3, ro_6_4, ro_6_5, ro_6_6, ro_6_7, ro_6_8, ro_8_0, ro_10_0, ro_12_0, ro_14_0, ro_16_0, ro_18_0, ro_20_0, ro_22_0, ro_22_1, ro_22_2, ro_23_0, ro_25_0, ro_27_0, ro_29_0, ro_29_1, ro_29_2, ro_29_3, ro_29_4, ro_29_5, ro_29_6, ro_29_7, ro_29_8, ro_31_0, ro_33_0, ro_35_0, ro_37_0, ro_39_0, ro_41_0, ro_43_0, ro_45_0, ro_45_1, ro_45_2, ro_46_0, ro_48_0, ro_50_0, ro_52_0, ro_52_1, ro_52_2, ro_52_3, ro_53_0, ro_55_0, ro_57_0, ro_59_0, ro_61_0, ro_61_1, ro_61_2, ro_61_3, ro_62_0, ro_64_0, ro_66_0, ro_68_0, ro_70_0, ro_70_1, ro_70_2, ro_70_3, ro_70_4, ro_70_5, ro_70_6, ro_70_7, ro_70_8, ro_70_9, ro_71_0, ro_73_0, ro_75_0, ro_77_0, ro_79_0, ro_81_0, ro_83_0, ro_85_0, ro_87_0, ro_89_0, ro_91_0, ro_91_1, ro_91_2, ro_91_3, ro_91_4, ro_91_5, ro_91_6, ro_91_7, ro_91_8, ro_91_9, ro_92_0, ro_94_0, ro_96_0, ro_98_0, ro_100_0, ro_102_0, ro_104_0, ro_106_0, ro_108_0, ro_110_0, ro_112_0, ro_112_1, ro_112_2, ro_112_3, ro_112_4, ro_112_5, ro_112_6, ro_112_7, ro_112_8, ro_112_9, ro_113_0, ro_115_0, ro_117_0, ro_119_0, ro_121_0, ro_123_0, ro_125_0, ro_127_0, ro_129_0, ro_131_0, ro_133_0, ro_133_1, ro_133_2, ro_133_3, ro_133_4, ro_133_5, ro_133_6, ro_133_7, ro_133_8, ro_133_9, ro_134_0, ro_136_0, ro_138_0, ro_140_0, ro_142_0, ro_144_0, ro_146_0, ro_148_0, ro_150_0, ro_152_0, ro_154_0, ro_155_0, ro_157_0, ro_157_1, ro_157_2, ro_157_3, ro_157_4, ro_157_5, ro_157_6, ro_157_7, ro_157_8, ro_157_9, ro_158_0, ro_160_0, ro_162_0, ro_164_0, ro_166_0, ro_168_0, ro_170_0, ro_172_0, ro_174_0, ro_176_0, ro_178_0, ro_180_0, ro_182_1, ro_182_4, ro_182_5, ro_182_6, ro_182_9, ro_182_10, ro_182_11, ro_182_13, ro_182_14, ro_182_15, ro_182_16, ro_182_17, ro_182_20, ro_182_21, ro_182_22, ro_182_23, ro_182_24, ro_182_26, ro_182_27, ro_182_28, lo_3, lo_5, lo_7, lo_9, lo_11, lo_13, lo_15, lo_17, lo_19, lo_21, lo_24, lo_26, lo_28, lo_30, lo_32, lo_34, lo_36, lo_38, lo_40, lo_42, lo_44, lo_47, lo_49, lo_51, lo_54, lo_56, lo_58, lo_60, lo_63, lo_65, lo_67, lo_69, lo_72, lo_74, lo_76, lo_78, lo_80, lo_82, lo_84, lo_86, lo_88, lo_90, lo_93, lo_95, lo_97, lo_99, lo_101, lo_103, lo_105, lo_107, lo_109, lo_111, lo_114, lo_116, lo_118, lo_120, lo_122, lo_124, lo_126, lo_128, lo_130, lo_132, lo_135, lo_137, lo_139, lo_141, lo_143, lo_145, lo_147, lo_149, lo_151, lo_153, lo_156, lo_159, lo_161, lo_163, lo_165, lo_167, lo_169, lo_171, lo_173, lo_175, lo_177, lo_179, lo_181, lo_183, lo_184, lo_185, lo_186, lo_187, lo_188, lo_189, lo_190, lo_191, lo_192, lo_193, lo_194, lo_195, lo_196, lo_197, lo_198, lo_199, lo_200, lo_201, lo_202, lo_203, jp_nn, jp_eq, jp_e1, Classical.not_not, ji0, ji1, ji2, cs77_54, kk_54, cs77_172, kk_172, jl_0, jl_1, jl_2, jl_3, jl_4, jl_5, jl_6, jl_7, jl_8, jl_9, jl_10, jl_11, jl_12, jl_13, jl_14, jl_15, jl_16, jl_17, jl_18, jl_19, jl_20, jl_21, jl_22, jl_23, jl_24, jl_25, jl_26, jl_27, jl_28, jl_29, jl_30, jl_31, jl_32, jl_33, jl_34, jl_35, jl_36, jl_37, jl_38, jl_39, jl_40, jl_95, jl_96, jl_97, jl_98, jl_99, jl_100, jl_101, jl_102, jl_103, jl_104, jl_105, jl_106, jl_107, jl_108, jl_109, jl_110, jl_111, jl_112, jl_113, jl_114, jl_186, jl_1100, jr, ju, jpT, jpF, tnc, Nat.reduceEqDiff, reduceIte, and_false, false_and, not_true_eq_false, not_false_eq_true, or_false, gt_iff_lt, ge_iff_le, Int.lt_irrefl, Int.le_refl, eU, y1, y2]
        exact hQ h2 f1_w
  · exact hQ.elim
theorem m_285c : BodyOK CS77 CS77 285 := fun av h Q hQ => by
  rw [cs77_285] at hQ
  unfold k285c at hQ
  split at hQ
  · rename_i t b s
    obtain ⟨rfl, D, bn, sn, w, rf, lw, rfl, hb_w, rfl, hs, ra, hQ⟩ := hQ
    obtain ⟨c4, u4_w, m6_w, s12, eD⟩ := w.cn
    have nwk : ∀ p, 182 ≤ p → p ≤ 195 → p ≠ 192 → p ≠ 193 → ¬ wkW p := fun p a b c d z => by
      unfold wkW at z
      omega
    have ea : j32 (j32 ((bn : Int) + 150) + (sn : Int)) = ((bn + (150 + sn) : Nat) : Int) := by
      rw [jcn (x := (bn : Int) + 150) (n := bn + 150) (by omega) (by omega)]
      exact jcn (by omega) (by omega)
    show pS CS77 bb_285 [182, (bn : Int), (sn : Int), 0, 0] h _
    unfold bb_285
    simp only [qe_1, qe_3, qe_4, qe_5, qe_7, qe_72, qe_10, qe_102, qe_13, qe_14, qe_15, qe_16, qe_17, qe_18, qe_20, qe_22, qe_23, qe_21, qe_24, qe_25, qe_26, qe_27, qe_28, qe_30, qe_31, qe_32, qc_20, qc_22, qc_23, qc_21, qc_24, qc_25, qc_26, qc_27, qc_1, qc_3, qc_4, qc_7, qc_13, qc_28, qc_32, qs_1, qs_2, qs_3, qs_4, qs_5, qs_6, qs_9, qs_10, qs_11, qs_14, qs_15, qs_16, qs_27, qs_17, qs_18, qs_19, qs_20, qs_22, qs_23, qs_28, qs_25, qs_26, qs_7, qs_8, kc_1, kn_1, kc_2, kn_2, kc_3, kn_3, kc_4, kn_4, kc_5, kn_5, kc_6, kn_6, kc_7, kn_7, kc_8, kn_8, kc_9, kn_9, kc_10, kn_10, kc_11, kn_11, kc_12, kn_12, kc_13, kn_13, kc_14, kn_14, kc_15, kn_15, kc_16, kc_17, kc_18, kc_19, kc_20, kc_21, kc_22, kc_23, kc_30, kc_32, kc_40, kc_43, kc_45, kc_48, kc_52, kc_56, kc_57, kc_59, kc_60, kc_61, kc_63, kc_64, kc_72, kc_78, kc_97, kc_99, kc_122, kc_126, kc_128, kc_192, kc_200, kc_255, kc_999, kc_1000, kc_9999, kn_9999, kc_10000, kc_12345, kc_65536, kc_252645135, kc_858993459, kc_1103515245, kc_1431655765, kc_2147483647, kc_0, kc_24, kc_28, kc_37, kc_41, kc_42, kc_73, kc_91, kc_95, kc_96, kc_98, kc_100, kc_112, kc_125, kc_150, kc_162, kc_163, kc_168, kc_186, kc_190, kc_250, kc_355, kc_356, kc_404, kc_405, kc_429, kc_573, kc_1002, kc_1100, kc_1891, kc_2200, kc_4719, kc_4869, kc_4881, kc_5148, kc_19741, kc_25433, kc_320403, kc_628412, kc_629093, kc_660401, kc_679843, kc_918640, kc_979410, kc_1178088, kc_6232410, kc_24644941, kc_36238189, kc_38270444, kc_392531318, kc_425693491, kc_1342154595, kc_2147483648, kc_42328242873, kc_891704255789, kc_1722105685577, kc_1858726030364, ct_0, ct_1, ct_2, ct_3, ct_4, ct_5, cf_0, cf_1, cf_2, cf_3, cf_4, cf_5, w_ty6, w_ty7, m_sv, m_z0, m_hd, m_g0, m_gs, m_s0, m_ss, m_ap, m_an, forall_const, true_and, and_true, ne_eq, not_true_eq_false, not_false_eq_true, false_implies, true_implies, implies_true, eq_self, reduceCtorEq, Nat.reduceDiv, Nat.reduceMod, Int.reduceToNat, or_true, true_or, or_false, false_or, or_self, m_it, m_if, m_c1, m_01, m_02, m_03, m_04, m_10, m_12, m_13, m_14, m_20, m_21, m_23, m_24, m_30, m_31, m_32, m_34, m_40, m_41, m_42, m_43, Int.reduceLE, Int.reduceLT, Int.reduceGE, Int.reduceGT, Int.reduceNeg, Int.reduceAdd, Int.reduceSub, Int.reduceMul, Int.reduceEq, Int.reduceNe, Nat.reduceAdd, jun2, ro_0_0, ro_0_1, ro_0_2, ro_0_3, ro_0_4, ro_0_5, ro_0_6, ro_0_7, ro_0_8, ro_0_9, ro_0_10, ro_0_11, ro_0_12, ro_1_0, ro_1_1, ro_2_0, ro_4_0, ro_6_0, ro_6_1, ro_6_2, ro_6_3, ro_6_4, ro_6_5, ro_6_6, ro_6_7, ro_6_8, ro_8_0, ro_10_0, ro_12_0, ro_14_0, ro_16_0, ro_18_0, ro_20_0, ro_22_0, ro_22_1, ro_22_2, ro_23_0, ro_25_0, ro_27_0, ro_29_0, ro_29_1, ro_29_2, ro_29_3, ro_29_4, ro_29_5, ro_29_6, ro_29_7, ro_29_8, ro_31_0, ro_33_0, ro_35_0, ro_37_0, ro_39_0, ro_41_0, ro_43_0, ro_45_0, ro_45_1, ro_45_2, ro_46_0, ro_48_0, ro_50_0, ro_52_0, ro_52_1, ro_52_2, ro_52_3, ro_53_0, ro_55_0, ro_57_0, ro_59_0, ro_61_0, ro_61_1, ro_61_2, ro_61_3, ro_62_0, ro_64_0, ro_66_0, ro_68_0, ro_70_0, ro_70_1, ro_70_2, ro_70_3, ro_70_4, ro_70_5, ro_70_6, ro_70_7, ro_70_8, ro_70_9, ro_71_0, ro_73_0, ro_75_0, ro_77_0, ro_79_0, ro_81_0, ro_83_0, ro_85_0, ro_87_0, ro_89_0, ro_91_0, ro_91_1, ro_91_2, ro_91_3, ro_91_4, ro_91_5, ro_91_6, ro_91_7, ro_91_8, ro_91_9, ro_92_0, ro_94_0, ro_96_0, ro_98_0, ro_100_0, ro_102_0, ro_104_0, ro_106_0, ro_108_0, ro_110_0, ro_112_0, ro_112_1, ro_112_2, ro_112_3, ro_112_4, ro_112_5, ro_112_6, ro_112_7, ro_112_8, ro_112_9, ro_113_0, ro_115_0, ro_117_0, ro_119_0, ro_121_0, ro_123_0, ro_125_0, ro_127_0, ro_129_0, ro_131_0, ro_133_0, ro_133_1, ro_133_2, ro_133_3, ro_133_4, ro_133_5, ro_133_6, ro_133_7, ro_133_8, ro_133_9, ro_134_0, ro_136_0, ro_138_0, ro_140_0, ro_142_0, ro_144_0, ro_146_0, ro_148_0, ro_150_0, ro_152_0, ro_154_0, ro_155_0, ro_157_0, ro_157_1, ro_157_2, ro_157_3, ro_157_4, ro_157_5, ro_157_6, ro_157_7, ro_157_8, ro_157_9, ro_158_0, ro_160_0, ro_162_0, ro_164_0, ro_166_0, ro_168_0, ro_170_0, ro_172_0, ro_174_0, ro_176_0, ro_178_0, ro_180_0, ro_182_1, ro_182_4, ro_182_5, ro_182_6, ro_182_9, ro_182_10, ro_182_11, ro_182_13, ro_182_14, ro_182_15, ro_182_16, ro_182_17, ro_182_20, ro_182_21, ro_182_22, ro_182_23, ro_182_24, ro_182_26, ro_182_27, ro_182_28, lo_3, lo_5, lo_7, lo_9, lo_11, lo_13, lo_15, lo_17, lo_19, lo_21, lo_24, lo_26, lo_28, lo_30, lo_32, lo_34, lo_36, lo_38, lo_40, lo_42, lo_44, lo_47, lo_49, lo_51, lo_54, lo_56, lo_58, lo_60, lo_63, lo_65, lo_67, lo_69, lo_72, lo_74, lo_76, lo_78, lo_80, lo_82, lo_84, lo_86, lo_88, lo_90, lo_93, lo_95, lo_97, lo_99, lo_101, lo_103, lo_105, lo_107, lo_109, lo_111, lo_114, lo_116, lo_118, lo_120, lo_122, lo_124, lo_126, lo_128, lo_130, lo_132, lo_135, lo_137, lo_139, lo_141, lo_143, lo_145, lo_147, lo_149, lo_151, lo_153, lo_156, lo_159, lo_161, lo_163, lo_165, lo_167, lo_169, lo_171, lo_173, lo_175, lo_177, lo_179, lo_181, lo_183, lo_184, lo_185, lo_186, lo_187, lo_188, lo_189, lo_190, lo_191, lo_192, lo_193, lo_194, lo_195, lo_196, lo_197, lo_198, lo_199, lo_200, lo_201, lo_202, lo_203, jp_nn, jp_eq, jp_e1, Classical.not_not, ji0, ji1, ji2, cs77_228, kk_228, cs77_254, kk_254, jl_0, jl_1, jl_2, jl_3, jl_4, jl_5, jl_6, jl_7, jl_8, jl_9, jl_10, jl_11, jl_12, jl_13, jl_14, jl_15, jl_16, jl_17, jl_18, jl_19, jl_20, jl_21, jl_22, jl_23, jl_24, jl_25, jl_26, jl_27, jl_28, jl_29, jl_30, jl_31, jl_32, jl_33, jl_34, jl_35, jl_36, jl_37, jl_38, jl_39, jl_40, jl_95, jl_96, jl_97, jl_98, jl_99, jl_100, jl_101, jl_102, jl_103, jl_104, jl_105, jl_106, jl_107, jl_108, jl_109, jl_110, jl_111, jl_112, jl_113, jl_114, jl_186, jl_1100, jr, ju, jpT, jpF, tnc, Nat.reduceEqDiff, reduceIte, and_false, false_and, not_true_eq_false, not_false_eq_true, or_false, gt_iff_lt, ge_iff_le, Int.lt_irrefl, Int.le_refl, ea]
    refine ⟨D, bn, sn, w, rf, lw, rfl, hb_w, rfl, hs, ra, fun h1 f1_w g1 => ?_⟩
    have c1_w : h1 194 (bn + (150 + sn)) = bl bn h (150 + sn) := f1_w 194 _ (nwk _ (by decide) (by decide) (by decide) (by decide)) (by omega)
    have eM_w : h1 188 3 = (nM D : Int) := (f1_w 188 3 (nwk _ (by decide) (by decide) (by decide) (by decide)) (by omega)).trans rf.ix.1.2.2.1
    simp only [qe_1, qe_3, qe_4, qe_5, qe_7, qe_72, qe_10, qe_102, qe_13, qe_14, qe_15, qe_16, qe_17, qe_18, qe_20, qe_22, qe_23, qe_21, qe_24, qe_25, qe_26, qe_27, qe_28, qe_30, qe_31, qe_32, qc_20, qc_22, qc_23, qc_21, qc_24, qc_25, qc_26, qc_27, qc_1, qc_3, qc_4, qc_7, qc_13, qc_28, qc_32, qs_1, qs_2, qs_3, qs_4, qs_5, qs_6, qs_9, qs_10, qs_11, qs_14, qs_15, qs_16, qs_27, qs_17, qs_18, qs_19, qs_20, qs_22, qs_23, qs_28, qs_25, qs_26, qs_7, qs_8, kc_1, kn_1, kc_2, kn_2, kc_3, kn_3, kc_4, kn_4, kc_5, kn_5, kc_6, kn_6, kc_7, kn_7, kc_8, kn_8, kc_9, kn_9, kc_10, kn_10, kc_11, kn_11, kc_12, kn_12, kc_13, kn_13, kc_14, kn_14, kc_15, kn_15, kc_16, kc_17, kc_18, kc_19, kc_20, kc_21, kc_22, kc_23, kc_30, kc_32, kc_40, kc_43, kc_45, kc_48, kc_52, kc_56, kc_57, kc_59, kc_60, kc_61, kc_63, kc_64, kc_72, kc_78, kc_97, kc_99, kc_122, kc_126, kc_128, kc_192, kc_200, kc_255, kc_999, kc_1000, kc_9999, kn_9999, kc_10000, kc_12345, kc_65536, kc_252645135, kc_858993459, kc_1103515245, kc_1431655765, kc_2147483647, kc_0, kc_24, kc_28, kc_37, kc_41, kc_42, kc_73, kc_91, kc_95, kc_96, kc_98, kc_100, kc_112, kc_125, kc_150, kc_162, kc_163, kc_168, kc_186, kc_190, kc_250, kc_355, kc_356, kc_404, kc_405, kc_429, kc_573, kc_1002, kc_1100, kc_1891, kc_2200, kc_4719, kc_4869, kc_4881, kc_5148, kc_19741, kc_25433, kc_320403, kc_628412, kc_629093, kc_660401, kc_679843, kc_918640, kc_979410, kc_1178088, kc_6232410, kc_24644941, kc_36238189, kc_38270444, kc_392531318, kc_425693491, kc_1342154595, kc_2147483648, kc_42328242873, kc_891704255789, kc_1722105685577, kc_1858726030364, ct_0, ct_1, ct_2, ct_3, ct_4, ct_5, cf_0, cf_1, cf_2, cf_3, cf_4, cf_5, w_ty6, w_ty7, m_sv, m_z0, m_hd, m_g0, m_gs, m_s0, m_ss, m_ap, m_an, forall_const, true_and, and_true, ne_eq, not_true_eq_false, not_false_eq_true, false_implies, true_implies, implies_true, eq_self, reduceCtorEq, Nat.reduceDiv, Nat.reduceMod, Int.reduceToNat, or_true, true_or, or_false, false_or, or_self, m_it, m_if, m_c1, m_01, m_02, m_03, m_04, m_10, m_12, m_13, m_14, m_20, m_21, m_23, m_24, m_30, m_31, m_32, m_34, m_40, m_41, m_42, m_43, Int.reduceLE, Int.reduceLT, Int.reduceGE, Int.reduceGT, Int.reduceNeg, Int.reduceAdd, Int.reduceSub, Int.reduceMul, Int.reduceEq, Int.reduceNe, Nat.reduceAdd, jun2, ro_0_0, ro_0_1, ro_0_2, ro_0_3, ro_0_4, ro_0_5, ro_0_6, ro_0_7, ro_0_8, ro_0_9, ro_0_10, ro_0_11, ro_0_12, ro_1_0, ro_1_1, ro_2_0, ro_4_0, ro_6_0, ro_6_1, ro_6_2, ro_6_3, ro_6_4, ro_6_5, ro_6_6, ro_6_7, ro_6_8, ro_8_0, ro_10_0, ro_12_0, ro_14_0, ro_16_0, ro_18_0, ro_20_0, ro_22_0, ro_22_1, ro_22_2, ro_23_0, ro_25_0, ro_27_0, ro_29_0, ro_29_1, ro_29_2, ro_29_3, ro_29_4, ro_29_5, ro_29_6, ro_29_7, ro_29_8, ro_31_0, ro_33_0, ro_35_0, ro_37_0, ro_39_0, ro_41_0, ro_43_0, ro_45_0, ro_45_1, ro_45_2, ro_46_0, ro_48_0, ro_50_0, ro_52_0, ro_52_1, ro_52_2, ro_52_3, ro_53_0, ro_55_0, ro_57_0, ro_59_0, ro_61_0, ro_61_1, ro_61_2, ro_61_3, ro_62_0, ro_64_0, ro_66_0, ro_68_0, ro_70_0, ro_70_1, ro_70_2, ro_70_3, ro_70_4, ro_70_5, ro_70_6, ro_70_7, ro_70_8, ro_70_9, ro_71_0, ro_73_0, ro_75_0, ro_77_0, ro_79_0, ro_81_0, ro_83_0, ro_85_0, ro_87_0, ro_89_0, ro_91_0, ro_91_1, ro_91_2, ro_91_3, ro_91_4, ro_91_5, ro_91_6, ro_91_7, ro_91_8, ro_91_9, ro_92_0, ro_94_0, ro_96_0, ro_98_0, ro_100_0, ro_102_0, ro_104_0, ro_106_0, ro_108_0, ro_110_0, ro_112_0, ro_112_1, ro_112_2, ro_112_3, ro_112_4, ro_112_5, ro_112_6, ro_112_7, ro_112_8, ro_112_9, ro_113_0, ro_115_0, ro_117_0, ro_119_0, ro_121_0, ro_123_0, ro_125_0, ro_127_0, ro_129_0, ro_131_0, ro_133_0, ro_133_1, ro_133_2, ro_133_3, ro_133_4, ro_133_5, ro_133_6, ro_133_7, ro_133_8, ro_133_9, ro_134_0, ro_136_0, ro_138_0, ro_140_0, ro_142_0, ro_144_0, ro_146_0, ro_148_0, ro_150_0, ro_152_0, ro_154_0, ro_155_0, ro_157_0, ro_157_1, ro_157_2, ro_157_3, ro_157_4, ro_157_5, ro_157_6, ro_157_7, ro_157_8, ro_157_9, ro_158_0, ro_160_0, ro_162_0, ro_164_0, ro_166_0, ro_168_0, ro_170_0, ro_172_0, ro_174_0, ro_176_0, ro_178_0, ro_180_0, ro_182_1, ro_182_4, ro_182_5, ro_182_6, ro_182_9, ro_182_10, ro_182_11, ro_182_13, ro_182_14, ro_182_15, ro_182_16, ro_182_17, ro_182_20, ro_182_21, ro_182_22, ro_182_23, ro_182_24, ro_182_26, ro_182_27, ro_182_28, lo_3, lo_5, lo_7, lo_9, lo_11, lo_13, lo_15, lo_17, lo_19, lo_21, lo_24, lo_26, lo_28, lo_30, lo_32, lo_34, lo_36, lo_38, lo_40, lo_42, lo_44, lo_47, lo_49, lo_51, lo_54, lo_56, lo_58, lo_60, lo_63, lo_65, lo_67, lo_69, lo_72, lo_74, lo_76, lo_78, lo_80, lo_82, lo_84, lo_86, lo_88, lo_90, lo_93, lo_95, lo_97, lo_99, lo_101, lo_103, lo_105, lo_107, lo_109, lo_111, lo_114, lo_116, lo_118, lo_120, lo_122, lo_124, lo_126, lo_128, lo_130, lo_132, lo_135, lo_137, lo_139, lo_141, lo_143, lo_145, lo_147, lo_149, lo_151, lo_153, lo_156, lo_159, lo_161, lo_163, lo_165, lo_167, lo_169, lo_171, lo_173, lo_175, lo_177, lo_179, lo_181, lo_183, lo_184, lo_185, lo_186, lo_187, lo_188, lo_189, lo_190, lo_191, lo_192, lo_193, lo_194, lo_195, lo_196, lo_197, lo_198, lo_199, lo_200, lo_201, lo_202, lo_203, jp_nn, jp_eq, jp_e1, Classical.not_not, ji0, ji1, ji2, cs77_228, kk_228, cs77_254, kk_254, jl_0, jl_1, jl_2, jl_3, jl_4, jl_5, jl_6, jl_7, jl_8, jl_9, jl_10, jl_11, jl_12, jl_13, jl_14, jl_15, jl_16, jl_17, jl_18, jl_19, jl_20, jl_21, jl_22, jl_23, jl_24, jl_25, jl_26, jl_27, jl_28, jl_29, jl_30, jl_31, jl_32, jl_33, jl_34, jl_35, jl_36, jl_37, jl_38, jl_39, jl_40, jl_95, jl_96, jl_97, jl_98, jl_99, jl_100, jl_101, jl_102, jl_103, jl_104, jl_105, jl_106, jl_107, jl_108, jl_109, jl_110, jl_111, jl_112, jl_113, jl_114, jl_186, jl_1100, jr, ju, jpT, jpF, tnc, Nat.reduceEqDiff, reduceIte, and_false, false_and, not_true_eq_false, not_false_eq_true, or_false, gt_iff_lt, ge_iff_le, Int.lt_irrefl, Int.le_refl, ea, c1_w]
    intros
    refine qp_lp (fun en h' => ∃ m : Nat, en = [182, (bn : Int), (sn : Int), bl bn h (150 + sn) - sumN (netA D (bl bn h) sn) m, (m : Int)] ∧ m ≤ nM D ∧ h' = h1) ⟨0, by rw [show sumN (netA D (bl bn h) sn) 0 = 0 from rfl, Int.sub_zero]; rfl, Nat.zero_le _, rfl⟩ ?_
    intro en h2 ⟨m, e5_w, z1, z2⟩
    subst e5_w
    subst z2
    by_cases y : m < nM D
    · have y1 : (m : Int) < (nM D : Int) := by omega
      have y2 : ¬ (nM D : Int) ≤ (m : Int) := by omega
      have em := jk1 (k := m) (by omega)
      have v1_w : h2 197 m = netA D (bl bn h) sn m := (g1.1 m y).2
      have NB := netA_b w ra hs y
      have B := nets_b (n := m) w ra hs (by omega)
      have F := ra.2.2 (150 + sn) (by omega) (by omega)
      have e6_w : j32 (bl bn h (150 + sn) - sumN (netA D (bl bn h) sn) m - netA D (bl bn h) sn m) = bl bn h (150 + sn) - sumN (netA D (bl bn h) sn) (m + 1) := by
        rw [show sumN (netA D (bl bn h) sn) (m + 1) = sumN (netA D (bl bn h) sn) m + netA D (bl bn h) sn m from rfl, j32_id (by omega) (by omega)]
        omega
      simp only [qe_1, qe_3, qe_4, qe_5, qe_7, qe_72, qe_10, qe_102, qe_13, qe_14, qe_15, qe_16, qe_17, qe_18, qe_20, qe_22, qe_23, qe_21, qe_24, qe_25, qe_26, qe_27, qe_28, qe_30, qe_31, qe_32, qc_20, qc_22, qc_23, qc_21, qc_24, qc_25, qc_26, qc_27, qc_1, qc_3, qc_4, qc_7, qc_13, qc_28, qc_32, qs_1, qs_2, qs_3, qs_4, qs_5, qs_6, qs_9, qs_10, qs_11, qs_14, qs_15, qs_16, qs_27, qs_17, qs_18, qs_19, qs_20, qs_22, qs_23, qs_28, qs_25, qs_26, qs_7, qs_8, kc_1, kn_1, kc_2, kn_2, kc_3, kn_3, kc_4, kn_4, kc_5, kn_5, kc_6, kn_6, kc_7, kn_7, kc_8, kn_8, kc_9, kn_9, kc_10, kn_10, kc_11, kn_11, kc_12, kn_12, kc_13, kn_13, kc_14, kn_14, kc_15, kn_15, kc_16, kc_17, kc_18, kc_19, kc_20, kc_21, kc_22, kc_23, kc_30, kc_32, kc_40, kc_43, kc_45, kc_48, kc_52, kc_56, kc_57, kc_59, kc_60, kc_61, kc_63, kc_64, kc_72, kc_78, kc_97, kc_99, kc_122, kc_126, kc_128, kc_192, kc_200, kc_255, kc_999, kc_1000, kc_9999, kn_9999, kc_10000, kc_12345, kc_65536, kc_252645135, kc_858993459, kc_1103515245, kc_1431655765, kc_2147483647, kc_0, kc_24, kc_28, kc_37, kc_41, kc_42, kc_73, kc_91, kc_95, kc_96, kc_98, kc_100, kc_112, kc_125, kc_150, kc_162, kc_163, kc_168, kc_186, kc_190, kc_250, kc_355, kc_356, kc_404, kc_405, kc_429, kc_573, kc_1002, kc_1100, kc_1891, kc_2200, kc_4719, kc_4869, kc_4881, kc_5148, kc_19741, kc_25433, kc_320403, kc_628412, kc_629093, kc_660401, kc_679843, kc_918640, kc_979410, kc_1178088, kc_6232410, kc_24644941, kc_36238189, kc_38270444, kc_392531318, kc_425693491, kc_1342154595, kc_2147483648, kc_42328242873, kc_891704255789, kc_1722105685577, kc_1858726030364, ct_0, ct_1, ct_2, ct_3, ct_4, ct_5, cf_0, cf_1, cf_2, cf_3, cf_4, cf_5, w_ty6, w_ty7, m_sv, m_z0, m_hd, m_g0, m_gs, m_s0, m_ss, m_ap, m_an, forall_const, true_and, and_true, ne_eq, not_true_eq_false, not_false_eq_true, false_implies, true_implies, implies_true, eq_self, reduceCtorEq, Nat.reduceDiv, Nat.reduceMod, Int.reduceToNat, or_true, true_or, or_false, false_or, or_self, m_it, m_if, m_c1, m_01, m_02, m_03, m_04, m_10, m_12, m_13, m_14, m_20, m_21, m_23, m_24, m_30, m_31, m_32, m_34, m_40, m_41, m_42, m_43, Int.reduceLE, Int.reduceLT, Int.reduceGE, Int.reduceGT, Int.reduceNeg, Int.reduceAdd, Int.reduceSub, Int.reduceMul, Int.reduceEq, Int.reduceNe, Nat.reduceAdd, jun2, ro_0_0, ro_0_1, ro_0_2, ro_0_3, ro_0_4, ro_0_5, ro_0_6, ro_0_7, ro_0_8, ro_0_9, ro_0_10, ro_0_11, ro_0_12, ro_1_0, ro_1_1, ro_2_0, ro_4_0, ro_6_0, ro_6_1, ro_6_2, ro_6_3, ro_6_4, ro_6_5, ro_6_6, ro_6_7, ro_6_8, ro_8_0, ro_10_0, ro_12_0, ro_14_0, ro_16_0, ro_18_0, ro_20_0, ro_22_0, ro_22_1, ro_22_2, ro_23_0, ro_25_0, ro_27_0, ro_29_0, ro_29_1, ro_29_2, ro_29_3, ro_29_4, ro_29_5, ro_29_6, ro_29_7, ro_29_8, ro_31_0, ro_33_0, ro_35_0, ro_37_0, ro_39_0, ro_41_0, ro_43_0, ro_45_0, ro_45_1, ro_45_2, ro_46_0, ro_48_0, ro_50_0, ro_52_0, ro_52_1, ro_52_2, ro_52_3, ro_53_0, ro_55_0, ro_57_0, ro_59_0, ro_61_0, ro_61_1, ro_61_2, ro_61_3, ro_62_0, ro_64_0, ro_66_0, ro_68_0, ro_70_0, ro_70_1, ro_70_2, ro_70_3, ro_70_4, ro_70_5, ro_70_6, ro_70_7, ro_70_8, ro_70_9, ro_71_0, ro_73_0, ro_75_0, ro_77_0, ro_79_0, ro_81_0, ro_83_0, ro_85_0, ro_87_0, ro_89_0, ro_91_0, ro_91_1, ro_91_2, ro_91_3, ro_91_4, ro_91_5, ro_91_6, ro_91_7, ro_91_8, ro_91_9, ro_92_0, ro_94_0, ro_96_0, ro_98_0, ro_100_0, ro_102_0, ro_104_0, ro_106_0, ro_108_0, ro_110_0, ro_112_0, ro_112_1, ro_112_2, ro_112_3, ro_112_4, ro_112_5, ro_112_6, ro_112_7, ro_112_8, ro_112_9, ro_113_0, ro_115_0, ro_117_0, ro_119_0, ro_121_0, ro_123_0, ro_125_0, ro_127_0, ro_129_0, ro_131_0, ro_133_0, ro_133_1, ro_133_2, ro_133_3, ro_133_4, ro_133_5, ro_133_6, ro_133_7, ro_133_8, ro_133_9, ro_134_0, ro_136_0, ro_138_0, ro_140_0, ro_142_0, ro_144_0, ro_146_0, ro_148_0, ro_150_0, ro_152_0, ro_154_0, ro_155_0, ro_157_0, ro_157_1, ro_157_2, ro_157_3, ro_157_4, ro_157_5, ro_157_6, ro_157_7, ro_157_8, ro_157_9, ro_158_0, ro_160_0, ro_162_0, ro_164_0, ro_166_0, ro_168_0, ro_170_0, ro_172_0, ro_174_0, ro_176_0, ro_178_0, ro_180_0, ro_182_1, ro_182_4, ro_182_5, ro_182_6, ro_182_9, ro_182_10, ro_182_11, ro_182_13, ro_182_14, ro_182_15, ro_182_16, ro_182_17, ro_182_20, ro_182_21, ro_182_22, ro_182_23, ro_182_24, ro_182_26, ro_182_27, ro_182_28, lo_3, lo_5, lo_7, lo_9, lo_11, lo_13, lo_15, lo_17, lo_19, lo_21, lo_24, lo_26, lo_28, lo_30, lo_32, lo_34, lo_36, lo_38, lo_40, lo_42, lo_44, lo_47, lo_49, lo_51, lo_54, lo_56, lo_58, lo_60, lo_63, lo_65, lo_67, lo_69, lo_72, lo_74, lo_76, lo_78, lo_80, lo_82, lo_84, lo_86, lo_88, lo_90, lo_93, lo_95, lo_97, lo_99, lo_101, lo_103, lo_105, lo_107, lo_109, lo_111, lo_114, lo_116, lo_118, lo_120, lo_122, lo_124, lo_126, lo_128, lo_130, lo_132, lo_135, lo_137, lo_139, lo_141, lo_143, lo_145, lo_147, lo_149, lo_151, lo_153, lo_156, lo_159, lo_161, lo_163, lo_165, lo_167, lo_169, lo_171, lo_173, lo_175, lo_177, lo_179, lo_181, lo_183, lo_184, lo_185, lo_186, lo_187, lo_188, lo_189, lo_190, lo_191, lo_192, lo_193, lo_194, lo_195, lo_196, lo_197, lo_198, lo_199, lo_200, lo_201, lo_202, lo_203, jp_nn, jp_eq, jp_e1, Classical.not_not, ji0, ji1, ji2, cs77_228, kk_228, cs77_254, kk_254, jl_0, jl_1, jl_2, jl_3, jl_4, jl_5, jl_6, jl_7, jl_8, jl_9, jl_10, jl_11, jl_12, jl_13, jl_14, jl_15, jl_16, jl_17, jl_18, jl_19, jl_20, jl_21, jl_22, jl_23, jl_24, jl_25, jl_26, jl_27, jl_28, jl_29, jl_30, jl_31, jl_32, jl_33, jl_34, jl_35, jl_36, jl_37, jl_38, jl_39, jl_40, jl_95, jl_96, jl_97, jl_98, jl_99, jl_100, jl_101, jl_102, jl_103, jl_104, jl_105, jl_106, jl_107, jl_108, jl_109, jl_110, jl_111, jl_112, jl_113, jl_114, jl_186, jl_1100, jr, ju, jpT, jpF, tnc, Nat.reduceEqDiff, reduceIte, and_false, false_and, not_true_eq_false, not_false_eq_true, or_false, gt_iff_lt, ge_iff_le, Int.lt_irrefl, Int.le_refl, eM_w, y1, y2, v1_w, e6_w, em]
      intros
      exact ⟨m + 1, rfl, by omega⟩
    · have y1 : ¬ (m : Int) < (nM D : Int) := by omega
      have y2 : (nM D : Int) ≤ (m : Int) := by omega
      have em : m = nM D := by omega
      subst em
      simp only [qe_1, qe_3, qe_4, qe_5, qe_7, qe_72, qe_10, qe_102, qe_13, qe_14, qe_15, qe_16, qe_17, qe_18, qe_20, qe_22, qe_23, qe_21, qe_24, qe_25, qe_26, qe_27, qe_28, qe_30, qe_31, qe_32, qc_20, qc_22, qc_23, qc_21, qc_24, qc_25, qc_26, qc_27, qc_1, qc_3, qc_4, qc_7, qc_13, qc_28, qc_32, qs_1, qs_2, qs_3, qs_4, qs_5, qs_6, qs_9, qs_10, qs_11, qs_14, qs_15, qs_16, qs_27, qs_17, qs_18, qs_19, qs_20, qs_22, qs_23, qs_28, qs_25, qs_26, qs_7, qs_8, kc_1, kn_1, kc_2, kn_2, kc_3, kn_3, kc_4, kn_4, kc_5, kn_5, kc_6, kn_6, kc_7, kn_7, kc_8, kn_8, kc_9, kn_9, kc_10, kn_10, kc_11, kn_11, kc_12, kn_12, kc_13, kn_13, kc_14, kn_14, kc_15, kn_15, kc_16, kc_17, kc_18, kc_19, kc_20, kc_21, kc_22, kc_23, kc_30, kc_32, kc_40, kc_43, kc_45, kc_48, kc_52, kc_56, kc_57, kc_59, kc_60, kc_61, kc_63, kc_64, kc_72, kc_78, kc_97, kc_99, kc_122, kc_126, kc_128, kc_192, kc_200, kc_255, kc_999, kc_1000, kc_9999, kn_9999, kc_10000, kc_12345, kc_65536, kc_252645135, kc_858993459, kc_1103515245, kc_1431655765, kc_2147483647, kc_0, kc_24, kc_28, kc_37, kc_41, kc_42, kc_73, kc_91, kc_95, kc_96, kc_98, kc_100, kc_112, kc_125, kc_150, kc_162, kc_163, kc_168, kc_186, kc_190, kc_250, kc_355, kc_356, kc_404, kc_405, kc_429, kc_573, kc_1002, kc_1100, kc_1891, kc_2200, kc_4719, kc_4869, kc_4881, kc_5148, kc_19741, kc_25433, kc_320403, kc_628412, kc_629093, kc_660401, kc_679843, kc_918640, kc_979410, kc_1178088, kc_6232410, kc_24644941, kc_36238189, kc_38270444, kc_392531318, kc_425693491, kc_1342154595, kc_2147483648, kc_42328242873, kc_891704255789, kc_1722105685577, kc_1858726030364, ct_0, ct_1, ct_2, ct_3, ct_4, ct_5, cf_0, cf_1, cf_2, cf_3, cf_4, cf_5, w_ty6, w_ty7, m_sv, m_z0, m_hd, m_g0, m_gs, m_s0, m_ss, m_ap, m_an, forall_const, true_and, and_true, ne_eq, not_true_eq_false, not_false_eq_true, false_implies, true_implies, implies_true, eq_self, reduceCtorEq, Nat.reduceDiv, Nat.reduceMod, Int.reduceToNat, or_true, true_or, or_false, false_or, or_self, m_it, m_if, m_c1, m_01, m_02, m_03, m_04, m_10, m_12, m_13, m_14, m_20, m_21, m_23, m_24, m_30, m_31, m_32, m_34, m_40, m_41, m_42, m_43, Int.reduceLE, Int.reduceLT, Int.reduceGE, Int.reduceGT, Int.reduceNeg, Int.reduceAdd, Int.reduceSub, Int.reduceMul, Int.reduceEq, Int.reduceNe, Nat.reduceAdd, jun2, ro_0_0, ro_0_1, ro_0_2, ro_0_3, ro_0_4, ro_0_5, ro_0_6, ro_0_7, ro_0_8, ro_0_9, ro_0_10, ro_0_11, ro_0_12, ro_1_0, ro_1_1, ro_2_0, ro_4_0, ro_6_0, ro_6_1, ro_6_2, ro_6_3, ro_6_4, ro_6_5, ro_6_6, ro_6_7, ro_6_8, ro_8_0, ro_10_0, ro_12_0, ro_14_0, ro_16_0, ro_18_0, ro_20_0, ro_22_0, ro_22_1, ro_22_2, ro_23_0, ro_25_0, ro_27_0, ro_29_0, ro_29_1, ro_29_2, ro_29_3, ro_29_4, ro_29_5, ro_29_6, ro_29_7, ro_29_8, ro_31_0, ro_33_0, ro_35_0, ro_37_0, ro_39_0, ro_41_0, ro_43_0, ro_45_0, ro_45_1, ro_45_2, ro_46_0, ro_48_0, ro_50_0, ro_52_0, ro_52_1, ro_52_2, ro_52_3, ro_53_0, ro_55_0, ro_57_0, ro_59_0, ro_61_0, ro_61_1, ro_61_2, ro_61_3, ro_62_0, ro_64_0, ro_66_0, ro_68_0, ro_70_0, ro_70_1, ro_70_2, ro_70_3, ro_70_4, ro_70_5, ro_70_6, ro_70_7, ro_70_8, ro_70_9, ro_71_0, ro_73_0, ro_75_0, ro_77_0, ro_79_0, ro_81_0, ro_83_0, ro_85_0, ro_87_0, ro_89_0, ro_91_0, ro_91_1, ro_91_2, ro_91_3, ro_91_4, ro_91_5, ro_91_6, ro_91_7, ro_91_8, ro_91_9, ro_92_0, ro_94_0, ro_96_0, ro_98_0, ro_100_0, ro_102_0, ro_104_0, ro_106_0, ro_108_0, ro_110_0, ro_112_0, ro_112_1, ro_112_2, ro_112_3, ro_112_4, ro_112_5, ro_112_6, ro_112_7, ro_112_8, ro_112_9, ro_113_0, ro_115_0, ro_117_0, ro_119_0, ro_121_0, ro_123_0, ro_125_0, ro_127_0, ro_129_0, ro_131_0, ro_133_0, ro_133_1, ro_133_2, ro_133_3, ro_133_4, ro_133_5, ro_133_6, ro_133_7, ro_133_8, ro_133_9, ro_134_0, ro_136_0, ro_138_0, ro_140_0, ro_142_0, ro_144_0, ro_146_0, ro_148_0, ro_150_0, ro_152_0, ro_154_0, ro_155_0, ro_157_0, ro_157_1, ro_157_2, ro_157_3, ro_157_4, ro_157_5, ro_157_6, ro_157_7, ro_157_8, ro_157_9, ro_158_0, ro_160_0, ro_162_0, ro_164_0, ro_166_0, ro_168_0, ro_170_0, ro_172_0, ro_174_0, ro_176_0, ro_178_0, ro_180_0, ro_182_1, ro_182_4, ro_182_5, ro_182_6, ro_182_9, ro_182_10, ro_182_11, ro_182_13, ro_182_14, ro_182_15, ro_182_16, ro_182_17, ro_182_20, ro_182_21, ro_182_22, ro_182_23, ro_182_24, ro_182_26, ro_182_27, ro_182_28, lo_3, lo_5, lo_7, lo_9, lo_11, lo_13, lo_15, lo_17, lo_19, lo_21, lo_24, lo_26, lo_28, lo_30, lo_32, lo_34, lo_36, lo_38, lo_40, lo_42, lo_44, lo_47, lo_49, lo_51, lo_54, lo_56, lo_58, lo_60, lo_63, lo_65, lo_67, lo_69, lo_72, lo_74, lo_76, lo_78, lo_80, lo_82, lo_84, lo_86, lo_88, lo_90, lo_93, lo_95, lo_97, lo_99, lo_101, lo_103, lo_105, lo_107, lo_109, lo_111, lo_114, lo_116, lo_118, lo_120, lo_122, lo_124, lo_126, lo_128, lo_130, lo_132, lo_135, lo_137, lo_139, lo_141, lo_143, lo_145, lo_147, lo_149, lo_151, lo_153, lo_156, lo_159, lo_161, lo_163, lo_165, lo_167, lo_169, lo_171, lo_173, lo_175, lo_177, lo_179, lo_181, lo_183, lo_184, lo_185, lo_186, lo_187, lo_188, lo_189, lo_190, lo_191, lo_192, lo_193, lo_194, lo_195, lo_196, lo_197, lo_198, lo_199, lo_200, lo_201, lo_202, lo_203, jp_nn, jp_eq, jp_e1, Classical.not_not, ji0, ji1, ji2, cs77_228, kk_228, cs77_254, kk_254, jl_0, jl_1, jl_2, jl_3, jl_4, jl_5, jl_6, jl_7, jl_8, jl_9, jl_10, jl_11, jl_12, jl_13, jl_14, jl_15, jl_16, jl_17, jl_18, jl_19, jl_20, jl_21, jl_22, jl_23, jl_24, jl_25, jl_26, jl_27, jl_28, jl_29, jl_30, jl_31, jl_32, jl_33, jl_34, jl_35, jl_36, jl_37, jl_38, jl_39, jl_40, jl_95, jl_96, jl_97, jl_98, jl_99, jl_100, jl_101, jl_102, jl_103, jl_104, jl_105, jl_106, jl_107, jl_108, jl_109, jl_110, jl_111, jl_112, jl_113, jl_114, jl_186, jl_1100, jr, ju, jpT, jpF, tnc, Nat.reduceEqDiff, reduceIte, and_false, false_and, not_true_eq_false, not_false_eq_true, or_false, gt_iff_lt, ge_iff_le, Int.lt_irrefl, Int.le_refl, eM_w, y1, y2]
      exact hQ h2 f1_w
  · exact hQ.elim
theorem snd_77 {xs : Nat → Int} {L K : Nat} : ∀ n, SndC CS77 (evF xs L g_ck K g_cW g_M n) := snd_all snd_76 (fun f av h Q hQ => by
  unfold CS77 at hQ
  split at hQ
  · exact Or.inr m_178
  · exact Or.inr m_285c
  · exact Or.inl hQ)
def CS78 : CSt := fun f => match f with
  | 24 => k24u
  | 286 => k286
  | _ => CS77 f
theorem cs78_107 {av : List Int} {h : XH} {Q : Nat → List Int → XH → Prop} : CS78 107 av h Q = k107 av h Q := id rfl
theorem cs78_236 {av : List Int} {h : XH} {Q : Nat → List Int → XH → Prop} : CS78 236 av h Q = k236 av h Q := id rfl
theorem cs78_274 {av : List Int} {h : XH} {Q : Nat → List Int → XH → Prop} : CS78 274 av h Q = k274 av h Q := id rfl
theorem cs78_178 {av : List Int} {h : XH} {Q : Nat → List Int → XH → Prop} : CS78 178 av h Q = k178 av h Q := id rfl
theorem cs78_285 {av : List Int} {h : XH} {Q : Nat → List Int → XH → Prop} : CS78 285 av h Q = k285c av h Q := id rfl
theorem cs78_24 {av : List Int} {h : XH} {Q : Nat → List Int → XH → Prop} : CS78 24 av h Q = k24u av h Q := id rfl
theorem cs78_286 {av : List Int} {h : XH} {Q : Nat → List Int → XH → Prop} : CS78 286 av h Q = k286 av h Q := id rfl
theorem m_24u : BodyOK CS78 CS78 24 := fun av h Q hQ => by
  rw [cs78_24] at hQ
  unfold k24u at hQ
  split at hQ
  · rename_i t s
    obtain ⟨ht, D, sp_w, su, q1_w, q2_w⟩ := hQ
    have ht : t = 0 := Option.some.inj ht
    subst ht
    obtain ⟨w, cd, lw, ra⟩ := id sp_w
    obtain ⟨c4, u4_w, m6_w, s12, eD⟩ := w.cn
    have q1_w : ¬ (0 ≤ s ∧ s < D.1) → ∀ h', Q 4 [] h' := q1_w
    have q2_w : (0 ≤ s ∧ s < D.1) → ∀ h', Q 1 [prfA D (cl 70 h) s.toNat] h' := q2_w
    have z9 : h 6 9 = D.1 := cd.2.1.1
    show pS CS78 bb_24 [0, s] h _
    unfold bb_24
    by_cases y : 0 ≤ s ∧ s < D.1
    · simp only [qe_1, qe_3, qe_4, qe_5, qe_7, qe_72, qe_10, qe_102, qe_13, qe_14, qe_15, qe_16, qe_17, qe_18, qe_20, qe_22, qe_23, qe_21, qe_24, qe_25, qe_26, qe_27, qe_28, qe_30, qe_31, qe_32, qc_20, qc_22, qc_23, qc_21, qc_24, qc_25, qc_26, qc_27, qc_1, qc_3, qc_4, qc_7, qc_13, qc_28, qc_32, qs_1, qs_2, qs_3, qs_4, qs_5, qs_6, qs_9, qs_10, qs_11, qs_14, qs_15, qs_16, qs_27, qs_17, qs_18, qs_19, qs_20, qs_22, qs_23, qs_28, qs_25, qs_26, qs_7, qs_8, kc_1, kn_1, kc_2, kn_2, kc_3, kn_3, kc_4, kn_4, kc_5, kn_5, kc_6, kn_6, kc_7, kn_7, kc_8, kn_8, kc_9, kn_9, kc_10, kn_10, kc_11, kn_11, kc_12, kn_12, kc_13, kn_13, kc_14, kn_14, kc_15, kn_15, kc_16, kc_17, kc_18, kc_19, kc_20, kc_21, kc_22, kc_23, kc_30, kc_32, kc_40, kc_43, kc_45, kc_48, kc_52, kc_56, kc_57, kc_59, kc_60, kc_61, kc_63, kc_64, kc_72, kc_78, kc_97, kc_99, kc_122, kc_126, kc_128, kc_192, kc_200, kc_255, kc_999, kc_1000, kc_9999, kn_9999, kc_10000, kc_12345, kc_65536, kc_252645135, kc_858993459, kc_1103515245, kc_1431655765, kc_2147483647, kc_0, kc_24, kc_28, kc_37, kc_41, kc_42, kc_73, kc_91, kc_95, kc_96, kc_98, kc_100, kc_112, kc_125, kc_150, kc_162, kc_163, kc_168, kc_186, kc_190, kc_250, kc_355, kc_356, kc_404, kc_405, kc_429, kc_573, kc_1002, kc_1100, kc_1891, kc_2200, kc_4719, kc_4869, kc_4881, kc_5148, kc_19741, kc_25433, kc_320403, kc_628412, kc_629093, kc_660401, kc_679843, kc_918640, kc_979410, kc_1178088, kc_6232410, kc_24644941, kc_36238189, kc_38270444, kc_392531318, kc_425693491, kc_1342154595, kc_2147483648, kc_42328242873, kc_891704255789, kc_1722105685577, kc_1858726030364, ct_0, ct_1, ct_2, ct_3, ct_4, ct_5, cf_0, cf_1, cf_2, cf_3, cf_4, cf_5, w_ty6, w_ty7, m_sv, m_z0, m_hd, m_g0, m_gs, m_s0, m_ss, m_ap, m_an, forall_const, true_and, and_true, ne_eq, not_true_eq_false, not_false_eq_true, false_implies, true_implies, implies_true, eq_self, reduceCtorEq, Nat.reduceDiv, Nat.reduceMod, Int.reduceToNat, or_true, true_or, or_false, false_or, or_self, m_it, m_if, m_c1, m_01, m_02, m_03, m_04, m_10, m_12, m_13, m_14, m_20, m_21, m_23, m_24, m_30, m_31, m_32, m_34, m_40, m_41, m_42, m_43, Int.reduceLE, Int.reduceLT, Int.reduceGE, Int.reduceGT, Int.reduceNeg, Int.reduceAdd, Int.reduceSub, Int.reduceMul, Int.reduceEq, Int.reduceNe, Nat.reduceAdd, jun2, ro_0_0, ro_0_1, ro_0_2, ro_0_3, ro_0_4, ro_0_5, ro_0_6, ro_0_7, ro_0_8, ro_0_9, ro_0_10, ro_0_11, ro_0_12, ro_1_0, ro_1_1, ro_2_0, ro_4_0, ro_6_0, ro_6_1, ro_6_2, ro_6_3, ro_6_4, ro_6_5, ro_6_6, ro_6_7, ro_6_8, ro_8_0, ro_10_0, ro_12_0, ro_14_0, ro_16_0, ro_18_0, ro_20_0, ro_22_0, ro_22_1, ro_22_2, ro_23_0, ro_25_0, ro_27_0, ro_29_0, ro_29_1, ro_29_2, ro_29_3, ro_29_4, ro_29_5, ro_29_6, ro_29_7, ro_29_8, ro_31_0, ro_33_0, ro_35_0, ro_37_0, ro_39_0, ro_41_0, ro_43_0, ro_45_0, ro_45_1, ro_45_2, ro_46_0, ro_48_0, ro_50_0, ro_52_0, ro_52_1, ro_52_2, ro_52_3, ro_53_0, ro_55_0, ro_57_0, ro_59_0, ro_61_0, ro_61_1, ro_61_2, ro_61_3, ro_62_0, ro_64_0, ro_66_0, ro_68_0, ro_70_0, ro_70_1, ro_70_2, ro_70_3, ro_70_4, ro_70_5, ro_70_6, ro_70_7, ro_70_8, ro_70_9, ro_71_0, ro_73_0, ro_75_0, ro_77_0, ro_79_0, ro_81_0, ro_83_0, ro_85_0, ro_87_0, ro_89_0, ro_91_0, ro_91_1, ro_91_2, ro_91_3, ro_91_4, ro_91_5, ro_91_6, ro_91_7, ro_91_8, ro_91_9, ro_92_0, ro_94_0, ro_96_0, ro_98_0, ro_100_0, ro_102_0, ro_104_0, ro_106_0, ro_108_0, ro_110_0, ro_112_0, ro_112_1, ro_112_2, ro_112_3, ro_112_4, ro_112_5, ro_112_6, ro_112_7, ro_112_8, ro_112_9, ro_113_0, ro_115_0, ro_117_0, ro_119_0, ro_121_0, ro_123_0, ro_125_0, ro_127_0, ro_129_0, ro_131_0, ro_133_0, ro_133_1, ro_133_2, ro_133_3, ro_133_4, ro_133_5, ro_133_6, ro_133_7, ro_133_8, ro_133_9, ro_134_0, ro_136_0, ro_138_0, ro_140_0, ro_142_0, ro_144_0, ro_146_0, ro_148_0, ro_150_0, ro_152_0, ro_154_0, ro_155_0, ro_157_0, ro_157_1, ro_157_2, ro_157_3, ro_157_4, ro_157_5, ro_157_6, ro_157_7, ro_157_8, ro_157_9, ro_158_0, ro_160_0, ro_162_0, ro_164_0, ro_166_0, ro_168_0, ro_170_0, ro_172_0, ro_174_0, ro_176_0, ro_178_0, ro_180_0, ro_182_1, ro_182_4, ro_182_5, ro_182_6, ro_182_9, ro_182_10, ro_182_11, ro_182_13, ro_182_14, ro_182_15, ro_182_16, ro_182_17, ro_182_20, ro_182_21, ro_182_22, ro_182_23, ro_182_24, ro_182_26, ro_182_27, ro_182_28, lo_3, lo_5, lo_7, lo_9, lo_11, lo_13, lo_15, lo_17, lo_19, lo_21, lo_24, lo_26, lo_28, lo_30, lo_32, lo_34, lo_36, lo_38, lo_40, lo_42, lo_44, lo_47, lo_49, lo_51, lo_54, lo_56, lo_58, lo_60, lo_63, lo_65, lo_67, lo_69, lo_72, lo_74, lo_76, lo_78, lo_80, lo_82, lo_84, lo_86, lo_88, lo_90, lo_93, lo_95, lo_97, lo_99, lo_101, lo_103, lo_105, lo_107, lo_109, lo_111, lo_114, lo_116, lo_118, lo_120, lo_122, lo_124, lo_126, lo_128, lo_130, lo_132, lo_135, lo_137, lo_139, lo_141, lo_143, lo_145, lo_147, lo_149, lo_151, lo_153, lo_156, lo_159, lo_161, lo_163, lo_165, lo_167, lo_169, lo_171, lo_173, lo_175, lo_177, lo_179, lo_181, lo_183, lo_184, lo_185, lo_186, lo_187, lo_188, lo_189, lo_190, lo_191, lo_192, lo_193, lo_194, lo_195, lo_196, lo_197, lo_198, lo_199, lo_200, lo_201, lo_202, lo_203, jp_nn, jp_eq, jp_e1, Classical.not_not, ji0, ji1, ji2, cs78_107, kk_107, cs78_178, kk_178, jl_0, jl_1, jl_2, jl_3, jl_4, jl_5, jl_6, jl_7, jl_8, jl_9, jl_10, jl_11, jl_12, jl_13, jl_14, jl_15, jl_16, jl_17, jl_18, jl_19, jl_20, jl_21, jl_22, jl_23, jl_24, jl_25, jl_26, jl_27, jl_28, jl_29, jl_30, jl_31, jl_32, jl_33, jl_34, jl_35, jl_36, jl_37, jl_38, jl_39, jl_40, jl_95, jl_96, jl_97, jl_98, jl_99, jl_100, jl_101, jl_102, jl_103, jl_104, jl_105, jl_106, jl_107, jl_108, jl_109, jl_110, jl_111, jl_112, jl_113, jl_114, jl_186, jl_1100, jr, ju, jpT, jpF, tnc, Nat.reduceEqDiff, reduceIte, and_false, false_and, not_true_eq_false, not_false_eq_true, or_false, gt_iff_lt, ge_iff_le, Int.lt_irrefl, Int.le_refl, z9, y, and_self]
      exact ⟨D, 70, s.toNat, Or.inl rfl, rfl, w, cd, lw, by omega, by omega, ra, su, fun h1 _ => q2_w y h1⟩
    · simp only [qe_1, qe_3, qe_4, qe_5, qe_7, qe_72, qe_10, qe_102, qe_13, qe_14, qe_15, qe_16, qe_17, qe_18, qe_20, qe_22, qe_23, qe_21, qe_24, qe_25, qe_26, qe_27, qe_28, qe_30, qe_31, qe_32, qc_20, qc_22, qc_23, qc_21, qc_24, qc_25, qc_26, qc_27, qc_1, qc_3, qc_4, qc_7, qc_13, qc_28, qc_32, qs_1, qs_2, qs_3, qs_4, qs_5, qs_6, qs_9, qs_10, qs_11, qs_14, qs_15, qs_16, qs_27, qs_17, qs_18, qs_19, qs_20, qs_22, qs_23, qs_28, qs_25, qs_26, qs_7, qs_8, kc_1, kn_1, kc_2, kn_2, kc_3, kn_3, kc_4, kn_4, kc_5, kn_5, kc_6, kn_6, kc_7, kn_7, kc_8, kn_8, kc_9, kn_9, kc_10, kn_10, kc_11, kn_11, kc_12, kn_12, kc_13, kn_13, kc_14, kn_14, kc_15, kn_15, kc_16, kc_17, kc_18, kc_19, kc_20, kc_21, kc_22, kc_23, kc_30, kc_32, kc_40, kc_43, kc_45, kc_48, kc_52, kc_56, kc_57, kc_59, kc_60, kc_61, kc_63, kc_64, kc_72, kc_78, kc_97, kc_99, kc_122, kc_126, kc_128, kc_192, kc_200, kc_255, kc_999, kc_1000, kc_9999, kn_9999, kc_10000, kc_12345, kc_65536, kc_252645135, kc_858993459, kc_1103515245, kc_1431655765, kc_2147483647, kc_0, kc_24, kc_28, kc_37, kc_41, kc_42, kc_73, kc_91, kc_95, kc_96, kc_98, kc_100, kc_112, kc_125, kc_150, kc_162, kc_163, kc_168, kc_186, kc_190, kc_250, kc_355, kc_356, kc_404, kc_405, kc_429, kc_573, kc_1002, kc_1100, kc_1891, kc_2200, kc_4719, kc_4869, kc_4881, kc_5148, kc_19741, kc_25433, kc_320403, kc_628412, kc_629093, kc_660401, kc_679843, kc_918640, kc_979410, kc_1178088, kc_6232410, kc_24644941, kc_36238189, kc_38270444, kc_392531318, kc_425693491, kc_1342154595, kc_2147483648, kc_42328242873, kc_891704255789, kc_1722105685577, kc_1858726030364, ct_0, ct_1, ct_2, ct_3, ct_4, ct_5, cf_0, cf_1, cf_2, cf_3, cf_4, cf_5, w_ty6, w_ty7, m_sv, m_z0, m_hd, m_g0, m_gs, m_s0, m_ss, m_ap, m_an, forall_const, true_and, and_true, ne_eq, not_true_eq_false, not_false_eq_true, false_implies, true_implies, implies_true, eq_self, reduceCtorEq, Nat.reduceDiv, Nat.reduceMod, Int.reduceToNat, or_true, true_or, or_false, false_or, or_self, m_it, m_if, m_c1, m_01, m_02, m_03, m_04, m_10, m_12, m_13, m_14, m_20, m_21, m_23, m_24, m_30, m_31, m_32, m_34, m_40, m_41, m_42, m_43, Int.reduceLE, Int.reduceLT, Int.reduceGE, Int.reduceGT, Int.reduceNeg, Int.reduceAdd, Int.reduceSub, Int.reduceMul, Int.reduceEq, Int.reduceNe, Nat.reduceAdd, jun2, ro_0_0, ro_0_1, ro_0_2, ro_0_3, ro_0_4, ro_0_5, ro_0_6, ro_0_7, ro_0_8, ro_0_9, ro_0_10, ro_0_11, ro_0_12, ro_1_0, ro_1_1, ro_2_0, ro_4_0, ro_6_0, ro_6_1, ro_6_2, ro_6_3, ro_6_4, ro_6_5, ro_6_6, ro_6_7, ro_6_8, ro_8_0, ro_10_0, ro_12_0, ro_14_0, ro_16_0, ro_18_0, ro_20_0, ro_22_0, ro_22_1, ro_22_2, ro_23_0, ro_25_0, ro_27_0, ro_29_0, ro_29_1, ro_29_2, ro_29_3, ro_29_4, ro_29_5, ro_29_6, ro_29_7, ro_29_8, ro_31_0, ro_33_0, ro_35_0, ro_37_0, ro_39_0, ro_41_0, ro_43_0, ro_45_0, ro_45_1, ro_45_2, ro_46_0, ro_48_0, ro_50_0, ro_52_0, ro_52_1, ro_52_2, ro_52_3, ro_53_0, ro_55_0, ro_57_0, ro_59_0, ro_61_0, ro_61_1, ro_61_2, ro_61_3, ro_62_0, ro_64_0, ro_66_0, ro_68_0, ro_70_0, ro_70_1, ro_70_2, ro_70_3, ro_70_4, ro_70_5, ro_70_6, ro_70_7, ro_70_8, ro_70_9, ro_71_0, ro_73_0, ro_75_0, ro_77_0, ro_79_0, ro_81_0, ro_83_0, ro_85_0, ro_87_0, ro_89_0, ro_91_0, ro_91_1, ro_91_2, ro_91_3, ro_91_4, ro_91_5, ro_91_6, ro_91_7, ro_91_8, ro_91_9, ro_92_0, ro_94_0, ro_96_0, ro_98_0, ro_100_0, ro_102_0, ro_104_0, ro_106_0, ro_108_0, ro_110_0, ro_112_0, ro_112_1, ro_112_2, ro_112_3, ro_112_4, ro_112_5, ro_112_6, ro_112_7, ro_112_8, ro_112_9, ro_113_0, ro_115_0, ro_117_0, ro_119_0, ro_121_0, ro_123_0, ro_125_0, ro_127_0, ro_129_0, ro_131_0, ro_133_0, ro_133_1, ro_133_2, ro_133_3, ro_133_4, ro_133_5, ro_133_6, ro_133_7, ro_133_8, ro_133_9, ro_134_0, ro_136_0, ro_138_0, ro_140_0, ro_142_0, ro_144_0, ro_146_0, ro_148_0, ro_150_0, ro_152_0, ro_154_0, ro_155_0, ro_157_0, ro_157_1, ro_157_2, ro_157_3, ro_157_4, ro_157_5, ro_157_6, ro_157_7, ro_157_8, ro_157_9, ro_158_0, ro_160_0, ro_162_0, ro_164_0, ro_166_0, ro_168_0, ro_170_0, ro_172_0, ro_174_0, ro_176_0, ro_178_0, ro_180_0, ro_182_1, ro_182_4, ro_182_5, ro_182_6, ro_182_9, ro_182_10, ro_182_11, ro_182_13, ro_182_14, ro_182_15, ro_182_16, ro_182_17, ro_182_20, ro_182_21, ro_182_22, ro_182_23, ro_182_24, ro_182_26, ro_182_27, ro_182_28, lo_3, lo_5, lo_7, lo_9, lo_11, lo_13, lo_15, lo_17, lo_19, lo_21, lo_24, lo_26, lo_28, lo_30, lo_32, lo_34, lo_36, lo_38, lo_40, lo_42, lo_44, lo_47, lo_49, lo_51, lo_54, lo_56, lo_58, lo_60, lo_63, lo_65, lo_67, lo_69, lo_72, lo_74, lo_76, lo_78, lo_80, lo_82, lo_84, lo_86, lo_88, lo_90, lo_93, lo_95, lo_97, lo_99, lo_101, lo_103, lo_105, lo_107, lo_109, lo_111, lo_114, lo_116, lo_118, lo_120, lo_122, lo_124, lo_126, lo_128, lo_130, lo_132, lo_135, lo_137, lo_139, lo_141, lo_143, lo_145, lo_147, lo_149, lo_151, lo_153, lo_156, lo_159, lo_161, lo_163, lo_165, lo_167, lo_169, lo_171, lo_173, lo_175, lo_177, lo_179, lo_181, lo_183, lo_184, lo_185, lo_186, lo_187, lo_188, lo_189, lo_190, lo_191, lo_192, lo_193, lo_194, lo_195, lo_196, lo_197, lo_198, lo_199, lo_200, lo_201, lo_202, lo_203, jp_nn, jp_eq, jp_e1, Classical.not_not, ji0, ji1, ji2, cs78_107, kk_107, cs78_178, kk_178, jl_0, jl_1, jl_2, jl_3, jl_4, jl_5, jl_6, jl_7, jl_8, jl_9, jl_10, jl_11, jl_12, jl_13, jl_14, jl_15, jl_16, jl_17, jl_18, jl_19, jl_20, jl_21, jl_22, jl_23, jl_24, jl_25, jl_26, jl_27, jl_28, jl_29, jl_30, jl_31, jl_32, jl_33, jl_34, jl_35, jl_36, jl_37, jl_38, jl_39, jl_40, jl_95, jl_96, jl_97, jl_98, jl_99, jl_100, jl_101, jl_102, jl_103, jl_104, jl_105, jl_106, jl_107, jl_108, jl_109, jl_110, jl_111, jl_112, jl_113, jl_114, jl_186, jl_1100, jr, ju, jpT, jpF, tnc, Nat.reduceEqDiff, reduceIte, and_false, false_and, not_true_eq_false, not_false_eq_true, or_false, gt_iff_lt, ge_iff_le, Int.lt_irrefl, Int.le_refl, z9, y]
      exact q1_w y _
  · exact hQ.elim
theorem m_286 : BodyOK CS78 CS78 286 := fun av h Q hQ => by
  rw [cs78_286] at hQ
  unfold k286 at hQ
  split at hQ
  · rename_i t s
    obtain ⟨ht, D, rs, su, q1_w, q2_w⟩ := hQ
    have ht : t = 182 := Option.some.inj ht
    subst ht
    obtain ⟨w, rf, lw, ra⟩ := id rs
    obtain ⟨c4, u4_w, m6_w, s12, eD⟩ := w.cn
    have q1_w : ¬ (0 ≤ s ∧ s < D.1) → ∀ h', h' 182 0 = 1 → Q 1 [0] h' := q1_w
    have q2_w : (0 ≤ s ∧ s < D.1) → ∀ h', h' 182 0 = 0 → Q 1 [prfA D (bl 0 h) s.toNat] h' := q2_w
    have z0 : h 188 0 = D.1 := rf.ix.2.1.1
    show pS CS78 bb_286 [182, s] h _
    unfold bb_286
    by_cases y : 0 ≤ s ∧ s < D.1
    · simp only [qe_1, qe_3, qe_4, qe_5, qe_7, qe_72, qe_10, qe_102, qe_13, qe_14, qe_15, qe_16, qe_17, qe_18, qe_20, qe_22, qe_23, qe_21, qe_24, qe_25, qe_26, qe_27, qe_28, qe_30, qe_31, qe_32, qc_20, qc_22, qc_23, qc_21, qc_24, qc_25, qc_26, qc_27, qc_1, qc_3, qc_4, qc_7, qc_13, qc_28, qc_32, qs_1, qs_2, qs_3, qs_4, qs_5, qs_6, qs_9, qs_10, qs_11, qs_14, qs_15, qs_16, qs_27, qs_17, qs_18, qs_19, qs_20, qs_22, qs_23, qs_28, qs_25, qs_26, qs_7, qs_8, kc_1, kn_1, kc_2, kn_2, kc_3, kn_3, kc_4, kn_4, kc_5, kn_5, kc_6, kn_6, kc_7, kn_7, kc_8, kn_8, kc_9, kn_9, kc_10, kn_10, kc_11, kn_11, kc_12, kn_12, kc_13, kn_13, kc_14, kn_14, kc_15, kn_15, kc_16, kc_17, kc_18, kc_19, kc_20, kc_21, kc_22, kc_23, kc_30, kc_32, kc_40, kc_43, kc_45, kc_48, kc_52, kc_56, kc_57, kc_59, kc_60, kc_61, kc_63, kc_64, kc_72, kc_78, kc_97, kc_99, kc_122, kc_126, kc_128, kc_192, kc_200, kc_255, kc_999, kc_1000, kc_9999, kn_9999, kc_10000, kc_12345, kc_65536, kc_252645135, kc_858993459, kc_1103515245, kc_1431655765, kc_2147483647, kc_0, kc_24, kc_28, kc_37, kc_41, kc_42, kc_73, kc_91, kc_95, kc_96, kc_98, kc_100, kc_112, kc_125, kc_150, kc_162, kc_163, kc_168, kc_186, kc_190, kc_250, kc_355, kc_356, kc_404, kc_405, kc_429, kc_573, kc_1002, kc_1100, kc_1891, kc_2200, kc_4719, kc_4869, kc_4881, kc_5148, kc_19741, kc_25433, kc_320403, kc_628412, kc_629093, kc_660401, kc_679843, kc_918640, kc_979410, kc_1178088, kc_6232410, kc_24644941, kc_36238189, kc_38270444, kc_392531318, kc_425693491, kc_1342154595, kc_2147483648, kc_42328242873, kc_891704255789, kc_1722105685577, kc_1858726030364, ct_0, ct_1, ct_2, ct_3, ct_4, ct_5, cf_0, cf_1, cf_2, cf_3, cf_4, cf_5, w_ty6, w_ty7, m_sv, m_z0, m_hd, m_g0, m_gs, m_s0, m_ss, m_ap, m_an, forall_const, true_and, and_true, ne_eq, not_true_eq_false, not_false_eq_true, false_implies, true_implies, implies_true, eq_self, reduceCtorEq, Nat.reduceDiv, Nat.reduceMod, Int.reduceToNat, or_true, true_or, or_false, false_or, or_self, m_it, m_if, m_c1, m_01, m_02, m_03, m_04, m_10, m_12, m_13, m_14, m_20, m_21, m_23, m_24, m_30, m_31, m_32, m_34, m_40, m_41, m_42, m_43, Int.reduceLE, Int.reduceLT, Int.reduceGE, Int.reduceGT, Int.reduceNeg, Int.reduceAdd, Int.reduceSub, Int.reduceMul, Int.reduceEq, Int.reduceNe, Nat.reduceAdd, jun2, ro_0_0, ro_0_1, ro_0_2, ro_0_3, ro_0_4, ro_0_5, ro_0_6, ro_0_7, ro_0_8, ro_0_9, ro_0_10, ro_0_11, ro_0_12, ro_1_0, ro_1_1, ro_2_0, ro_4_0, ro_6_0, ro_6_1, ro_6_2, ro_6_3, ro_6_4, ro_6_5, ro_6_6, ro_6_7, ro_6_8, ro_8_0, ro_10_0, ro_12_0, ro_14_0, ro_16_0, ro_18_0, ro_20_0, ro_22_0, ro_22_1, ro_22_2, ro_23_0, ro_25_0, ro_27_0, ro_29_0, ro_29_1, ro_29_2, ro_29_3, ro_29_4, ro_29_5, ro_29_6, ro_29_7, ro_29_8, ro_31_0, ro_33_0, ro_35_0, ro_37_0, ro_39_0, ro_41_0, ro_43_0, ro_45_0, ro_45_1, ro_45_2, ro_46_0, ro_48_0, ro_50_0, ro_52_0, ro_52_1, ro_52_2, ro_52_3, ro_53_0, ro_55_0, ro_57_0, ro_59_0, ro_61_0, ro_61_1, ro_61_2, ro_61_3, ro_62_0, ro_64_0, ro_66_0, ro_68_0, ro_70_0, ro_70_1, ro_70_2, ro_70_3, ro_70_4, ro_70_5, ro_70_6, ro_70_7, ro_70_8, ro_70_9, ro_71_0, ro_73_0, ro_75_0, ro_77_0, ro_79_0, ro_81_0, ro_83_0, ro_85_0, ro_87_0, ro_89_0, ro_91_0, ro_91_1, ro_91_2, ro_91_3, ro_91_4, ro_91_5, ro_91_6, ro_91_7, ro_91_8, ro_91_9, ro_92_0, ro_94_0, ro_96_0, ro_98_0, ro_100_0, ro_102_0, ro_104_0, ro_106_0, ro_108_0, ro_110_0, ro_112_0, ro_112_1, ro_112_2, ro_112_3, ro_112_4, ro_112_5, ro_112_6, ro_112_7, ro_112_8, ro_112_9, ro_113_0, ro_115_0, ro_117_0, ro_119_0, ro_121_0, ro_123_0, ro_125_0, ro_127_0, ro_129_0, ro_131_0, ro_133_0, ro_133_1, ro_133_2, ro_133_3, ro_133_4, ro_133_5, ro_133_6, ro_133_7, ro_133_8, ro_133_9, ro_134_0, ro_136_0, ro_138_0, ro_140_0, ro_142_0, ro_144_0, ro_146_0, ro_148_0, ro_150_0, ro_152_0, ro_154_0, ro_155_0, ro_157_0, ro_157_1, ro_157_2, ro_157_3, ro_157_4, ro_157_5, ro_157_6, ro_157_7, ro_157_8, ro_157_9, ro_158_0, ro_160_0, ro_162_0, ro_164_0, ro_166_0, ro_168_0, ro_170_0, ro_172_0, ro_174_0, ro_176_0, ro_178_0, ro_180_0, ro_182_1, ro_182_4, ro_182_5, ro_182_6, ro_182_9, ro_182_10, ro_182_11, ro_182_13, ro_182_14, ro_182_15, ro_182_16, ro_182_17, ro_182_20, ro_182_21, ro_182_22, ro_182_23, ro_182_24, ro_182_26, ro_182_27, ro_182_28, lo_3, lo_5, lo_7, lo_9, lo_11, lo_13, lo_15, lo_17, lo_19, lo_21, lo_24, lo_26, lo_28, lo_30, lo_32, lo_34, lo_36, lo_38, lo_40, lo_42, lo_44, lo_47, lo_49, lo_51, lo_54, lo_56, lo_58, lo_60, lo_63, lo_65, lo_67, lo_69, lo_72, lo_74, lo_76, lo_78, lo_80, lo_82, lo_84, lo_86, lo_88, lo_90, lo_93, lo_95, lo_97, lo_99, lo_101, lo_103, lo_105, lo_107, lo_109, lo_111, lo_114, lo_116, lo_118, lo_120, lo_122, lo_124, lo_126, lo_128, lo_130, lo_132, lo_135, lo_137, lo_139, lo_141, lo_143, lo_145, lo_147, lo_149, lo_151, lo_153, lo_156, lo_159, lo_161, lo_163, lo_165, lo_167, lo_169, lo_171, lo_173, lo_175, lo_177, lo_179, lo_181, lo_183, lo_184, lo_185, lo_186, lo_187, lo_188, lo_189, lo_190, lo_191, lo_192, lo_193, lo_194, lo_195, lo_196, lo_197, lo_198, lo_199, lo_200, lo_201, lo_202, lo_203, jp_nn, jp_eq, jp_e1, Classical.not_not, ji0, ji1, ji2, cs78_236, kk_236, cs78_274, kk_274, cs78_285, kk_285c, jl_0, jl_1, jl_2, jl_3, jl_4, jl_5, jl_6, jl_7, jl_8, jl_9, jl_10, jl_11, jl_12, jl_13, jl_14, jl_15, jl_16, jl_17, jl_18, jl_19, jl_20, jl_21, jl_22, jl_23, jl_24, jl_25, jl_26, jl_27, jl_28, jl_29, jl_30, jl_31, jl_32, jl_33, jl_34, jl_35, jl_36, jl_37, jl_38, jl_39, jl_40, jl_95, jl_96, jl_97, jl_98, jl_99, jl_100, jl_101, jl_102, jl_103, jl_104, jl_105, jl_106, jl_107, jl_108, jl_109, jl_110, jl_111, jl_112, jl_113, jl_114, jl_186, jl_1100, jr, ju, jpT, jpF, tnc, Nat.reduceEqDiff, reduceIte, and_false, false_and, not_true_eq_false, not_false_eq_true, or_false, gt_iff_lt, ge_iff_le, Int.lt_irrefl, Int.le_refl, z0, y, and_self]
      obtain ⟨⟨-, rz, lz, rz4⟩, ez⟩ := rs.tz0 (v := 0)
      refine ⟨D, 0, s.toNat, w, rz, lz, rfl, by decide, by omega, by omega, rz4, fun h1 f1_w => ?_⟩
      rw [prfA_cg w ez (show s.toNat < nS D by omega)]
      exact q2_w y h1 ((f1_w 182 0 (fun z => by unfold wkW at z; omega) (by omega)).trans up_eq)
    · simp only [qe_1, qe_3, qe_4, qe_5, qe_7, qe_72, qe_10, qe_102, qe_13, qe_14, qe_15, qe_16, qe_17, qe_18, qe_20, qe_22, qe_23, qe_21, qe_24, qe_25, qe_26, qe_27, qe_28, qe_30, qe_31, qe_32, qc_20, qc_22, qc_23, qc_21, qc_24, qc_25, qc_26, qc_27, qc_1, qc_3, qc_4, qc_7, qc_13, qc_28, qc_32, qs_1, qs_2, qs_3, qs_4, qs_5, qs_6, qs_9, qs_10, qs_11, qs_14, qs_15, qs_16, qs_27, qs_17, qs_18, qs_19, qs_20, qs_22, qs_23, qs_28, qs_25, qs_26, qs_7, qs_8, kc_1, kn_1, kc_2, kn_2, kc_3, kn_3, kc_4, kn_4, kc_5, kn_5, kc_6, kn_6, kc_7, kn_7, kc_8, kn_8, kc_9, kn_9, kc_10, kn_10, kc_11, kn_11, kc_12, kn_12, kc_13, kn_13, kc_14, kn_14, kc_15, kn_15, kc_16, kc_17, kc_18, kc_19, kc_20, kc_21, kc_22, kc_23, kc_30, kc_32, kc_40, kc_43, kc_45, kc_48, kc_52, kc_56, kc_57, kc_59, kc_60, kc_61, kc_63, kc_64, kc_72, kc_78, kc_97, kc_99, kc_122, kc_126, kc_128, kc_192, kc_200, kc_255, kc_999, kc_1000, kc_9999, kn_9999, kc_10000, kc_12345, kc_65536, kc_252645135, kc_858993459, kc_1103515245, kc_1431655765, kc_2147483647, kc_0, kc_24, kc_28, kc_37, kc_41, kc_42, kc_73, kc_91, kc_95, kc_96, kc_98, kc_100, kc_112, kc_125, kc_150, kc_162, kc_163, kc_168, kc_186, kc_190, kc_250, kc_355, kc_356, kc_404, kc_405, kc_429, kc_573, kc_1002, kc_1100, kc_1891, kc_2200, kc_4719, kc_4869, kc_4881, kc_5148, kc_19741, kc_25433, kc_320403, kc_628412, kc_629093, kc_660401, kc_679843, kc_918640, kc_979410, kc_1178088, kc_6232410, kc_24644941, kc_36238189, kc_38270444, kc_392531318, kc_425693491, kc_1342154595, kc_2147483648, kc_42328242873, kc_891704255789, kc_1722105685577, kc_1858726030364, ct_0, ct_1, ct_2, ct_3, ct_4, ct_5, cf_0, cf_1, cf_2, cf_3, cf_4, cf_5, w_ty6, w_ty7, m_sv, m_z0, m_hd, m_g0, m_gs, m_s0, m_ss, m_ap, m_an, forall_const, true_and, and_true, ne_eq, not_true_eq_false, not_false_eq_true, false_implies, true_implies, implies_true, eq_self, reduceCtorEq, Nat.reduceDiv, Nat.reduceMod, Int.reduceToNat, or_true, true_or, or_false, false_or, or_self, m_it, m_if, m_c1, m_01, m_02, m_03, m_04, m_10, m_12, m_13, m_14, m_20, m_21, m_23, m_24, m_30, m_31, m_32, m_34, m_40, m_41, m_42, m_43, Int.reduceLE, Int.reduceLT, Int.reduceGE, Int.reduceGT, Int.reduceNeg, Int.reduceAdd, Int.reduceSub, Int.reduceMul, Int.reduceEq, Int.reduceNe, Nat.reduceAdd, jun2, ro_0_0, ro_0_1, ro_0_2, ro_0_3, ro_0_4, ro_0_5, ro_0_6, ro_0_7, ro_0_8, ro_0_9, ro_0_10, ro_0_11, ro_0_12, ro_1_0, ro_1_1, ro_2_0, ro_4_0, ro_6_0, ro_6_1, ro_6_2, ro_6_3, ro_6_4, ro_6_5, ro_6_6, ro_6_7, ro_6_8, ro_8_0, ro_10_0, ro_12_0, ro_14_0, ro_16_0, ro_18_0, ro_20_0, ro_22_0, ro_22_1, ro_22_2, ro_23_0, ro_25_0, ro_27_0, ro_29_0, ro_29_1, ro_29_2, ro_29_3, ro_29_4, ro_29_5, ro_29_6, ro_29_7, ro_29_8, ro_31_0, ro_33_0, ro_35_0, ro_37_0, ro_39_0, ro_41_0, ro_43_0, ro_45_0, ro_45_1, ro_45_2, ro_46_0, ro_48_0, ro_50_0, ro_52_0, ro_52_1, ro_52_2, ro_52_3, ro_53_0, ro_55_0, ro_57_0, ro_59_0, ro_61_0, ro_61_1, ro_61_2, ro_61_3, ro_62_0, ro_64_0, ro_66_0, ro_68_0, ro_70_0, ro_70_1, ro_70_2, ro_70_3, ro_70_4, ro_70_5, ro_70_6, ro_70_7, ro_70_8, ro_70_9, ro_71_0, ro_73_0, ro_75_0, ro_77_0, ro_79_0, ro_81_0, ro_83_0, ro_85_0, ro_87_0, ro_89_0, ro_91_0, ro_91_1, ro_91_2, ro_91_3, ro_91_4, ro_91_5, ro_91_6, ro_91_7, ro_91_8, ro_91_9, ro_92_0, ro_94_0, ro_96_0, ro_98_0, ro_100_0, ro_102_0, ro_104_0, ro_106_0, ro_108_0, ro_110_0, ro_112_0, ro_112_1, ro_112_2, ro_112_3, ro_112_4, ro_112_5, ro_112_6, ro_112_7, ro_112_8, ro_112_9, ro_113_0, ro_115_0, ro_117_0, ro_119_0, ro_121_0, ro_123_0, ro_125_0, ro_127_0, ro_129_0, ro_131_0, ro_133_0, ro_133_1, ro_133_2, ro_133_3, ro_133_4, ro_133_5, ro_133_6, ro_133_7, ro_133_8, ro_133_9, ro_134_0, ro_136_0, ro_138_0, ro_140_0, ro_142_0, ro_144_0, ro_146_0, ro_148_0, ro_150_0, ro_152_0, ro_154_0, ro_155_0, ro_157_0, ro_157_1, ro_157_2, ro_157_3, ro_157_4, ro_157_5, ro_157_6, ro_157_7, ro_157_8, ro_157_9, ro_158_0, ro_160_0, ro_162_0, ro_164_0, ro_166_0, ro_168_0, ro_170_0, ro_172_0, ro_174_0, ro_176_0, ro_178_0, ro_180_0, ro_182_1, ro_182_4, ro_182_5, ro_182_6, ro_182_9, ro_182_10, ro_182_11, ro_182_13, ro_182_14, ro_182_15, ro_182_16, ro_182_17, ro_182_20, ro_182_21, ro_182_22, ro_182_23, ro_182_24, ro_182_26, ro_182_27, ro_182_28, lo_3, lo_5, lo_7, lo_9, lo_11, lo_13, lo_15, lo_17, lo_19, lo_21, lo_24, lo_26, lo_28, lo_30, lo_32, lo_34, lo_36, lo_38, lo_40, lo_42, lo_44, lo_47, lo_49, lo_51, lo_54, lo_56, lo_58, lo_60, lo_63, lo_65, lo_67, lo_69, lo_72, lo_74, lo_76, lo_78, lo_80, lo_82, lo_84, lo_86, lo_88, lo_90, lo_93, lo_95, lo_97, lo_99, lo_101, lo_103, lo_105, lo_107, lo_109, lo_111, lo_114, lo_116, lo_118, lo_120, lo_122, lo_124, lo_126, lo_128, lo_130, lo_132, lo_135, lo_137, lo_139, lo_141, lo_143, lo_145, lo_147, lo_149, lo_151, lo_153, lo_156, lo_159, lo_161, lo_163, lo_165, lo_167, lo_169, lo_171, lo_173, lo_175, lo_177, lo_179, lo_181, lo_183, lo_184, lo_185, lo_186, lo_187, lo_188, lo_189, lo_190, lo_191, lo_192, lo_193, lo_194, lo_195, lo_196, lo_197, lo_198, lo_199, lo_200, lo_201, lo_202, lo_203, jp_nn, jp_eq, jp_e1, Classical.not_not, ji0, ji1, ji2, cs78_236, kk_236, cs78_274, kk_274, cs78_285, kk_285c, jl_0, jl_1, jl_2, jl_3, jl_4, jl_5, jl_6, jl_7, jl_8, jl_9, jl_10, jl_11, jl_12, jl_13, jl_14, jl_15, jl_16, jl_17, jl_18, jl_19, jl_20, jl_21, jl_22, jl_23, jl_24, jl_25, jl_26, jl_27, jl_28, jl_29, jl_30, jl_31, jl_32, jl_33, jl_34, jl_35, jl_36, jl_37, jl_38, jl_39, jl_40, jl_95, jl_96, jl_97, jl_98, jl_99, jl_100, jl_101, jl_102, jl_103, jl_104, jl_105, jl_106, jl_107, jl_108, jl_109, jl_110, jl_111, jl_112, jl_113, jl_114, jl_186, jl_1100, jr, ju, jpT, jpF, tnc, Nat.reduceEqDiff, reduceIte, and_false, false_and, not_true_eq_false, not_false_eq_true, or_false, gt_iff_lt, ge_iff_le, Int.lt_irrefl, Int.le_refl, z0, y]
      exact q1_w y _ up_eq
  · exact hQ.elim
theorem snd_78 {xs : Nat → Int} {L K : Nat} : ∀ n, SndC CS78 (evF xs L g_ck K g_cW g_M n) := snd_all snd_77 (fun f av h Q hQ => by
  unfold CS78 at hQ
  split at hQ
  · exact Or.inr m_24u
  · exact Or.inr m_286
  · exact Or.inl hQ)
section PRA
variable {X : XH → Prop} {xs : Nat → Int} {L K m n : Nat} {c d : Nat} {h h1 h2 : XH} {D : DD} {x y z u : Int} {CC_w : CSt}
theorem askCP {P : DD → (Nat → Int) → Prop} {f r : Nat} {ws_w : List Int} {ok : DD → List Int → Prop} {v : DD → (Nat → Int) → List Int → Int} (hp : ∀ D h, X h → RF D h → SM D h → P D (cl 70 h) ∧ P D (bl 0 h)) (snd : ∀ n, SndC CC_w (evF xs L g_ck K g_cW g_M n)) (cf_w : ∀ h Q, CC_w f (0 :: ws_w) h Q = kCP P ok v (0 :: ws_w) h Q) (cr : ∀ h Q, CC_w r (182 :: ws_w) h Q = kRP P ok v (182 :: ws_w) h Q) (cg : ∀ D a b, WFD D → EqD D a b → ok D ws_w → v D a ws_w = v D b ws_w) : AskC X xs L K m n f r (0 :: ws_w) ws_w := by
  intro c d c' d' h hX h1 h2 D kk g r1_w v2 hx cd rf sm_w lq hz e1_w e2_w
  obtain ⟨p1_w, p2_w⟩ := hp D h hx rf sm_w
  have sp_w := setp_of cd rf sm_w lq
  have rp := (rset_of rf sm_w lq).fr (fun o k a b => hz o k (by omega) (by omega))
  have eb : bl 0 h1 = bl 0 h := funext fun q => hz 194 _ (by decide) (by decide)
  have c1_w : CC_w f (0 :: ws_w) h (fun k r h' => (k = 4 → ¬ ok D ws_w) ∧ (k = 1 → ok D ws_w ∧ r = [v D (cl 70 h) ws_w])) := by
    rw [cf_w]
    exact ⟨rfl, D, sp_w, p1_w, fun z h' => ⟨fun _ => z, fun w => absurd w (by decide)⟩, fun z h' => ⟨fun w => absurd w (by decide), fun _ => ⟨z, rfl⟩⟩⟩
  have c2 : CC_w r (182 :: ws_w) h1 (fun k r h' => k = 1 → (¬ ok D ws_w → h' 182 0 = 1) ∧ (ok D ws_w → h' 182 0 = 0 ∧ r = [v D (bl 0 h1) ws_w])) := by
    rw [cr]
    exact ⟨rfl, D, rp, by rw [eb]; exact p2_w, fun z h' t _ => ⟨fun _ => t, fun w => absurd w z⟩, fun z h' t _ => ⟨fun w => absurd z w, fun _ => ⟨t, rfl⟩⟩⟩
  have s1_w := (snd m _ _ _ _ _ c1_w _ _ _ _ e1_w).2
  have s2_w := (snd n _ _ _ _ _ c2 _ _ _ _ e2_w).2 rfl
  refine ⟨fun k4 => s2_w.1 (s1_w.1 k4), fun k1_w => ?_⟩
  obtain ⟨o1, e3_w⟩ := s1_w.2 k1_w
  obtain ⟨t, e4_w⟩ := s2_w.2 o1
  refine ⟨t, e3_w.trans (Eq.trans ?_ e4_w.symm)⟩
  rw [eb, cg D _ _ rf.w sm_w.2.2.1 o1]
theorem sup_both (r : RSU h) (rf : RF D h) (sm_w : SM D h) : SUPA D (cl 70 h) ∧ SUPA D (bl 0 h) := ⟨SUPA.cg rf.w sm_w.2.2.1 (supa_of r rf), supa_of r rf⟩
theorem proof_c : AskC RSU xs L K m n 24 286 [0, x] [x] := askCP (P := SUPA) (ok := okPr) (v := vPrf) (fun D h r rf sm_w => sup_both r rf sm_w) snd_78 (fun h Q => by rw [cs78_24]; rfl) (fun h Q => by rw [cs78_286]; rfl) (fun D a b w e o => by
  have := w.cn
  have o : 0 ≤ x ∧ x < D.1 := o
  show prfA D a x.toNat = prfA D b x.toNat
  exact prfA_cg w e (by omega))
end PRA
end
section
/-! ===== contracts: days by draws ===== -/
section DYS
variable {D : DD} {a b : Nat → Int} {g n k : Nat} {v : Int} {h : XH}
theorem SUPA.up (p : SUPA D a) (hk : k < 78) : SUPA D (updF a k v) := fun m s hm_w hs => by
  rw [updF_ne (by omega)]
  exact p m s hm_w hs
end DYS
end
section
/-! ===== contracts: who, ask_w ===== -/
def SER (D : DD) (n : Nat) (h : XH) : Prop := n ≤ 8 ∧ h 194 404 = (n : Int) ∧ ∀ i : Nat, i < n → 0 ≤ h 194 (405 + 3 * i) ∧ (h 194 (405 + 3 * i)).toNat < nS D
end
section
/-! ===== contracts: who and ask_w, whole_w ===== -/
section KKT3
variable {h h' h1 h2 : XH} {Q : Nat → List Int → XH → Prop} {t b s n w g i x : Int} {D : DD} {v : Int}
theorem SER.th (s : SER D n.toNat h) : SER D n.toNat (j_up h 182 0 v) := ⟨s.1, (up_ne (by omega)).trans s.2.1, fun i z => by
  rw [up_ne (by omega)]
  exact s.2.2 i z⟩
end KKT3
end
