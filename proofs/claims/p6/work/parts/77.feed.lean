/-! ===== feed, as the law sees it: both sides ===== -/
section FEED7
variable {xs : Nat → Int} {L K c d n : Nat} {F : XP}
theorem kd_ty {q kd : Nat} (h : (match a_g3[q]? with | some c' => decide (c'.1 = kd) | none => false) = true) : ∃ c', a_g3[q]? = some c' ∧ c'.1 = kd := by
  split at h
  · exact ⟨_, by assumption, of_decide_eq_true h⟩
  · cases h
theorem cy_183 : ∀ j, c_ty g_fk a_g3 183 j = 1 := by
  obtain ⟨c', h, e⟩ := kd_ty (q := 183) (kd := 6) (by decide +kernel)
  exact fun j => (ty_arr h j).1 e
theorem in_byC (s : Int) : InI (byC s) := by
  unfold byC
  exact ⟨Int32.le_toInt _, by have := Int32.toInt_lt ((Int32.ofInt (j_un 4 s)).toInt8.toInt32); omega⟩
theorem kpA_HT : KpA 2 3 (HT g_fk a_g3) := fun h m s hH => by
  unfold upA
  split
  · exact (up_i cy_3 hH (in_byC s)).up (fun _ => iop_in _ _ _) (fun e => absurd (cy_21.symm.trans e) (by decide)) (fun e => absurd (cy_21.symm.trans e) (by decide))
  · exact hH
theorem cy_r : ∀ k, k < 4 → c_ty g_fk a_g3 182 k ≠ 2 ∧ c_ty g_fk a_g3 182 k ≠ 100 := by decide +kernel
theorem kpM_HT : KpM 182 183 (HT g_fk a_g3) := fun h m s hs hH => by
  unfold upM
  split
  · exact (up_i cy_183 hH hs).up (fun _ => iop_in _ _ _) (fun e => absurd e (cy_r 2 (by decide)).1) (fun e => absurd e (cy_r 2 (by decide)).2)
  · exact hH
/-- what class and reference are known to be before and after each call of the law -/
def Lnk (h : XH) : Prop := HT g_fk a_g3 h ∧ 0 ≤ h 2 1 ∧ h 2 1 ≤ 1000 ∧ h 182 2 = h 2 1
theorem feed_ok (hK : 4294967300 ≤ K) {h : XH} {a b e : Int} (hL : Lnk h) : ∃ v h1 h2, evF xs L g_ck K g_cW g_M (n + 2) 1 [0, a, b, e] ((a_g3, c, d), h) = some (1, [v], ((a_g3, c, d), h1)) ∧ evF xs L g_ck K g_cW g_M (n + 2) 183 [182, a, b, e] ((a_g3, c, d), h1) = some (1, [v], ((a_g3, c, d), h2)) ∧ Lnk h2 := by
  obtain ⟨hH, m0, m1, hm⟩ := hL
  obtain ⟨h1, e1, e2, e3⟩ := fqA (xs := xs) (L := L) (ck := g_ck) (cW := g_cW) (K := K) (n := n) (a := a) (b := b) (c := e) (g := (a_g3, c, d)) (h := h) (by omega) fg_1 fg_2 fg_3 fg_4 (by decide) rfl ⟨m0, m1⟩
  have k1 : HT g_fk a_g3 h1 := e3 _ kpA_HT hH
  have k2 : h1 182 2 = h 2 1 := e3 (fun h' => h' 182 2 = h 2 1) (fun h' m s p => by
    unfold upA
    split
    · rw [up_ne (fun z => absurd z.1 (by decide)), up_ne (fun z => absurd z.1 (by decide))]
      exact p
    · exact p) hm
  obtain ⟨h2, f1, f2, f3⟩ := fqM (xs := xs) (L := L) (ck := g_ck) (cW := g_cW) (K := K) (n := n) (a := a) (b := b) (c := e) (g := (a_g3, c, d)) (h := h1) (by omega) fg_5 fg_6 (by decide) k2 ⟨m0, m1⟩
  have z1 : HT g_fk a_g3 (j_up h1 (182 : Int).toNat 0 0) := k1.up (fun _ => in_0) (fun e => absurd e (cy_r 0 (by decide)).1) (fun e => absurd e (cy_r 0 (by decide)).2)
  have k3 : HT g_fk a_g3 h2 := f3 _ kpM_HT z1
  have e2' : h1 2 1 = fclT (h 2 1) a b e := e2
  have k4 : h2 2 1 = fclT (h 2 1) a b e := f3 (fun h' => h' 2 1 = fclT (h 2 1) a b e) (fun h' m s _ p => by
    unfold upM
    split
    · rw [up_ne (fun z => absurd z.1 (by decide)), up_ne (fun z => absurd z.1 (by decide))]
      exact p
    · exact p) ((up_ne (fun z => absurd z.1 (by decide))).trans e2')
  have hin : 0 ≤ fclT (h 2 1) a b e ∧ fclT (h 2 1) a b e ≤ 1000 := fcl_in 8 (fcl_in 8 (fcl_in 8 ⟨m0, m1⟩))
  exact ⟨_, h1, h2, e1, f1, k3, k4.symm ▸ hin.1, k4.symm ▸ hin.2, f2.trans k4.symm⟩
/-- a call of the class that is neither feed nor grid nor work keeps the link and the reference's cells -/
theorem cls_lnk (hK : 4294967300 ≤ K) {f : Nat} (hd : g_dp f < n) (hd2 : g_dp f < 99999) {h : XH} {av : List Int} (hL : Lnk h) (hv : VL (fun _ => 0) a_g3 ((g_T 0).2.1 f) av) : ∃ cc r g' h', evF xs L g_ck K g_cW g_M n f av ((a_g3, c, d), h) = some (cc, r, (g', h')) ∧ Lnk h' ∧ KeptC h h' ∧ ((cc = 1 ∧ g' = (a_g3, c, d) ∧ VL (fun _ => 0) a_g3 ((g_T 0).2.2.1 f) r) ∨ (cc = 4 ∧ g_THR f = true ∧ g' = (a_g3, c + 1, d + 6))) := by
  obtain ⟨hH, m0, m1, hm⟩ := hL
  obtain ⟨k1, k2⟩ := g_cls (xs := xs) (L := L) (c := c) (d := d) hK n f hd hd2
  obtain ⟨cc, r, g', h', e1, e2, e3, e4⟩ := k1 av h hH hv
  refine ⟨cc, r, g', h', e1, ⟨e2, ?_, ?_, ?_⟩, e3.kp, ?_⟩
  · rw [e3 2 1 ro_21]; exact m0
  · rw [e3 2 1 ro_21]; exact m1
  · rw [e3 2 1 ro_21, e3.kp 182 2 (Nat.le_refl _)]; exact hm
  · rcases e4 with e4 | ⟨e4, e5⟩
    · exact Or.inl e4
    · refine Or.inr ⟨e4, ?_, e5⟩
      cases hx : g_THR f with
      | true => rfl
      | false =>
        obtain ⟨r2, h2, q1, -⟩ := k2 hx av h hH hv
        rw [e1] at q1
        have : cc = 1 := congrArg Prod.fst (Option.some.inj q1)
        omega
end FEED7
