/-! ===== what a question_w of a settlement is_w asked_w of, on_w both_w sides ===== -/
section SETOF
variable {h h1 h2 : XH} {D : DD} {a b : Nat → Int} {x y : Int}
theorem LWC_of (lq : LQ h) (rf : RF D h) (cd : CDw 6 D h) (hc_w : 0 < nC D) : LWC D h := by
  have l := cd.2.2.2.2.2 (fun z => by
    unfold nC at hc_w
    rw [z] at hc_w
    exact absurd hc_w (by decide))
  exact ⟨lwk_of lq rf rf.w, l.2.2, l.1, l.2.1⟩
theorem le_189 (lq : LQ h) {k : Nat} (hk : k < 2200) : h 189 k ≤ 2147483647 := by
  obtain ⟨P, hQ, -⟩ := lq
  exact (q_cell hQ (q := 189) (r := 0) (x := (0, 2200, (1, (-2147483648), 2147483647))) (by decide) rfl rfl (i := k) (Nat.zero_le _) hk).2.1
theorem LWR_of (lq : LQ h) (rf : RF D h) : LWR D h := by
  refine ⟨fun l e => ?_, nolaw_of rf⟩
  obtain ⟨k1_w, k2, k3⟩ := law_of lq rf rf.w e
  refine ⟨k1_w, k2, k3, fun x hx => ?_⟩
  obtain ⟨k, hk, ek⟩ := List.getElem_of_mem hx
  have z := k3 k x (by rw [List.getElem?_append_left hk, List.getElem?_eq_getElem hk, ek])
  rw [← z]
  exact le_189 lq (by have := k1_w.2.2; omega)
theorem RGA.cg (e : EqD D a b) (r : RGA D b) : RGA D a := ⟨fun q z => by rw [e q (Or.inl z)]; exact r.1 q z, fun q z1 z2 => by rw [e q (Or.inr (Or.inl ⟨z1, z2⟩))]; exact r.2.1 q z1 z2, fun q z1 z2 => by rw [e q (Or.inr (Or.inr (Or.inl ⟨z1, z2⟩)))]; exact r.2.2 q z1 z2⟩
theorem RGA_of (lq : LQ h) (m6_w : nM D ≤ 6) (s12 : nS D ≤ 12) : RGA D (bl 0 h) := by
  obtain ⟨P, hQ, -⟩ := lq
  have ce : ∀ q : Nat, bl 0 h q = h 194 (429 * 0 + q) := fun q => rfl
  refine ⟨fun q z => ?_, fun q z1 z2 => ?_, fun q z1 z2 => ?_⟩
  · have k := s_cell hQ (r := 0) (x := (0, 78, (1, (-1), 9999))) rfl (i := q) (j := 0) (Nat.zero_le _) (by dsimp only; omega) (by decide)
    rw [ce]
    exact ⟨k.1, k.2.1⟩
  · have k := s_cell hQ (r := 1) (x := (78, 150, (1, 0, 3))) rfl (i := q) (j := 0) z1 (by dsimp only; omega) (by decide)
    rw [ce]
    exact ⟨k.1, k.2.1⟩
  · have k := s_cell hQ (r := 2) (x := (150, 162, (1, 0, 9999))) rfl (i := q) (j := 0) z1 (by dsimp only; omega) (by decide)
    rw [ce]
    exact ⟨k.1, k.2.1⟩
theorem setp_of (cd : CDw 6 D h) (rf : RF D h) (sm_w : SM D h) (lq : LQ h) : SETP D h := ⟨rf.w, cd, LWC_of lq rf cd, RGA.cg sm_w.2.2.1 (RGA_of lq sm_w.1 sm_w.2.1)⟩
theorem rset_of (rf : RF D h) (sm_w : SM D h) (lq : LQ h) : RSET D h := ⟨rf.w, rf, LWR_of lq rf, RGA_of lq sm_w.1 sm_w.2.1⟩
end SETOF
