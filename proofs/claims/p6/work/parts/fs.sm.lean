/-! ===== the state_w as_w a grid leaves it, and at the beginning ===== -/
section SMB
variable {h h' : XH} {D : DD}
theorem SM.begin (cd : CDw 6 D h) (rf : RF D h) (lb : LB 70 D h h) (b1 : h 154 1 = 0) (b2 : h 0 13 = 0) (b3 : h 0 14 = 0) (br : BGR (nM D) (nS D) h) : SM D h := by
  obtain ⟨l1, l2, l3, l4, l5⟩ := lb
  obtain ⟨r1_w, r2, -, r4, -, r6, r7⟩ := br
  have ix := rf.ix
  have m6_w : nM D ≤ 6 := ix.1.2.2.2.2.2
  have s12 : nS D ≤ 12 := by
    have := ix.2.1.2
    unfold nS
    omega
  refine ⟨m6_w, s12, fun q i => ?_, ⟨0, by decide, l5, r2, fun i z => by omega⟩, ⟨0, by decide, b1, r4, fun i z => by omega⟩, ⟨Or.inl r6, ⟨fun _ => r6, fun _ => b2⟩, fun z => absurd r6 z⟩, ⟨Or.inl r7, ⟨fun _ => r7, fun _ => b3⟩, fun z => absurd r7 z⟩⟩
  have l := i.le m6_w s12
  have e := r1_w q (by omega)
  show cl 70 h q = h 194 (0 + q)
  rw [e]
  by_cases y1 : q < 78
  · rw [if_pos y1, cl_lo y1]
    exact l1 q y1
  · rw [if_neg y1]
    by_cases y2 : q < 78 + 12 * nM D
    · rw [if_pos y2, cl_su (by omega) (by omega)]
      obtain ⟨x, hx⟩ : ∃ x, D.2.2.2.2.1[(q - 78) / 12]? = some x := ⟨_, List.getElem?_eq_getElem (show (q - 78) / 12 < D.2.2.2.2.1.length by
        show (q - 78) / 12 < nM D
        omega)⟩
      have e1_w := l2 _ x hx ((q - 78) % 12) (by omega)
      have e2_w := (ix.2.2.2.2.2.2 _ x hx).2.2
      rw [e2_w, ← e1_w]
      exact congrArg (h 74) (by omega)
    · rw [if_neg y2]
      unfold inD at i
      by_cases y3 : 150 ≤ q ∧ q < 150 + nS D
      · rw [if_pos y3, cl_fe (by omega) (by omega)]
        refine (l3 _ (by omega)).trans ((cd.2.2.1 _ (by omega)).trans (ix.2.2.2.2.1 _ (by omega)).symm)
      · rw [if_neg y3, cl_ru (by omega)]
        exact l4
theorem sm_i0 : SM DD0 i0 := by
  have a1_w : i0 70 10 = 0 := by decide +kernel
  have a2 : i0 70 11 = 0 := by decide +kernel
  have a3 : i0 154 1 = 0 := by decide +kernel
  have a4 : i0 0 13 = 0 := by decide +kernel
  have a5 : i0 0 14 = 0 := by decide +kernel
  have a6 : i0 194 162 = 0 := by decide +kernel
  have a7 : i0 194 404 = 0 := by decide +kernel
  have a8 : i0 182 18 = 0 := by decide +kernel
  have a9 : i0 195 0 = 0 := by decide +kernel
  have a10 : i0 195 1 = 0 := by decide +kernel
  refine ⟨by decide, by decide, fun q i => ?_, ⟨0, by decide, a2, a7, fun i z => by omega⟩, ⟨0, by decide, a3, a8, fun i z => by omega⟩, ⟨Or.inl a9, ⟨fun _ => a9, fun _ => a4⟩, fun z => absurd a9 z⟩, ⟨Or.inl a10, ⟨fun _ => a10, fun _ => a5⟩, fun z => absurd a10 z⟩⟩
  have e : q = 162 := by
    have m0_w : nM DD0 = 0 := rfl
    have s0 : nS DD0 = 0 := rfl
    unfold inD at i
    rw [m0_w, s0] at i
    omega
  subst e
  show cl 70 i0 162 = i0 194 (0 + 162)
  rw [cl_ru (by decide), a1_w]
  exact a6.symm
end SMB
