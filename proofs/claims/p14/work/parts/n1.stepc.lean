/-! ===== the law's compare_w of a question_w that may_w throw_w ===== -/
def fwC2 : SX := sx 10 (sx 20 (sx 32 (sx 30 (sx 3 (sv 2) z0 z0) (sx 31 z0 z0 z0) z0) (sv 182) z0) (sx 3 (sv 5) z0 z0) (sv 1)) (sx 27 (sx 1 z0 (sv 1) z0) z0 z0) z0
def fwC4 : SX := sx 22 (sx 7 (sx 3 (sv 3) z0 z0) (sx 1 z0 (sv 1) z0) z0) (sx 18 (sx 3 (sv 6) z0 z0) z0 (sv 2)) (sv 1)
def fwC3 : SX := sx 10 (sx 25 (sx 21 (sx 3 (sv 5) z0 z0) z0 z0) fwC4 z0) (sx 27 (sx 1 z0 (sv 1) z0) z0 z0) z0
section STEPC
variable {xs : Nat → Int} {L K : Nat} {F : XP} {I : XH → Prop} {i s t u v : Int} {c d : Nat} {h : XH}
theorem c2_ev (hT_w : F 182 [182] ((a_g3, c, d), h) = some (1, [h 182 0], ((a_g3, c, d), h))) (e : h 182 0 = u) : evS xs L g_ck F K g_cW fwC2 (lwE i u v) ((a_g3, c, d), h) = some (0, [], lwE i u v, ((a_g3, c, d), h)) := by
  have a0_w : evE xs L g_ck F g_cW (sx 30 (sx 3 (sv 2) z0 z0) (sx 31 z0 z0 z0) z0) (lwE i u v) ((a_g3, c, d), h) = some ([182], ((a_g3, c, d), h)) := arg_m arg_nil _ _ _
  have a1_w : evE xs L g_ck F g_cW (sx 32 (sx 30 (sx 3 (sv 2) z0 z0) (sx 31 z0 z0 z0) z0) (sv 182) z0) (lwE i u v) ((a_g3, c, d), h) = some ([h 182 0], ((a_g3, c, d), h)) := by
    simp only [ee_32, n_call, n_sv, a0_w, Option.bind_some, hT_w, if_true]
  have a2 : evE xs L g_ck F g_cW (sx 20 (sx 32 (sx 30 (sx 3 (sv 2) z0 z0) (sx 31 z0 z0 z0) z0) (sv 182) z0) (sx 3 (sv 5) z0 z0) (sv 1)) (lwE i u v) ((a_g3, c, d), h) = some ([j_b (j_cmp 1 (h 182 0) u)], ((a_g3, c, d), h)) := by
    rw [ee_20]
    show (evE xs L g_ck F g_cW (sx 32 (sx 30 (sx 3 (sv 2) z0 z0) (sx 31 z0 z0 z0) z0) (sv 182) z0) (lwE i u v) ((a_g3, c, d), h)).bind _ = _
    rw [a1_w]
    rfl
  have a3 : j_cmp 1 u u = false := decide_eq_false (fun z => z rfl)
  unfold fwC2
  rw [es_10]
  show (evE xs L g_ck F g_cW (sx 20 (sx 32 (sx 30 (sx 3 (sv 2) z0 z0) (sx 31 z0 z0 z0) z0) (sv 182) z0) (sx 3 (sv 5) z0 z0) (sv 1)) (lwE i u v) ((a_g3, c, d), h)).bind _ = _
  rw [a2, e, a3]
  rfl
theorem c3_ev (hu : u = 0 ∧ h 203 0 = v ∨ u = 1) : evS xs L g_ck F K g_cW fwC3 (lwE i u v) ((a_g3, c, d), h) = some (0, [], lwE i u v, ((a_g3, c, d), h)) := by
  have b1 : evE xs L g_ck F g_cW (sx 21 (sx 3 (sv 5) z0 z0) z0 z0) (lwE i u v) ((a_g3, c, d), h) = some ([j_b (j_cmp 0 u 0)], ((a_g3, c, d), h)) := rfl
  have b2 : evE xs L g_ck F g_cW (sx 7 (sx 3 (sv 3) z0 z0) (sx 1 z0 (sv 1) z0) z0) (lwE i u v) ((a_g3, c, d), h) = some ([h 203 0], ((a_g3, c, d), h)) := by
    rw [ee_7]
    unfold n_aload
    rw [ee_3, ee_1]
    show (if (0 : Int) ≤ 0 ∧ (0 : Int) < j_len a_g3 203 then some ([h 203 0], ((a_g3, c, d), h)) else none) = _
    exact if_pos ⟨by decide, by decide⟩
  have b3 : evE xs L g_ck F g_cW fwC4 (lwE i u v) ((a_g3, c, d), h) = some ([j_b (j_cmp 1 (h 203 0) v)], ((a_g3, c, d), h)) := by
    unfold fwC4
    rw [ee_22]
    show (evE xs L g_ck F g_cW (sx 7 (sx 3 (sv 3) z0 z0) (sx 1 z0 (sv 1) z0) z0) (lwE i u v) ((a_g3, c, d), h)).bind _ = _
    rw [b2]
    rfl
  have b4 : evE xs L g_ck F g_cW (sx 25 (sx 21 (sx 3 (sv 5) z0 z0) z0 z0) fwC4 z0) (lwE i u v) ((a_g3, c, d), h) = some ([0], ((a_g3, c, d), h)) := by
    rw [ee_25]
    show (evE xs L g_ck F g_cW (sx 21 (sx 3 (sv 5) z0 z0) z0 z0) (lwE i u v) ((a_g3, c, d), h)).bind (fun x => if j_hd x.1 = 0 then some ([0], x.2) else n_nz (evE xs L g_ck F g_cW fwC4) (lwE i u v) x.2) = _
    rw [b1, Option.bind_some]
    rcases hu with ⟨u0, e⟩ | u1
    · have k0_w : j_cmp 0 u 0 = true := decide_eq_true u0
      rw [k0_w]
      show (evE xs L g_ck F g_cW fwC4 (lwE i u v) ((a_g3, c, d), h)).bind (fun x => some ([j_b (decide (j_hd x.1 ≠ 0))], x.2)) = _
      have k1_w : j_cmp 1 v v = false := decide_eq_false (fun z => z rfl)
      rw [b3, e, k1_w]
      rfl
    · have k0_w : j_cmp 0 u 0 = false := decide_eq_false (by omega)
      rw [k0_w]
      rfl
  unfold fwC3
  rw [es_10]
  show (evE xs L g_ck F g_cW (sx 25 (sx 21 (sx 3 (sv 5) z0 z0) z0 z0) fwC4 z0) (lwE i u v) ((a_g3, c, d), h)).bind _ = _
  rw [b4]
  rfl
theorem step_t {A B : SX} {q r : Nat} {vs ws_w : List Int} (hA : ArgE xs L F A i vs) (hB_w : ArgE xs L F B i ws_w) (hT_w : ∀ (c d : Nat) (h : XH), F 182 [182] ((a_g3, c, d), h) = some (1, [h 182 0], ((a_g3, c, d), h))) (hP : ∀ (c d : Nat) (h : XH), I h → ∃ (v1_w : Int) (v2 : List Int) (c' d' : Nat) (h1 h2 : XH), F q vs ((a_g3, c, d), h) = some (1, [v1_w], ((a_g3, c', d'), h1)) ∧ F r ws_w ((a_g3, c', d'), h1) = some (1, v2, ((a_g3, c', d'), h2)) ∧ h2 182 0 = v1_w ∧ (v1_w = 0 ∧ [h2 203 0] = v2 ∨ v1_w = 1) ∧ I h2 ∧ c' ≤ c + 1 ∧ d' ≤ d + 6) :
    StepOK xs L K F I (sx 2 (sx 20 (sx 2 (sx 3 (sv 5) (sx 32 A (sv q) z0) z0) (sx 2 (sx 3 (sv 6) (sx 32 B (sv r) z0) z0) (sx 2 fwC2 fwC3 z0) z0) z0) z0 z0) (sx 14 z0 z0 z0) z0) i := by
  intro s t c d h hI
  obtain ⟨v1_w, v2, c', d', h1, h2, e1_w, e2_w, e6_w, e7_w, e3_w, e4_w, e5_w⟩ := hP c d h hI
  refine ⟨v1_w, j_hd v2, c', d', h2, ?_, e3_w, e4_w, e5_w⟩
  have q1_w : j_hd [v1_w] = v1_w := rfl
  have a1_w := hA s t ((a_g3, c, d), h)
  have a2 := hB_w v1_w t ((a_g3, c', d'), h1)
  have a3 := c2_ev (xs := xs) (L := L) (K := K) (F := F) (i := i) (u := v1_w) (v := j_hd v2) (hT_w c' d' h2) e6_w
  have a4 := c3_ev (xs := xs) (L := L) (K := K) (F := F) (i := i) (u := v1_w) (v := j_hd v2) (c := c') (d := d') (h := h2) (e7_w.imp (fun z => ⟨z.1, show j_hd [h2 203 0] = j_hd v2 from congrArg j_hd z.2⟩) id)
  simp only [es_2, s_seq, es_3, es_20, ee_32, n_call, lw_s5, lw_s6, n_sv, a1_w, a2, Option.bind_some, e1_w, e2_w, if_true, q1_w, a3, a4, es_14]
end STEPC
