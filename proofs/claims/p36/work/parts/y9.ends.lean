/-! ===== every script_w: the law_w ends_w with 1 within_w its room_w ===== -/
def KK : Nat := 20000000000
def a_preK : AX (Nat × List AV × List AV × AS) := abS ([], none) (abF ([], none) 0 g_ck KK g_cW g_M 90) 0 g_ck KK g_cW (sx 2 lawX (sx 2 lawM lawO z0) z0) a_en0 (([], 0, 0), [])
theorem a_preK_ok : a_isPre a_preK = true := by decide +kernel
theorem pre_nsc : n_scr (sx 2 lawX (sx 2 lawM lawO z0) z0) = true := by decide +kernel
theorem pre_K {xs : Nat → Int} {L : Nat} : evS xs L g_ck (evF xs L g_ck KK g_cW g_M 90) KK g_cW (sx 2 lawX (sx 2 lawM lawO z0) z0) [0, 0, 0, 0, 0, 0, 0] (([], 0, 0), fun _ _ => 0) = some (0, [], lwE 0 0 0, ((a_g3, 204, 18152), i0)) := by
  have hs : SatA xs ([], none) := ⟨fun i lo_w hi_w h => (by cases h), fun v h => (by cases h)⟩
  have h := a_isPre_ok a_preK_ok
  unfold a_preK at h
  have e := ss_all (L := 0) (ck := g_ck) (K := KK) (cW := g_cW) hs (sf_all (L := 0) (ck := g_ck) (K := KK) (cW := g_cW) (M := g_M) hs 90) _ _ _ _ h
  rw [ns_S (ys := xs) (L' := 0) (F' := evF xs 0 g_ck KK g_cW g_M 90) (ns_F g_nsM 90) _ pre_nsc]
  have e2_w : a_c xs a_s3 = ((a_g3, 204, 18152), i0) := by
    rw [← i_heap xs]
    rfl
  rw [← e2_w]
  exact e
theorem seq_3 {A B C D : XR} {en en' : List Int} {st st' : XT} {v : List Int} (h : s_seq A (s_seq B C) en st = some (0, v, en', st')) : s_seq A (s_seq B (s_seq C D)) en st = D en' st' := by
  obtain ⟨x, h1, h⟩ := j_bd h
  unfold s_seq
  rw [h1, Option.bind_some]
  by_cases h0 : x.1 = 0
  · rw [if_pos h0] at h ⊢
    obtain ⟨y, h2, h⟩ := j_bd h
    rw [h2, Option.bind_some]
    by_cases h3 : y.1 = 0
    · rw [if_pos h3] at h ⊢
      rw [h, Option.bind_some]
      exact if_pos rfl
    · rw [if_neg h3] at h
      cases h
      exact absurd rfl h3
  · rw [if_neg h0] at h
    cases h
    exact absurd rfl h0
theorem rest_K {xs : Nat → Int} {L : Nat} : ev_law xs L KK 90 = evS xs L g_ck (evF xs L g_ck KK g_cW g_M 90) KK g_cW lawR (lwE 0 0 0) ((a_g3, 204, 18152), i0) := by
  have e := pre_K (xs := xs) (L := L)
  unfold ev_law
  generalize evF xs L g_ck KK g_cW g_M 90 = F at e ⊢
  rw [law_eq, es_2, es_2, es_2]
  rw [es_2, es_2] at e
  exact seq_3 e
theorem law_ends {xs : Nat → Int} (hx : ∀ j, InI (xs j)) {L : Nat} (hL : L ≤ 3584) : ∃ (en' : List Int) (st' : XT), ev_law xs L KK 90 = some (1, [1], en', st') ∧ st'.1.2.1 ≤ 601024 ∧ st'.1.2.2 ≤ 7293034 := by
  obtain ⟨en', c', d', h', e1_w, e2_w, e3_w⟩ := lw_end (xs := xs) (L := L) (K := KK) (F := evF xs L g_ck KK g_cW g_M 90) (I := Inv5) (m := 512) (by omega) (by omega) (show 513 ≤ 20000000000 by decide) (fun i h0 h1 => law_cases (n := 49) hx (Nat.le_refl _) (by decide) (by omega) h0 h1) (c := 204) (d := 18152) inv5_i0
  refine ⟨en', ((a_g3, c', d'), h'), ?_, ?_, ?_⟩
  · rw [rest_K, fw_r]
    exact e1_w
  · show c' ≤ 601024
    omega
  · show d' ≤ 7293034
    omega
