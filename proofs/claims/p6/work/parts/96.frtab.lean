/-! ===== what the reference's methods may_w write_w: this claim's table_w (written_w by wip/tools/frtab.py) ===== -/
def m_W : Nat → List Nat × List Nat := fun f => bif Nat.ble 183 f then t_at [[([0, 2], [183]), ([2], [183]), ([], []), ([], []), ([], []), ([], []), ([], []), ([2, 3, 7, 8], [184, 185, 186]), ([8], []), ([], []), ([], []), ([7, 8], []), ([7], []), ([7], []), ([7, 8], []), ([], [])],
  [([], [188]), ([7, 8], []), ([], []), ([7, 8], []), ([], []), ([], []), ([7, 8], []), ([0, 2, 3, 7, 8, 12, 18, 19], [184, 185, 186, 188, 189, 190, 191, 194, 195]), ([], []), ([7, 8], [190]), ([7, 8], [188]), ([7, 8, 12], [188, 189, 190]), ([7, 8], [188]), ([7, 8], [188, 190]), ([7, 8], [188, 190]), ([0, 2, 3, 7, 8], [184, 185, 186, 191])],
  [([7, 8], [191]), ([12], [189]), ([7, 8, 12], [189]), ([7, 8, 12], [189]), ([7, 8, 12], [189]), ([7, 8, 12], [189]), ([7, 8, 12], [189]), ([], [193]), ([], []), ([], [194]), ([], []), ([], []), ([], []), ([], []), ([], []), ([], [])],
  [([], []), ([], []), ([], []), ([], []), ([], []), ([], []), ([], []), ([], []), ([], []), ([], [194]), ([18, 19], [191, 194, 195]), ([18], [194]), ([], []), ([], []), ([], []), ([], [])],
  [([], []), ([], []), ([], []), ([], []), ([], [201, 202]), ([], []), ([], [192, 193]), ([25], [192, 193, 196, 197, 198, 199, 200, 201, 202]), ([], [197, 200, 201, 202]), ([], []), ([], []), ([25], [192, 193, 196, 197, 198, 199, 200, 201, 202]), ([25], [192, 193, 196, 197, 198, 199, 200, 201, 202]), ([], []), ([0], []), ([0], [])],
  [([0], []), ([], [194]), ([0, 18], [194]), ([], [194]), ([0, 18], [194]), ([0, 18], [194]), ([], [194]), ([25], [192, 193, 194, 196, 197, 198, 199, 200, 201, 202]), ([0, 18, 25], [192, 193, 194, 196, 197, 198, 199, 200, 201, 202]), ([0, 18], [194]), ([0, 25], [192, 193, 194, 196, 197, 198, 199, 200, 201, 202]), ([0], []), ([0], []), ([0], []), ([0, 25], [192, 193, 196, 197, 198, 199, 200, 201, 202]), ([0, 25], [192, 193, 196, 197, 198, 199, 200, 201, 202])],
  [([0, 25], [192, 193, 196, 197, 198, 199, 200, 201, 202]), ([0, 25], [192, 193, 196, 197, 198, 199, 200, 201, 202]), ([0, 25], [192, 193, 196, 197, 198, 199, 200, 201, 202]), ([0, 25], [192, 193, 196, 197, 198, 199, 200, 201, 202]), ([0], []), ([0], []), ([25], [192, 193, 196, 197, 198, 199, 200, 201, 202]), ([0, 25], [192, 193, 196, 197, 198, 199, 200, 201, 202]), ([25], [192, 193, 196, 197, 198, 199, 200, 201, 202]), ([0, 25], [192, 193, 196, 197, 198, 199, 200, 201, 202]), ([0], []), ([], []), ([], []), ([0], []), ([0], []), ([0, 25], [192, 193, 196, 197, 198, 199, 200, 201, 202])],
  [([0], []), ([0], []), ([0], []), ([19], [194]), ([0, 19, 25], [192, 193, 194, 196, 197, 198, 199, 200, 201, 202]), ([0, 19, 25], [192, 193, 194, 196, 197, 198, 199, 200, 201, 202]), ([19, 25], [192, 193, 194, 196, 197, 198, 199, 200, 201, 202]), ([0, 19, 25], [192, 193, 194, 196, 197, 198, 199, 200, 201, 202]), ([0, 19, 25], [192, 193, 194, 196, 197, 198, 199, 200, 201, 202]), ([0], [194]), ([25], [192, 193, 196, 197, 198, 199, 200, 201, 202]), ([0, 25], [192, 193, 196, 197, 198, 199, 200, 201, 202]), ([0, 25], [192, 193, 196, 197, 198, 199, 200, 201, 202]), ([25], [192, 193, 196, 197, 198, 199, 200, 201, 202]), ([29], []), ([0, 19, 25, 29], [192, 193, 194, 196, 197, 198, 199, 200, 201, 202])],
  [([0, 18], [194, 195]), ([], []), ([0], []), ([], []), ([], []), ([], []), ([], []), ([], []), ([], []), ([], []), ([], []), ([], []), ([], []), ([], []), ([], []), ([], [])]] ([], []) (f - 183) else ([], [])
def m_st (f : Nat) : Bool := [186, 187, 188, 189, 198, 223, 246].any (fun q => Nat.beq q f)
def m_in (f : Nat) : Bool := Nat.ble 183 f && Nat.blt f 314 && !(Nat.beq f 185)
def fr_M (f : Nat) : Bool := (fr_S m_W m_in m_st (m_st f) (m_W f) (g_M f).2.2.2.2).1 && (m_st f || (match (g_M f).2.2.1 with
  | k :: _ => k == 20
  | [] => false))
theorem lay_0 {pk_w : List Nat} {ml_w : Nat} {av : List Int} (h : (match pk_w with
  | k :: _ => k == 20
  | [] => false) = true) (ha_w : av.getD 0 0 = 182) : (j_pad 0 ml_w (j_lay pk_w av)).getD 0 0 = 182 := by
  match pk_w, h, av, ha_w with
  | k :: ks_w, h, v :: vs, ha_w =>
    have hk : k = 20 := by simpa using h
    subst hk
    exact ha_w
  | [], h, _, _ => cases h
  | _ :: _, _, [], ha_w => exact absurd ha_w (by decide)
theorem fr_step {xs : Nat → Int} {L K n : Nat} {ck : Nat → List Nat} {cW : Nat → Nat → Int} (hm_w : ∀ f, m_in f = true → fr_M f = true) (hF : FrF m_W m_in m_st (evF xs L ck K cW g_M n)) : FrF m_W m_in m_st (evF xs L ck K cW g_M (n + 1)) := fun f av g h c r g' h' hf hg ht he => by
  have h1 := hm_w f hf
  rw [fr_M, Bool.and_eq_true, Bool.or_eq_true] at h1
  rw [evF_s] at he
  obtain ⟨⟨c1_w, v1_w, en1, g1, h2⟩, e1_w, e2_w⟩ := j_bd he
  obtain ⟨-, e3_w⟩ := j_if e2_w
  cases e3_w
  have hen : m_st f = true ∨ (j_pad 0 (g_M f).2.1 (j_lay (g_M f).2.2.1 av)).getD 0 0 = 182 := by
    rcases ht with ht | ht
    · exact Or.inl ht
    · rcases h1.2 with h3 | h3
      · exact Or.inl h3
      · exact Or.inr (lay_0 h3 ht)
  obtain ⟨k1_w, k2, -⟩ := (fr_S_ok (xs := xs) (L := L) (ck := ck) (cW := cW) (K := K) hF (g_M f).2.2.2.2).1 h1.1 _ _ _ _ _ _ _ _ hg hen e1_w
  exact ⟨k1_w, k2⟩
theorem mk_183 : (List.range 8).all (fun k => !(m_in (183 + k)) || fr_M (183 + k)) = true := by decide +kernel
theorem mk_191 : (List.range 8).all (fun k => !(m_in (191 + k)) || fr_M (191 + k)) = true := by decide +kernel
theorem mk_199 : (List.range 8).all (fun k => !(m_in (199 + k)) || fr_M (199 + k)) = true := by decide +kernel
theorem mk_207 : (List.range 8).all (fun k => !(m_in (207 + k)) || fr_M (207 + k)) = true := by decide +kernel
theorem mk_215 : (List.range 8).all (fun k => !(m_in (215 + k)) || fr_M (215 + k)) = true := by decide +kernel
theorem mk_223 : (List.range 8).all (fun k => !(m_in (223 + k)) || fr_M (223 + k)) = true := by decide +kernel
theorem mk_231 : (List.range 8).all (fun k => !(m_in (231 + k)) || fr_M (231 + k)) = true := by decide +kernel
theorem mk_239 : (List.range 8).all (fun k => !(m_in (239 + k)) || fr_M (239 + k)) = true := by decide +kernel
theorem mk_247 : (List.range 8).all (fun k => !(m_in (247 + k)) || fr_M (247 + k)) = true := by decide +kernel
theorem mk_255 : (List.range 8).all (fun k => !(m_in (255 + k)) || fr_M (255 + k)) = true := by decide +kernel
theorem mk_263 : (List.range 8).all (fun k => !(m_in (263 + k)) || fr_M (263 + k)) = true := by decide +kernel
theorem mk_271 : (List.range 8).all (fun k => !(m_in (271 + k)) || fr_M (271 + k)) = true := by decide +kernel
theorem mk_279 : (List.range 8).all (fun k => !(m_in (279 + k)) || fr_M (279 + k)) = true := by decide +kernel
theorem mk_287 : (List.range 8).all (fun k => !(m_in (287 + k)) || fr_M (287 + k)) = true := by decide +kernel
theorem mk_295 : (List.range 8).all (fun k => !(m_in (295 + k)) || fr_M (295 + k)) = true := by decide +kernel
theorem mk_303 : (List.range 8).all (fun k => !(m_in (303 + k)) || fr_M (303 + k)) = true := by decide +kernel
theorem mk_311 : (List.range 8).all (fun k => !(m_in (311 + k)) || fr_M (311 + k)) = true := by decide +kernel
theorem mk_all : ∀ f, m_in f = true → fr_M f = true := fun f hf => by
  have hf2 := hf
  simp only [m_in, Bool.and_eq_true, Nat.ble_eq, Nat.blt_eq] at hf2
  obtain ⟨⟨h0, h1⟩, -⟩ := hf2
  have key_w : ∀ i : Nat, (List.range 8).all (fun k => !(m_in (i + k)) || fr_M (i + k)) = true → i ≤ f → f < i + 8 → fr_M f = true := fun i h a b => by
    have h3 := List.all_eq_true.mp h (f - i) (List.mem_range.mpr (by omega))
    rw [show i + (f - i) = f by omega, hf] at h3
    simpa using h3
  by_cases h183 : f < 191
  · exact key_w 183 mk_183 (by omega) (by omega)
  by_cases h191 : f < 199
  · exact key_w 191 mk_191 (by omega) (by omega)
  by_cases h199 : f < 207
  · exact key_w 199 mk_199 (by omega) (by omega)
  by_cases h207 : f < 215
  · exact key_w 207 mk_207 (by omega) (by omega)
  by_cases h215 : f < 223
  · exact key_w 215 mk_215 (by omega) (by omega)
  by_cases h223 : f < 231
  · exact key_w 223 mk_223 (by omega) (by omega)
  by_cases h231 : f < 239
  · exact key_w 231 mk_231 (by omega) (by omega)
  by_cases h239 : f < 247
  · exact key_w 239 mk_239 (by omega) (by omega)
  by_cases h247 : f < 255
  · exact key_w 247 mk_247 (by omega) (by omega)
  by_cases h255 : f < 263
  · exact key_w 255 mk_255 (by omega) (by omega)
  by_cases h263 : f < 271
  · exact key_w 263 mk_263 (by omega) (by omega)
  by_cases h271 : f < 279
  · exact key_w 271 mk_271 (by omega) (by omega)
  by_cases h279 : f < 287
  · exact key_w 279 mk_279 (by omega) (by omega)
  by_cases h287 : f < 295
  · exact key_w 287 mk_287 (by omega) (by omega)
  by_cases h295 : f < 303
  · exact key_w 295 mk_295 (by omega) (by omega)
  by_cases h303 : f < 311
  · exact key_w 303 mk_303 (by omega) (by omega)
  by_cases h311 : f < 319
  · exact key_w 311 mk_311 (by omega) (by omega)
  omega
theorem fr_all {xs : Nat → Int} {L K : Nat} {ck : Nat → List Nat} {cW : Nat → Nat → Int} : ∀ n, FrF m_W m_in m_st (evF xs L ck K cW g_M n)
  | 0 => fun f av g h c r g1 h1 _ _ _ he => by cases he
  | n + 1 => fr_step mk_all (fr_all n)
