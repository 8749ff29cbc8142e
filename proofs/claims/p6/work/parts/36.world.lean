/-! ===== the world at the law's entry (written by wip/tools/world.py) ===== -/
def nflat : List Cond := flatC (Jvm.Cond.and given_1 narrow_1)
def wnm : List String := ["SLOTS", "FEEDER", "CLASS", "LOSS", "PROFILE", "SUPPLIER", "METER", "WITH", "SMEARS", "READ", "MOVE", "TOTAL", "RUN", "INTERVAL", "REGISTER", "FLAT", "EXPORT", "NOT", "AND", "OR", "LOAD", "SLOT", "MANY", "OTHER"]
def wst (i : Nat) : Term := .static "FeederShares$Word" (wnm.getD i "") "LFeederShares$Word;"
def wT : Term := .static "FeederShares" "WORDS" "[LFeederShares$Word;"
def g_cW : Nat → Nat → Int := fun k i => match k with
  | 0 => ([20332179, 206737586, 3540595, 409203, 17799783813, 675937658034, 13815986, 763528, 651331155, 594980, 442053, 21483564, 19118, 324946974764, 624088961202, 208948, 193478228, 14836, 1476, 498, 408612, 635380, 427481, 0] : List Int).getD i 0
  | _ => ([1, 1, 1, 1, 1, 1, 1, 1, 1, 1, 1, 1, 1, 1, 1, 1, 1, 1, 1, 1, 0, 0, 0, 0] : List Int).getD i 0
def nx_ex : List Nat := [37, 42, 48, 55, 63, 72, 82, 147, 163, 303, 327, 352, 378, 93, 105, 118, 132, 180, 258, 280, 198, 217, 237, 33]
def nx_el : List Nat := [9, 10, 11, 12, 13, 14, 15, 16, 17, 18, 19, 20, 21, 22, 23, 24, 25, 26, 27, 28, 29, 30, 31, 32]
def nx_cd : List Nat := [39, 44, 50, 57, 65, 74, 84, 149, 165, 305, 329, 354, 380, 95, 107, 120, 134, 182, 260, 282, 200, 219, 239, 35]
def nx_kp : List Nat := [40, 45, 51, 58, 66, 75, 85, 150, 166, 306, 330, 355, 381, 96, 108, 121, 135, 183, 261, 283, 201, 220, 240, 36]
def nx_ls : List Nat := [3014, 3041, 3056, 3095, 3101, 3113, 3123, 3145, 3156, 4029, 4031, 4033, 4035, 3132, 3134, 3136, 3138, 3172, 3188, 3190, 3174, 3177, 3179, 3012]
def nx_ne : List (List Nat) := [[0, 47, 53, 60, 68, 77, 87, 152, 168, 308, 332, 357, 383, 98, 110, 123, 137, 185, 263, 285, 203, 222, 242, 41],
  [47, 0, 54, 61, 69, 78, 88, 153, 169, 309, 333, 358, 384, 99, 111, 124, 138, 186, 264, 286, 204, 223, 243, 46],
  [53, 54, 0, 62, 70, 79, 89, 154, 170, 310, 334, 359, 385, 100, 112, 125, 139, 187, 265, 287, 205, 224, 244, 52],
  [60, 61, 62, 0, 71, 80, 90, 155, 171, 311, 335, 360, 386, 101, 113, 126, 140, 188, 266, 288, 206, 225, 245, 59],
  [68, 69, 70, 71, 0, 81, 91, 156, 172, 312, 336, 361, 387, 102, 114, 127, 141, 189, 267, 289, 207, 226, 246, 67],
  [77, 78, 79, 80, 81, 0, 92, 157, 173, 313, 337, 362, 388, 103, 115, 128, 142, 190, 268, 290, 208, 227, 247, 76],
  [87, 88, 89, 90, 91, 92, 0, 158, 174, 314, 338, 363, 389, 104, 116, 129, 143, 191, 269, 291, 209, 228, 248, 86],
  [152, 153, 154, 155, 156, 157, 158, 0, 179, 319, 343, 368, 394, 159, 160, 161, 162, 196, 274, 296, 214, 233, 253, 151],
  [168, 169, 170, 171, 172, 173, 174, 179, 0, 320, 344, 369, 395, 175, 176, 177, 178, 197, 275, 297, 215, 234, 254, 167],
  [308, 309, 310, 311, 312, 313, 314, 319, 320, 0, 351, 376, 402, 315, 316, 317, 318, 321, 325, 326, 322, 323, 324, 307],
  [332, 333, 334, 335, 336, 337, 338, 343, 344, 351, 0, 377, 403, 339, 340, 341, 342, 345, 349, 350, 346, 347, 348, 331],
  [357, 358, 359, 360, 361, 362, 363, 368, 369, 376, 377, 0, 404, 364, 365, 366, 367, 370, 374, 375, 371, 372, 373, 356],
  [383, 384, 385, 386, 387, 388, 389, 394, 395, 402, 403, 404, 0, 390, 391, 392, 393, 396, 400, 401, 397, 398, 399, 382],
  [98, 99, 100, 101, 102, 103, 104, 159, 175, 315, 339, 364, 390, 0, 117, 130, 144, 192, 270, 292, 210, 229, 249, 97],
  [110, 111, 112, 113, 114, 115, 116, 160, 176, 316, 340, 365, 391, 117, 0, 131, 145, 193, 271, 293, 211, 230, 250, 109],
  [123, 124, 125, 126, 127, 128, 129, 161, 177, 317, 341, 366, 392, 130, 131, 0, 146, 194, 272, 294, 212, 231, 251, 122],
  [137, 138, 139, 140, 141, 142, 143, 162, 178, 318, 342, 367, 393, 144, 145, 146, 0, 195, 273, 295, 213, 232, 252, 136],
  [185, 186, 187, 188, 189, 190, 191, 196, 197, 321, 345, 370, 396, 192, 193, 194, 195, 0, 276, 298, 216, 235, 255, 184],
  [263, 264, 265, 266, 267, 268, 269, 274, 275, 325, 349, 374, 400, 270, 271, 272, 273, 276, 0, 302, 277, 278, 279, 262],
  [285, 286, 287, 288, 289, 290, 291, 296, 297, 326, 350, 375, 401, 292, 293, 294, 295, 298, 302, 0, 299, 300, 301, 284],
  [203, 204, 205, 206, 207, 208, 209, 214, 215, 322, 346, 371, 397, 210, 211, 212, 213, 216, 277, 299, 0, 236, 256, 202],
  [222, 223, 224, 225, 226, 227, 228, 233, 234, 323, 347, 372, 398, 229, 230, 231, 232, 235, 278, 300, 236, 0, 257, 221],
  [242, 243, 244, 245, 246, 247, 248, 253, 254, 324, 348, 373, 399, 249, 250, 251, 252, 255, 279, 301, 256, 257, 0, 241],
  [41, 46, 52, 59, 67, 76, 86, 151, 167, 307, 331, 356, 382, 97, 109, 122, 136, 184, 262, 284, 202, 221, 241, 0]]
theorem nx_1 : ∀ i, i < 24 → nflat[nx_ex.getD i 0]? = some (.exactly (wst i) "FeederShares$Word") := by decide +kernel
theorem nx_2 : ∀ i, i < 24 → nflat[nx_el.getD i 0]? = some (.eq (.elem wT (.int (Int32.ofNat i))) (wst i)) := by decide +kernel
theorem nx_3 : ∀ i, i < 24 → nflat[nx_cd.getD i 0]? = some (.eq (.field (wst i) "FeederShares$Word" "code" "J") (.long (Int64.ofInt (g_cW 0 i)))) := by decide +kernel
theorem nx_4 : ∀ i, i < 24 → nflat[nx_kp.getD i 0]? = some (.eq (.field (wst i) "FeederShares$Word" "kept" "Z") (.int (Int32.ofInt (g_cW 1 i)))) := by decide +kernel
theorem nx_5 : ∀ i, i < 24 → ∀ j, j < 24 → i ≠ j → nflat[(nx_ne.getD i []).getD j 0]? = some (.not (.eq (wst i) (wst j))) ∨ nflat[(nx_ne.getD i []).getD j 0]? = some (.not (.eq (wst j) (wst i))) := by decide +kernel
theorem nx_6 : ∀ i, i < 24 → tw (.laysStatic "FeederShares$Word" (wnm.getD i "") "LFeederShares$Word;") (nx_ls.getD i 0) = true := by decide +kernel
theorem nx_7 : nflat[6]? = some (.arrayOf wT (.object "FeederShares$Word")) := by decide +kernel
theorem nx_8 : nflat[7]? = some (.eq (.length wT) (.int (Int32.ofNat 24))) := by decide +kernel
theorem nx_9 : nflat[405]? = some (.isRef (.static Bundle.tN "UNASSIGNED_STACK" Bundle.steD)) := by decide +kernel
theorem nx_10 : nflat[406]? = some (.isRef (.static Bundle.tN "SUPPRESSED_SENTINEL" Bundle.listD)) := by decide +kernel
theorem nt_1 : Cond.initialized "FeederShares$Word" ∈ lw_tbl := tw_mem (p := 1013) (by decide +kernel)
theorem nt_2 : Cond.initialized "FeederShares" ∈ lw_tbl := tw_mem (p := 1001) (by decide +kernel)
theorem nt_3 : Cond.initialized Bundle.tN ∈ lw_tbl := tw_mem (p := 1015) (by decide +kernel)
theorem nt_4 : Cond.laysStatic "FeederShares" "WORDS" "[LFeederShares$Word;" ∈ lw_tbl := tw_mem (p := 3010) (by decide +kernel)
theorem nt_5 : Cond.laysStatic Bundle.tN "UNASSIGNED_STACK" Bundle.steD ∈ lw_tbl := tw_mem (p := 5164) (by decide +kernel)
theorem nt_6 : Cond.laysStatic Bundle.tN "SUPPRESSED_SENTINEL" Bundle.listD ∈ lw_tbl := tw_mem (p := 5166) (by decide +kernel)
theorem nt_7 : Cond.arrayClass .int ∈ lw_tbl := tw_mem (p := 1078) (by decide +kernel)
theorem nt_8 : Cond.arrayClass .long ∈ lw_tbl := tw_mem (p := 1143) (by decide +kernel)
theorem nt_9 : Cond.arrayClass .byte ∈ lw_tbl := tw_mem (p := 1067) (by decide +kernel)
theorem nt_10 : Cond.arrayClass .boolean ∈ lw_tbl := tw_mem (p := 7037) (by decide +kernel)
theorem nt_ins : ∀ (k : Nat) (q : vw_C), g_cl[k]? = some q → Cond.instantiable q.1 q.2.2 ∈ lw_tbl
  | 0, _, h => by cases h; exact tw_mem (p := 1021) (by decide +kernel)
  | 1, _, h => by cases h; exact tw_mem (p := 1117) (by decide +kernel)
  | 2, _, h => by cases h; exact tw_mem (p := 2002) (by decide +kernel)
  | 3, _, h => by cases h; exact tw_mem (p := 1212) (by decide +kernel)
  | 4, _, h => by cases h; exact tw_mem (p := 2058) (by decide +kernel)
  | 5, _, h => by cases h; exact tw_mem (p := 1109) (by decide +kernel)
  | 6, _, h => by cases h; exact tw_mem (p := 1029) (by decide +kernel)
  | 7, _, h => by cases h; exact tw_mem (p := 1069) (by decide +kernel)
  | 8, _, h => by cases h; exact tw_mem (p := 2074) (by decide +kernel)
  | 9, _, h => by cases h; exact tw_mem (p := 1035) (by decide +kernel)
  | 10, _, h => by cases h; exact tw_mem (p := 6136) (by decide +kernel)
  | k + 11, _, h => by cases h
theorem nt_cW : ∀ k, k < 24 → InL (g_cW 0 k) ∧ InI (g_cW 1 k) := by
  unfold InL InI
  decide +kernel
theorem g_world {s : State} {b L : Nat} {xs : Nat → Int32} (hts : ∀ w ∈ lw_tbl, w.before #[Value.ref b] s = true) (hX : va_X b L xs s s.heap) (hbl : b < s.heap.size) (hL : L < 2147483648) (hgv : (Jvm.Cond.and given_1 narrow_1).before #[Value.ref b] s = true) :
    ∃ (D : va_G) (cA : Nat → ClassId) (adW : Nat → Nat) (aT : Nat), va_K D g_cl (w_tys cA) s ∧ SF (g_Zs g_wn adW aT) adW aT b g_cW (fun j => (xs j).toInt) L (fun q => s.heap.size ≤ q) s s.heap ∧ ∀ i j : Nat, i < 24 → j < 24 → adW i = adW j → i = j := by
  have hN : ∀ (i : Nat) (w : Cond), nflat[i]? = some w → w.before #[Value.ref b] s = true := fun i w h => flat_of_before _ hgv _ (List.mem_of_getElem? h)
  have hA : ∀ a : Nat, a < s.heap.size → ¬ (fun q : Nat => s.heap.size ≤ q) a := fun a h => Nat.not_le.mpr h
  obtain ⟨adW, hEn, hev⟩ := va_Enof2 (args := #[Value.ref b]) (s := s) (E := "FeederShares$Word") (d := "LFeederShares$Word;") (nm := wnm) (F := []) (A := fun q => s.heap.size ≤ q)
    (fun i hi => hts _ (tw_mem (nx_6 i hi))) (hts _ nt_1) (fun i hi => hN _ _ (nx_1 i hi)) (fun q hq => absurd hq List.not_mem_nil) (fun i j hi hj hij => (nx_5 i hi j hj hij).imp (hN _ _) (hN _ _)) hA
  obtain ⟨aT, hT1, hT2⟩ := va_Tof (args := #[Value.ref b]) (s := s) (tm := wT) (ty := .object "FeederShares$Word") (N := 24) (f := fun j => .ref (adW j)) (A := fun q => s.heap.size ≤ q) (by decide) (hN _ _ nx_7) (va_eqt (hN _ _ nx_8)) (fun j hj => va_eqv (hN _ _ (nx_2 j hj)) (hev j hj)) hA
  have hc : ∀ k : Nat, ∃ p : ClassId × (Nat → Nat), ∀ q : vw_C, g_cl[k]? = some q → u_Kn s q.1 q.2.1 q.2.2 p.1 p.2 := fun k => by
    cases hq : g_cl[k]? with
    | none => exact ⟨(0, fun _ => 0), fun q h => by cases h⟩
    | some q =>
      obtain ⟨C, T, N⟩ := q
      obtain ⟨c1, i1, h1⟩ := u_known (ws := lw_tbl) (C := C) (T := T) (N := N) (n := N) hts (fun w hw => nic_sub ((g_CF k C T N hq).1 w hw)) (hts _ (nt_ins k _ hq))
      exact ⟨(c1, i1), fun q h => by cases h; exact h1⟩
  obtain ⟨dp, hdp⟩ := Classical.axiomOfChoice hc
  have ha : ∀ ty : FieldType, Cond.arrayClass ty ∈ lw_tbl → (∀ n, ty ≠ .object n) → ∃ cA : ClassId, ArrOfT s cA ty ∧ va_RA s cA ty := fun ty hm hne => by
    obtain ⟨cA, kA, comp, hf, hk, hkind⟩ := Cond.arrayClass_spec (hts _ hm)
    refine ⟨cA, fun n z => ⟨fun k h => (by cases h), kA, hk, comp, hkind⟩, ?_⟩
    unfold va_RA
    split
    · exact absurd rfl (hne _)
    · exact hf
  obtain ⟨a6, h6⟩ := ha .int nt_7 (fun n h => by cases h)
  obtain ⟨a7, h7⟩ := ha .long nt_8 (fun n h => by cases h)
  obtain ⟨a8, h8⟩ := ha .byte nt_9 (fun n h => by cases h)
  obtain ⟨a9, h9⟩ := ha .boolean nt_10 (fun n h => by cases h)
  refine ⟨(fun k => (dp k).1, fun k => (dp k).2), fun k => match k with
    | 6 => a6
    | 7 => a7
    | 8 => a8
    | _ => a9, adW, aT, ⟨fun k q hq => hdp k q hq, fun k q hq => ?_⟩, ?_, fun i j hi hj h => hEn.2 i j hi hj h⟩
  · match k, hq with
    | 0, hq => cases hq; exact h6
    | 1, hq => cases hq; exact h7
    | 2, hq => cases hq; exact h8
    | 3, hq => cases hq; exact h9
    | k + 4, hq => cases hq
  · refine ⟨?_, hT2, ?_, ?_, nt_cW, ?_, hA b hbl, hbl, hL, fun j => in_i32 _, vx_Zqof (hts _ nt_5) (hts _ nt_3) (hN _ _ nx_9) hA, vx_Zqof (hts _ nt_6) (hts _ nt_3) (hN _ _ nx_10) hA⟩
    · intro C n d v hz
      rcases hz with ⟨rfl, rfl, rfl, rfl⟩ | ⟨k, hk, rfl, rfl, rfl, rfl⟩
      · exact va_Zref (hts _ nt_4) (hts _ nt_2) hT1 hA
      · exact (hEn.1 k hk).1
    · exact va_Efof (nm := wnm) (tm := fun i => .long (Int64.ofInt (g_cW 0 i))) (fun i hi => hev i hi) (fun i hi => hN _ _ (nx_3 i hi)) (fun i hi => rfl) hA
    · exact va_Efof (nm := wnm) (tm := fun i => .int (Int32.ofInt (g_cW 1 i))) (fun i hi => hev i hi) (fun i hi => hN _ _ (nx_4 i hi)) (fun i hi => rfl) hA
    · have e : (fun j => Int32.ofInt ((xs j).toInt)) = xs := funext fun j => Int32.ofInt_toInt _
      rw [e]
      exact hX
theorem na_7 : Cond.arrayClass .int ∈ lw_nic := List.mem_filter.mpr ⟨nt_7, by decide +kernel⟩
theorem na_8 : Cond.arrayClass .long ∈ lw_nic := List.mem_filter.mpr ⟨nt_8, by decide +kernel⟩
theorem na_9 : Cond.arrayClass .byte ∈ lw_nic := List.mem_filter.mpr ⟨nt_9, by decide +kernel⟩
theorem na_10 : Cond.arrayClass .boolean ∈ lw_nic := List.mem_filter.mpr ⟨nt_10, by decide +kernel⟩
