/-! ===== what is to be shown of each method, out of the checks ===== -/
theorem gcL_all : ∀ c, gcL c = true
  | 0 => cL_0
  | 1 => cL_1
  | 2 => cL_2
  | 3 => cL_3
  | 4 => cL_4
  | 5 => cL_5
  | 6 => cL_6
  | 7 => cL_7
  | 8 => cL_8
  | 9 => cL_9
  | 10 => cL_10
  | 11 => cL_11
  | 12 => cL_12
  | 13 => cL_13
  | 14 => cL_14
  | _ + 15 => rfl
theorem gcP_all : ∀ c b, gcP c b = true
  | 0, false => cP_0f
  | 0, true => cP_0t
  | 1, false => cP_1f
  | 1, true => cP_1t
  | 2, false => cP_2f
  | 2, true => cP_2t
  | 3, false => cP_3f
  | 3, true => cP_3t
  | 4, false => cP_4f
  | 4, true => cP_4t
  | 5, false => cP_5f
  | 5, true => cP_5t
  | 6, false => cP_6f
  | 6, true => cP_6t
  | 7, false => cP_7f
  | 7, true => cP_7t
  | 8, false => cP_8f
  | 8, true => cP_8t
  | 9, false => cP_9f
  | 9, true => cP_9t
  | 10, false => cP_10f
  | 10, true => cP_10t
  | 11, false => cP_11f
  | 11, true => cP_11t
  | 12, false => cP_12f
  | 12, true => cP_12t
  | 13, false => cP_13f
  | 13, true => cP_13t
  | 14, false => cP_14f
  | 14, true => cP_14t
  | _ + 15, false => rfl
  | _ + 15, true => rfl
theorem g_CF : CF lw_nic g_cl g_ck := CF_of (pls := g_pl) g_cl g_ck fun ci C T N h => by
  match ci, h with
  | 0, h => cases h; exact cC_0
  | 1, h => cases h; exact cC_1
  | 2, h => cases h; exact cC_2
  | 3, h => cases h; exact cC_3
  | 4, h => cases h; exact cC_4
  | 5, h => cases h; exact cC_5
  | 6, h => cases h; exact cC_6
  | 7, h => cases h; exact cC_7
  | 8, h => cases h; exact cC_8
  | 9, h => cases h; exact cC_9
  | 10, h => cases h; exact cC_10
  | k + 11, h => cases h
section GDA
variable {adW : Nat → Nat} {aT : Nat}
def G_D (adW : Nat → Nat) (aT f : Nat) : Prop := GD lw_nic g_cl g_ck adW aT (g_Zs g_wn adW aT) g_Y g_CC g_RT g_M g_THR g_RZ g_LK g_LP g_DE (g_HND g_HN) f
theorem g_FA {f : Nat} (hK : gdK f = true) (hH : gdH f = true) : FA lw_nic g_cl g_ck adW aT (g_Zs g_wn adW aT) g_Y g_CC g_RT g_M g_THR g_RZ g_LK g_LP g_DE (g_HND g_HN) f := by
  simp only [gdH, Bool.and_eq_true, Bool.or_eq_true, decide_eq_true_eq] at hH
  obtain ⟨⟨h1, h2⟩, h3⟩ := hH
  obtain ⟨a1, a2, a3⟩ := okH_ok g_Y g_CC g_RT g_M g_RZ h1
  refine ⟨a1, ?_, j_dec_ok _, a2, a3, okK_ok g_M g_THR g_RZ g_HN hK⟩
  rw [h2]
  refine FO_of g_cl g_ck g_wn g_Y g_RT (m_P g_M) (own := g_cn (g_c f)) (ini := g_in f) (gcL_all (g_c f)) (gcP_all (g_c f) (g_in f)) (fun hi => ?_)
  rcases h3 with h3 | h3
  · rw [hi] at h3
    cases h3
  · exact h3
theorem g_nn {f : Nat} (h : g_HN f = none) : ∀ pc, g_HND g_HN f pc = none := fun pc => by
  unfold g_HND
  rw [h]
def gdA (f : Nat) : Bool := decide ((g_RT f).2 = []) && !g_THR f && decide (g_HN f = none)
theorem gd_a {f : Nat} (hK : gdK f = true) (hH : gdH f = true) (h : gdA f = true) : G_D adW aT f := by
  simp only [gdA, Bool.and_eq_true, decide_eq_true_eq, Bool.not_eq_true'] at h
  exact Or.inl ⟨g_FA hK hH, h.1.2, h.1.1, g_nn h.2⟩
def gdB (f : Nat) : Bool := decide ((g_RT f).2 ≠ []) && !g_THR f && okX (g_cn (g_c f)) (g_DE f) (g_RT f).2 (g_HN f) (g_qs f) && (g_lt (g_c f)).flatten.all (fun e => decide (e.2.1.1 ≠ 6) || !g_THR e.2.1.2.1 || decide (e.2.1.2.2.1 = 0))
theorem gd_b {f : Nat} (hK : gdK f = true) (hH : gdH f = true) (h : gdB f = true) : G_D adW aT f := by
  simp only [gdB, Bool.and_eq_true, decide_eq_true_eq, Bool.not_eq_true'] at h
  obtain ⟨⟨⟨h1, h2⟩, h3⟩, h4⟩ := h
  have hH2 := hH
  simp only [gdH, Bool.and_eq_true, decide_eq_true_eq] at hH2
  refine Or.inr (Or.inl ⟨g_FA hK hH, h2, h1, ?_, virt_ok g_THR h4⟩)
  rw [hH2.1.2]
  exact okX_ok g_HN h3
def gx_at : List Cond := Cond.classLink "FeederShares" 197 nsee :: Cond.initialized nsee :: vx_at0 "FeederShares" 199 nsee nseeN
def gx_pl : List Nat := [42, 1015, 1016, 1017, 1018, 1026, 1027, 5132, 5137, 5138, 5139, 5140, 5141, 5142, 5143, 5144, 5145, 5146, 5147, 5148, 5149, 5150, 5151, 5152, 5153, 5154, 5155, 5156, 5157, 5158, 5159, 5160, 5161, 5162, 5163, 5164, 5165, 5166, 5167, 5168, 5169, 5170, 5171, 5172, 5173, 5174, 5175, 5176, 5177, 5178, 5179, 5180, 5181, 5182, 5183, 5184, 5185, 5187, 5188, 5189, 5190, 5191, 5192, 5193, 5194, 5195, 5196, 5197, 9053, 9066, 9067]
theorem gx_1 : gx_at.all (fun w => gx_pl.any (tk w)) = true := by decide +kernel
theorem gx_2 : gx_at.all vx_ot = true := by decide +kernel
theorem gx_3 : (g_lt 0).flatten.all (fun e => (decide (e.2.1.1 ≠ 8) || decide (e.1 = 197)) && (decide (e.2.1.1 ≠ 9) || decide (e.1 = 199))) = true := by decide +kernel
theorem gx_in {w : Cond} (h : w ∈ gx_at) : w ∈ lw_nic := by
  obtain ⟨p, -, hp⟩ := List.any_eq_true.mp (List.all_eq_true.mp gx_1 w h)
  exact tk_mem hp
theorem gx_LT : LT lw_nic "FeederShares" (q_lk (g_lt 0)) := by
  intro i1 z i2 z' e1 e2
  have h1 := List.all_eq_true.mp gx_3
  obtain ⟨_, m1⟩ := q_lk_mem e1
  obtain ⟨_, m2⟩ := q_lk_mem e2
  have b1 : i1 = 197 := by simpa using ((Bool.and_eq_true _ _).mp (h1 _ m1)).1
  have b2 : i2 = 199 := by simpa using ((Bool.and_eq_true _ _).mp (h1 _ m2)).2
  subst b1
  subst b2
  exact ⟨gx_in List.mem_cons_self, gx_in (List.mem_cons_of_mem _ List.mem_cons_self), fun w hw => gx_in (List.mem_cons_of_mem _ (List.mem_cons_of_mem _ hw)), fun w hw => List.all_eq_true.mp gx_2 w hw⟩
def gdC (f : Nat) : Bool := decide ((g_RT f).2 = []) && g_THR f && decide (g_HN f = none) && decide (g_c f = 0)
theorem gd_c {f : Nat} (hK : gdK f = true) (hH : gdH f = true) (h : gdC f = true) : G_D adW aT f := by
  simp only [gdC, Bool.and_eq_true, decide_eq_true_eq] at h
  obtain ⟨⟨⟨h1, h2⟩, h3⟩, h4⟩ := h
  have hH2 := hH
  simp only [gdH, Bool.and_eq_true, decide_eq_true_eq] at hH2
  refine Or.inr (Or.inr (Or.inl ⟨g_FA hK hH, h2, h1, ?_, g_nn h3⟩))
  rw [hH2.1.2]
  show LT lw_nic (g_cn (g_c f)) (q_lk (g_lt (g_c f)))
  rw [h4]
  exact gx_LT
theorem gd_d {f : Nat} (h1 : m_B g_M f = .var 0) (h2 : g_THR f = true) : G_D adW aT f := Or.inr (Or.inr (Or.inr ⟨h1, h2⟩))
theorem t_out {α : Type} {cs : List (List α)} {d : α} {f : Nat} (h : cs.length * 16 ≤ f) : t_at cs d f = d := by
  unfold t_at
  have h1 : cs.length ≤ f / 16 := by omega
  have e : cs.getD (f / 16) [] = [] := by rw [List.getD_eq_getElem?_getD, List.getElem?_eq_none h1]; rfl
  rw [e]
  rfl
theorem gd_z {f : Nat} (h : 352 ≤ f) : G_D adW aT f := by
  have e1 : g_M f = (0, 0, [], [], .var 0) := by
    unfold g_M
    exact t_out h
  have e2 : g_THR f = true := by
    unfold g_THR
    exact t_out h
  refine gd_d ?_ e2
  unfold m_B
  rw [e1]
theorem gD_0 : ∀ f, 0 ≤ f → f < 16 → G_D adW aT f := ab_two (b := 8) (ab_two (b := 4) (ab_two (b := 2) (ab_two (b := 1) (ab_one (gd_a gK_0 gH_0 (by decide +kernel))) (ab_one (gd_a gK_1 gH_1 (by decide +kernel)))) (ab_two (b := 3) (ab_one (gd_a gK_2 gH_2 (by decide +kernel))) (ab_one (gd_a gK_3 gH_3 (by decide +kernel))))) (ab_two (b := 6) (ab_two (b := 5) (ab_one (gd_a gK_4 gH_4 (by decide +kernel))) (ab_one (gd_a gK_5 gH_5 (by decide +kernel)))) (ab_two (b := 7) (ab_one (gd_a gK_6 gH_6 (by decide +kernel))) (ab_one (gd_a gK_7 gH_7 (by decide +kernel)))))) (ab_two (b := 12) (ab_two (b := 10) (ab_two (b := 9) (ab_one (gd_a gK_8 gH_8 (by decide +kernel))) (ab_one (gd_a gK_9 gH_9 (by decide +kernel)))) (ab_two (b := 11) (ab_one (gd_a gK_10 gH_10 (by decide +kernel))) (ab_one (gd_a gK_11 gH_11 (by decide +kernel))))) (ab_two (b := 14) (ab_two (b := 13) (ab_one (gd_a gK_12 gH_12 (by decide +kernel))) (ab_one (gd_c gK_13 gH_13 (by decide +kernel)))) (ab_two (b := 15) (ab_one (gd_c gK_14 gH_14 (by decide +kernel))) (ab_one (gd_c gK_15 gH_15 (by decide +kernel))))))
theorem gD_1 : ∀ f, 16 ≤ f → f < 32 → G_D adW aT f := ab_two (b := 24) (ab_two (b := 20) (ab_two (b := 18) (ab_two (b := 17) (ab_one (gd_c gK_16 gH_16 (by decide +kernel))) (ab_one (gd_c gK_17 gH_17 (by decide +kernel)))) (ab_two (b := 19) (ab_one (gd_c gK_18 gH_18 (by decide +kernel))) (ab_one (gd_c gK_19 gH_19 (by decide +kernel))))) (ab_two (b := 22) (ab_two (b := 21) (ab_one (gd_c gK_20 gH_20 (by decide +kernel))) (ab_one (gd_c gK_21 gH_21 (by decide +kernel)))) (ab_two (b := 23) (ab_one (gd_a gK_22 gH_22 (by decide +kernel))) (ab_one (gd_a gK_23 gH_23 (by decide +kernel)))))) (ab_two (b := 28) (ab_two (b := 26) (ab_two (b := 25) (ab_one (gd_c gK_24 gH_24 (by decide +kernel))) (ab_one (gd_a gK_25 gH_25 (by decide +kernel)))) (ab_two (b := 27) (ab_one (gd_a gK_26 gH_26 (by decide +kernel))) (ab_one (gd_c gK_27 gH_27 (by decide +kernel))))) (ab_two (b := 30) (ab_two (b := 29) (ab_one (gd_c gK_28 gH_28 (by decide +kernel))) (ab_one (gd_c gK_29 gH_29 (by decide +kernel)))) (ab_two (b := 31) (ab_one (gd_a gK_30 gH_30 (by decide +kernel))) (ab_one (gd_c gK_31 gH_31 (by decide +kernel))))))
theorem gD_2 : ∀ f, 32 ≤ f → f < 48 → G_D adW aT f := ab_two (b := 40) (ab_two (b := 36) (ab_two (b := 34) (ab_two (b := 33) (ab_one (gd_c gK_32 gH_32 (by decide +kernel))) (ab_one (gd_c gK_33 gH_33 (by decide +kernel)))) (ab_two (b := 35) (ab_one (gd_c gK_34 gH_34 (by decide +kernel))) (ab_one (gd_a gK_35 gH_35 (by decide +kernel))))) (ab_two (b := 38) (ab_two (b := 37) (ab_one (gd_a gK_36 gH_36 (by decide +kernel))) (ab_one (gd_a gK_37 gH_37 (by decide +kernel)))) (ab_two (b := 39) (ab_one (gd_a gK_38 gH_38 (by decide +kernel))) (ab_one (gd_a gK_39 gH_39 (by decide +kernel)))))) (ab_two (b := 44) (ab_two (b := 42) (ab_two (b := 41) (ab_one (gd_a gK_40 gH_40 (by decide +kernel))) (ab_one (gd_a gK_41 gH_41 (by decide +kernel)))) (ab_two (b := 43) (ab_one (gd_a gK_42 gH_42 (by decide +kernel))) (ab_one (gd_c gK_43 gH_43 (by decide +kernel))))) (ab_two (b := 46) (ab_two (b := 45) (ab_one (gd_a gK_44 gH_44 (by decide +kernel))) (ab_one (gd_a gK_45 gH_45 (by decide +kernel)))) (ab_two (b := 47) (ab_one (gd_a gK_46 gH_46 (by decide +kernel))) (ab_one (gd_a gK_47 gH_47 (by decide +kernel))))))
theorem gD_3 : ∀ f, 48 ≤ f → f < 64 → G_D adW aT f := ab_two (b := 56) (ab_two (b := 52) (ab_two (b := 50) (ab_two (b := 49) (ab_one (gd_a gK_48 gH_48 (by decide +kernel))) (ab_one (gd_a gK_49 gH_49 (by decide +kernel)))) (ab_two (b := 51) (ab_one (gd_a gK_50 gH_50 (by decide +kernel))) (ab_one (gd_a gK_51 gH_51 (by decide +kernel))))) (ab_two (b := 54) (ab_two (b := 53) (ab_one (gd_a gK_52 gH_52 (by decide +kernel))) (ab_one (gd_a gK_53 gH_53 (by decide +kernel)))) (ab_two (b := 55) (ab_one (gd_a gK_54 gH_54 (by decide +kernel))) (ab_one (gd_a gK_55 gH_55 (by decide +kernel)))))) (ab_two (b := 60) (ab_two (b := 58) (ab_two (b := 57) (ab_one (gd_a gK_56 gH_56 (by decide +kernel))) (ab_one (gd_a gK_57 gH_57 (by decide +kernel)))) (ab_two (b := 59) (ab_one (gd_a gK_58 gH_58 (by decide +kernel))) (ab_one (gd_a gK_59 gH_59 (by decide +kernel))))) (ab_two (b := 62) (ab_two (b := 61) (ab_one (gd_a gK_60 gH_60 (by decide +kernel))) (ab_one (gd_a gK_61 gH_61 (by decide +kernel)))) (ab_two (b := 63) (ab_one (gd_a gK_62 gH_62 (by decide +kernel))) (ab_one (gd_a gK_63 gH_63 (by decide +kernel))))))
theorem gD_4 : ∀ f, 64 ≤ f → f < 80 → G_D adW aT f := ab_two (b := 72) (ab_two (b := 68) (ab_two (b := 66) (ab_two (b := 65) (ab_one (gd_a gK_64 gH_64 (by decide +kernel))) (ab_one (gd_a gK_65 gH_65 (by decide +kernel)))) (ab_two (b := 67) (ab_one (gd_a gK_66 gH_66 (by decide +kernel))) (ab_one (gd_a gK_67 gH_67 (by decide +kernel))))) (ab_two (b := 70) (ab_two (b := 69) (ab_one (gd_a gK_68 gH_68 (by decide +kernel))) (ab_one (gd_a gK_69 gH_69 (by decide +kernel)))) (ab_two (b := 71) (ab_one (gd_a gK_70 gH_70 (by decide +kernel))) (ab_one (gd_a gK_71 gH_71 (by decide +kernel)))))) (ab_two (b := 76) (ab_two (b := 74) (ab_two (b := 73) (ab_one (gd_a gK_72 gH_72 (by decide +kernel))) (ab_one (gd_a gK_73 gH_73 (by decide +kernel)))) (ab_two (b := 75) (ab_one (gd_a gK_74 gH_74 (by decide +kernel))) (ab_one (gd_a gK_75 gH_75 (by decide +kernel))))) (ab_two (b := 78) (ab_two (b := 77) (ab_one (gd_a gK_76 gH_76 (by decide +kernel))) (ab_one (gd_a gK_77 gH_77 (by decide +kernel)))) (ab_two (b := 79) (ab_one (gd_a gK_78 gH_78 (by decide +kernel))) (ab_one (gd_a gK_79 gH_79 (by decide +kernel))))))
theorem gD_5 : ∀ f, 80 ≤ f → f < 96 → G_D adW aT f := ab_two (b := 88) (ab_two (b := 84) (ab_two (b := 82) (ab_two (b := 81) (ab_one (gd_a gK_80 gH_80 (by decide +kernel))) (ab_one (gd_a gK_81 gH_81 (by decide +kernel)))) (ab_two (b := 83) (ab_one (gd_a gK_82 gH_82 (by decide +kernel))) (ab_one (gd_a gK_83 gH_83 (by decide +kernel))))) (ab_two (b := 86) (ab_two (b := 85) (ab_one (gd_a gK_84 gH_84 (by decide +kernel))) (ab_one (gd_a gK_85 gH_85 (by decide +kernel)))) (ab_two (b := 87) (ab_one (gd_a gK_86 gH_86 (by decide +kernel))) (ab_one (gd_a gK_87 gH_87 (by decide +kernel)))))) (ab_two (b := 92) (ab_two (b := 90) (ab_two (b := 89) (ab_one (gd_a gK_88 gH_88 (by decide +kernel))) (ab_one (gd_a gK_89 gH_89 (by decide +kernel)))) (ab_two (b := 91) (ab_one (gd_a gK_90 gH_90 (by decide +kernel))) (ab_one (gd_a gK_91 gH_91 (by decide +kernel))))) (ab_two (b := 94) (ab_two (b := 93) (ab_one (gd_a gK_92 gH_92 (by decide +kernel))) (ab_one (gd_a gK_93 gH_93 (by decide +kernel)))) (ab_two (b := 95) (ab_one (gd_a gK_94 gH_94 (by decide +kernel))) (ab_one (gd_a gK_95 gH_95 (by decide +kernel))))))
theorem gD_6 : ∀ f, 96 ≤ f → f < 112 → G_D adW aT f := ab_two (b := 104) (ab_two (b := 100) (ab_two (b := 98) (ab_two (b := 97) (ab_one (gd_a gK_96 gH_96 (by decide +kernel))) (ab_one (gd_a gK_97 gH_97 (by decide +kernel)))) (ab_two (b := 99) (ab_one (gd_a gK_98 gH_98 (by decide +kernel))) (ab_one (gd_a gK_99 gH_99 (by decide +kernel))))) (ab_two (b := 102) (ab_two (b := 101) (ab_one (gd_a gK_100 gH_100 (by decide +kernel))) (ab_one (gd_a gK_101 gH_101 (by decide +kernel)))) (ab_two (b := 103) (ab_one (gd_a gK_102 gH_102 (by decide +kernel))) (ab_one (gd_a gK_103 gH_103 (by decide +kernel)))))) (ab_two (b := 108) (ab_two (b := 106) (ab_two (b := 105) (ab_one (gd_a gK_104 gH_104 (by decide +kernel))) (ab_one (gd_a gK_105 gH_105 (by decide +kernel)))) (ab_two (b := 107) (ab_one (gd_a gK_106 gH_106 (by decide +kernel))) (ab_one (gd_a gK_107 gH_107 (by decide +kernel))))) (ab_two (b := 110) (ab_two (b := 109) (ab_one (gd_a gK_108 gH_108 (by decide +kernel))) (ab_one (gd_a gK_109 gH_109 (by decide +kernel)))) (ab_two (b := 111) (ab_one (gd_a gK_110 gH_110 (by decide +kernel))) (ab_one (gd_a gK_111 gH_111 (by decide +kernel))))))
theorem gD_7 : ∀ f, 112 ≤ f → f < 128 → G_D adW aT f := ab_two (b := 120) (ab_two (b := 116) (ab_two (b := 114) (ab_two (b := 113) (ab_one (gd_a gK_112 gH_112 (by decide +kernel))) (ab_one (gd_a gK_113 gH_113 (by decide +kernel)))) (ab_two (b := 115) (ab_one (gd_a gK_114 gH_114 (by decide +kernel))) (ab_one (gd_a gK_115 gH_115 (by decide +kernel))))) (ab_two (b := 118) (ab_two (b := 117) (ab_one (gd_a gK_116 gH_116 (by decide +kernel))) (ab_one (gd_a gK_117 gH_117 (by decide +kernel)))) (ab_two (b := 119) (ab_one (gd_a gK_118 gH_118 (by decide +kernel))) (ab_one (gd_a gK_119 gH_119 (by decide +kernel)))))) (ab_two (b := 124) (ab_two (b := 122) (ab_two (b := 121) (ab_one (gd_a gK_120 gH_120 (by decide +kernel))) (ab_one (gd_a gK_121 gH_121 (by decide +kernel)))) (ab_two (b := 123) (ab_one (gd_a gK_122 gH_122 (by decide +kernel))) (ab_one (gd_a gK_123 gH_123 (by decide +kernel))))) (ab_two (b := 126) (ab_two (b := 125) (ab_one (gd_a gK_124 gH_124 (by decide +kernel))) (ab_one (gd_a gK_125 gH_125 (by decide +kernel)))) (ab_two (b := 127) (ab_one (gd_a gK_126 gH_126 (by decide +kernel))) (ab_one (gd_a gK_127 gH_127 (by decide +kernel))))))
theorem gD_8 : ∀ f, 128 ≤ f → f < 144 → G_D adW aT f := ab_two (b := 136) (ab_two (b := 132) (ab_two (b := 130) (ab_two (b := 129) (ab_one (gd_a gK_128 gH_128 (by decide +kernel))) (ab_one (gd_a gK_129 gH_129 (by decide +kernel)))) (ab_two (b := 131) (ab_one (gd_a gK_130 gH_130 (by decide +kernel))) (ab_one (gd_a gK_131 gH_131 (by decide +kernel))))) (ab_two (b := 134) (ab_two (b := 133) (ab_one (gd_a gK_132 gH_132 (by decide +kernel))) (ab_one (gd_a gK_133 gH_133 (by decide +kernel)))) (ab_two (b := 135) (ab_one (gd_a gK_134 gH_134 (by decide +kernel))) (ab_one (gd_a gK_135 gH_135 (by decide +kernel)))))) (ab_two (b := 140) (ab_two (b := 138) (ab_two (b := 137) (ab_one (gd_a gK_136 gH_136 (by decide +kernel))) (ab_one (gd_a gK_137 gH_137 (by decide +kernel)))) (ab_two (b := 139) (ab_one (gd_a gK_138 gH_138 (by decide +kernel))) (ab_one (gd_a gK_139 gH_139 (by decide +kernel))))) (ab_two (b := 142) (ab_two (b := 141) (ab_one (gd_a gK_140 gH_140 (by decide +kernel))) (ab_one (gd_a gK_141 gH_141 (by decide +kernel)))) (ab_two (b := 143) (ab_one (gd_a gK_142 gH_142 (by decide +kernel))) (ab_one (gd_a gK_143 gH_143 (by decide +kernel))))))
theorem gD_9 : ∀ f, 144 ≤ f → f < 160 → G_D adW aT f := ab_two (b := 152) (ab_two (b := 148) (ab_two (b := 146) (ab_two (b := 145) (ab_one (gd_a gK_144 gH_144 (by decide +kernel))) (ab_one (gd_a gK_145 gH_145 (by decide +kernel)))) (ab_two (b := 147) (ab_one (gd_a gK_146 gH_146 (by decide +kernel))) (ab_one (gd_a gK_147 gH_147 (by decide +kernel))))) (ab_two (b := 150) (ab_two (b := 149) (ab_one (gd_a gK_148 gH_148 (by decide +kernel))) (ab_one (gd_a gK_149 gH_149 (by decide +kernel)))) (ab_two (b := 151) (ab_one (gd_a gK_150 gH_150 (by decide +kernel))) (ab_one (gd_a gK_151 gH_151 (by decide +kernel)))))) (ab_two (b := 156) (ab_two (b := 154) (ab_two (b := 153) (ab_one (gd_a gK_152 gH_152 (by decide +kernel))) (ab_one (gd_a gK_153 gH_153 (by decide +kernel)))) (ab_two (b := 155) (ab_one (gd_a gK_154 gH_154 (by decide +kernel))) (ab_one (gd_a gK_155 gH_155 (by decide +kernel))))) (ab_two (b := 158) (ab_two (b := 157) (ab_one (gd_a gK_156 gH_156 (by decide +kernel))) (ab_one (gd_a gK_157 gH_157 (by decide +kernel)))) (ab_two (b := 159) (ab_one (gd_a gK_158 gH_158 (by decide +kernel))) (ab_one (gd_a gK_159 gH_159 (by decide +kernel))))))
theorem gD_10 : ∀ f, 160 ≤ f → f < 176 → G_D adW aT f := ab_two (b := 168) (ab_two (b := 164) (ab_two (b := 162) (ab_two (b := 161) (ab_one (gd_a gK_160 gH_160 (by decide +kernel))) (ab_one (gd_a gK_161 gH_161 (by decide +kernel)))) (ab_two (b := 163) (ab_one (gd_a gK_162 gH_162 (by decide +kernel))) (ab_one (gd_a gK_163 gH_163 (by decide +kernel))))) (ab_two (b := 166) (ab_two (b := 165) (ab_one (gd_a gK_164 gH_164 (by decide +kernel))) (ab_one (gd_a gK_165 gH_165 (by decide +kernel)))) (ab_two (b := 167) (ab_one (gd_a gK_166 gH_166 (by decide +kernel))) (ab_one (gd_a gK_167 gH_167 (by decide +kernel)))))) (ab_two (b := 172) (ab_two (b := 170) (ab_two (b := 169) (ab_one (gd_a gK_168 gH_168 (by decide +kernel))) (ab_one (gd_a gK_169 gH_169 (by decide +kernel)))) (ab_two (b := 171) (ab_one (gd_a gK_170 gH_170 (by decide +kernel))) (ab_one (gd_a gK_171 gH_171 (by decide +kernel))))) (ab_two (b := 174) (ab_two (b := 173) (ab_one (gd_a gK_172 gH_172 (by decide +kernel))) (ab_one (gd_a gK_173 gH_173 (by decide +kernel)))) (ab_two (b := 175) (ab_one (gd_a gK_174 gH_174 (by decide +kernel))) (ab_one (gd_a gK_175 gH_175 (by decide +kernel))))))
theorem gD_11 : ∀ f, 176 ≤ f → f < 192 → G_D adW aT f := ab_two (b := 184) (ab_two (b := 180) (ab_two (b := 178) (ab_two (b := 177) (ab_one (gd_a gK_176 gH_176 (by decide +kernel))) (ab_one (gd_a gK_177 gH_177 (by decide +kernel)))) (ab_two (b := 179) (ab_one (gd_a gK_178 gH_178 (by decide +kernel))) (ab_one (gd_a gK_179 gH_179 (by decide +kernel))))) (ab_two (b := 182) (ab_two (b := 181) (ab_one (gd_a gK_180 gH_180 (by decide +kernel))) (ab_one (gd_a gK_181 gH_181 (by decide +kernel)))) (ab_two (b := 183) (ab_one (gd_d rfl rfl)) (ab_one (gd_a gK_183 gH_183 (by decide +kernel)))))) (ab_two (b := 188) (ab_two (b := 186) (ab_two (b := 185) (ab_one (gd_a gK_184 gH_184 (by decide +kernel))) (ab_one (gd_a gK_185 gH_185 (by decide +kernel)))) (ab_two (b := 187) (ab_one (gd_a gK_186 gH_186 (by decide +kernel))) (ab_one (gd_a gK_187 gH_187 (by decide +kernel))))) (ab_two (b := 190) (ab_two (b := 189) (ab_one (gd_a gK_188 gH_188 (by decide +kernel))) (ab_one (gd_a gK_189 gH_189 (by decide +kernel)))) (ab_two (b := 191) (ab_one (gd_a gK_190 gH_190 (by decide +kernel))) (ab_one (gd_a gK_191 gH_191 (by decide +kernel))))))
theorem gD_12 : ∀ f, 192 ≤ f → f < 208 → G_D adW aT f := ab_two (b := 200) (ab_two (b := 196) (ab_two (b := 194) (ab_two (b := 193) (ab_one (gd_a gK_192 gH_192 (by decide +kernel))) (ab_one (gd_a gK_193 gH_193 (by decide +kernel)))) (ab_two (b := 195) (ab_one (gd_a gK_194 gH_194 (by decide +kernel))) (ab_one (gd_a gK_195 gH_195 (by decide +kernel))))) (ab_two (b := 198) (ab_two (b := 197) (ab_one (gd_a gK_196 gH_196 (by decide +kernel))) (ab_one (gd_a gK_197 gH_197 (by decide +kernel)))) (ab_two (b := 199) (ab_one (gd_a gK_198 gH_198 (by decide +kernel))) (ab_one (gd_a gK_199 gH_199 (by decide +kernel)))))) (ab_two (b := 204) (ab_two (b := 202) (ab_two (b := 201) (ab_one (gd_a gK_200 gH_200 (by decide +kernel))) (ab_one (gd_a gK_201 gH_201 (by decide +kernel)))) (ab_two (b := 203) (ab_one (gd_a gK_202 gH_202 (by decide +kernel))) (ab_one (gd_a gK_203 gH_203 (by decide +kernel))))) (ab_two (b := 206) (ab_two (b := 205) (ab_one (gd_a gK_204 gH_204 (by decide +kernel))) (ab_one (gd_a gK_205 gH_205 (by decide +kernel)))) (ab_two (b := 207) (ab_one (gd_a gK_206 gH_206 (by decide +kernel))) (ab_one (gd_a gK_207 gH_207 (by decide +kernel))))))
theorem gD_13 : ∀ f, 208 ≤ f → f < 224 → G_D adW aT f := ab_two (b := 216) (ab_two (b := 212) (ab_two (b := 210) (ab_two (b := 209) (ab_one (gd_a gK_208 gH_208 (by decide +kernel))) (ab_one (gd_a gK_209 gH_209 (by decide +kernel)))) (ab_two (b := 211) (ab_one (gd_a gK_210 gH_210 (by decide +kernel))) (ab_one (gd_a gK_211 gH_211 (by decide +kernel))))) (ab_two (b := 214) (ab_two (b := 213) (ab_one (gd_a gK_212 gH_212 (by decide +kernel))) (ab_one (gd_a gK_213 gH_213 (by decide +kernel)))) (ab_two (b := 215) (ab_one (gd_a gK_214 gH_214 (by decide +kernel))) (ab_one (gd_a gK_215 gH_215 (by decide +kernel)))))) (ab_two (b := 220) (ab_two (b := 218) (ab_two (b := 217) (ab_one (gd_a gK_216 gH_216 (by decide +kernel))) (ab_one (gd_a gK_217 gH_217 (by decide +kernel)))) (ab_two (b := 219) (ab_one (gd_a gK_218 gH_218 (by decide +kernel))) (ab_one (gd_a gK_219 gH_219 (by decide +kernel))))) (ab_two (b := 222) (ab_two (b := 221) (ab_one (gd_a gK_220 gH_220 (by decide +kernel))) (ab_one (gd_a gK_221 gH_221 (by decide +kernel)))) (ab_two (b := 223) (ab_one (gd_a gK_222 gH_222 (by decide +kernel))) (ab_one (gd_a gK_223 gH_223 (by decide +kernel))))))
theorem gD_14 : ∀ f, 224 ≤ f → f < 240 → G_D adW aT f := ab_two (b := 232) (ab_two (b := 228) (ab_two (b := 226) (ab_two (b := 225) (ab_one (gd_a gK_224 gH_224 (by decide +kernel))) (ab_one (gd_a gK_225 gH_225 (by decide +kernel)))) (ab_two (b := 227) (ab_one (gd_a gK_226 gH_226 (by decide +kernel))) (ab_one (gd_a gK_227 gH_227 (by decide +kernel))))) (ab_two (b := 230) (ab_two (b := 229) (ab_one (gd_a gK_228 gH_228 (by decide +kernel))) (ab_one (gd_a gK_229 gH_229 (by decide +kernel)))) (ab_two (b := 231) (ab_one (gd_a gK_230 gH_230 (by decide +kernel))) (ab_one (gd_a gK_231 gH_231 (by decide +kernel)))))) (ab_two (b := 236) (ab_two (b := 234) (ab_two (b := 233) (ab_one (gd_a gK_232 gH_232 (by decide +kernel))) (ab_one (gd_a gK_233 gH_233 (by decide +kernel)))) (ab_two (b := 235) (ab_one (gd_a gK_234 gH_234 (by decide +kernel))) (ab_one (gd_a gK_235 gH_235 (by decide +kernel))))) (ab_two (b := 238) (ab_two (b := 237) (ab_one (gd_a gK_236 gH_236 (by decide +kernel))) (ab_one (gd_a gK_237 gH_237 (by decide +kernel)))) (ab_two (b := 239) (ab_one (gd_a gK_238 gH_238 (by decide +kernel))) (ab_one (gd_a gK_239 gH_239 (by decide +kernel))))))
theorem gD_15 : ∀ f, 240 ≤ f → f < 256 → G_D adW aT f := ab_two (b := 248) (ab_two (b := 244) (ab_two (b := 242) (ab_two (b := 241) (ab_one (gd_a gK_240 gH_240 (by decide +kernel))) (ab_one (gd_a gK_241 gH_241 (by decide +kernel)))) (ab_two (b := 243) (ab_one (gd_a gK_242 gH_242 (by decide +kernel))) (ab_one (gd_a gK_243 gH_243 (by decide +kernel))))) (ab_two (b := 246) (ab_two (b := 245) (ab_one (gd_a gK_244 gH_244 (by decide +kernel))) (ab_one (gd_a gK_245 gH_245 (by decide +kernel)))) (ab_two (b := 247) (ab_one (gd_a gK_246 gH_246 (by decide +kernel))) (ab_one (gd_a gK_247 gH_247 (by decide +kernel)))))) (ab_two (b := 252) (ab_two (b := 250) (ab_two (b := 249) (ab_one (gd_a gK_248 gH_248 (by decide +kernel))) (ab_one (gd_a gK_249 gH_249 (by decide +kernel)))) (ab_two (b := 251) (ab_one (gd_a gK_250 gH_250 (by decide +kernel))) (ab_one (gd_a gK_251 gH_251 (by decide +kernel))))) (ab_two (b := 254) (ab_two (b := 253) (ab_one (gd_a gK_252 gH_252 (by decide +kernel))) (ab_one (gd_a gK_253 gH_253 (by decide +kernel)))) (ab_two (b := 255) (ab_one (gd_a gK_254 gH_254 (by decide +kernel))) (ab_one (gd_a gK_255 gH_255 (by decide +kernel))))))
theorem gD_16 : ∀ f, 256 ≤ f → f < 272 → G_D adW aT f := ab_two (b := 264) (ab_two (b := 260) (ab_two (b := 258) (ab_two (b := 257) (ab_one (gd_a gK_256 gH_256 (by decide +kernel))) (ab_one (gd_a gK_257 gH_257 (by decide +kernel)))) (ab_two (b := 259) (ab_one (gd_a gK_258 gH_258 (by decide +kernel))) (ab_one (gd_a gK_259 gH_259 (by decide +kernel))))) (ab_two (b := 262) (ab_two (b := 261) (ab_one (gd_a gK_260 gH_260 (by decide +kernel))) (ab_one (gd_a gK_261 gH_261 (by decide +kernel)))) (ab_two (b := 263) (ab_one (gd_a gK_262 gH_262 (by decide +kernel))) (ab_one (gd_a gK_263 gH_263 (by decide +kernel)))))) (ab_two (b := 268) (ab_two (b := 266) (ab_two (b := 265) (ab_one (gd_a gK_264 gH_264 (by decide +kernel))) (ab_one (gd_a gK_265 gH_265 (by decide +kernel)))) (ab_two (b := 267) (ab_one (gd_a gK_266 gH_266 (by decide +kernel))) (ab_one (gd_a gK_267 gH_267 (by decide +kernel))))) (ab_two (b := 270) (ab_two (b := 269) (ab_one (gd_a gK_268 gH_268 (by decide +kernel))) (ab_one (gd_a gK_269 gH_269 (by decide +kernel)))) (ab_two (b := 271) (ab_one (gd_a gK_270 gH_270 (by decide +kernel))) (ab_one (gd_a gK_271 gH_271 (by decide +kernel))))))
theorem gD_17 : ∀ f, 272 ≤ f → f < 288 → G_D adW aT f := ab_two (b := 280) (ab_two (b := 276) (ab_two (b := 274) (ab_two (b := 273) (ab_one (gd_a gK_272 gH_272 (by decide +kernel))) (ab_one (gd_a gK_273 gH_273 (by decide +kernel)))) (ab_two (b := 275) (ab_one (gd_a gK_274 gH_274 (by decide +kernel))) (ab_one (gd_a gK_275 gH_275 (by decide +kernel))))) (ab_two (b := 278) (ab_two (b := 277) (ab_one (gd_a gK_276 gH_276 (by decide +kernel))) (ab_one (gd_a gK_277 gH_277 (by decide +kernel)))) (ab_two (b := 279) (ab_one (gd_a gK_278 gH_278 (by decide +kernel))) (ab_one (gd_a gK_279 gH_279 (by decide +kernel)))))) (ab_two (b := 284) (ab_two (b := 282) (ab_two (b := 281) (ab_one (gd_a gK_280 gH_280 (by decide +kernel))) (ab_one (gd_a gK_281 gH_281 (by decide +kernel)))) (ab_two (b := 283) (ab_one (gd_a gK_282 gH_282 (by decide +kernel))) (ab_one (gd_a gK_283 gH_283 (by decide +kernel))))) (ab_two (b := 286) (ab_two (b := 285) (ab_one (gd_a gK_284 gH_284 (by decide +kernel))) (ab_one (gd_a gK_285 gH_285 (by decide +kernel)))) (ab_two (b := 287) (ab_one (gd_a gK_286 gH_286 (by decide +kernel))) (ab_one (gd_a gK_287 gH_287 (by decide +kernel))))))
theorem gD_18 : ∀ f, 288 ≤ f → f < 304 → G_D adW aT f := ab_two (b := 296) (ab_two (b := 292) (ab_two (b := 290) (ab_two (b := 289) (ab_one (gd_a gK_288 gH_288 (by decide +kernel))) (ab_one (gd_a gK_289 gH_289 (by decide +kernel)))) (ab_two (b := 291) (ab_one (gd_a gK_290 gH_290 (by decide +kernel))) (ab_one (gd_a gK_291 gH_291 (by decide +kernel))))) (ab_two (b := 294) (ab_two (b := 293) (ab_one (gd_a gK_292 gH_292 (by decide +kernel))) (ab_one (gd_a gK_293 gH_293 (by decide +kernel)))) (ab_two (b := 295) (ab_one (gd_a gK_294 gH_294 (by decide +kernel))) (ab_one (gd_a gK_295 gH_295 (by decide +kernel)))))) (ab_two (b := 300) (ab_two (b := 298) (ab_two (b := 297) (ab_one (gd_a gK_296 gH_296 (by decide +kernel))) (ab_one (gd_a gK_297 gH_297 (by decide +kernel)))) (ab_two (b := 299) (ab_one (gd_a gK_298 gH_298 (by decide +kernel))) (ab_one (gd_a gK_299 gH_299 (by decide +kernel))))) (ab_two (b := 302) (ab_two (b := 301) (ab_one (gd_a gK_300 gH_300 (by decide +kernel))) (ab_one (gd_a gK_301 gH_301 (by decide +kernel)))) (ab_two (b := 303) (ab_one (gd_a gK_302 gH_302 (by decide +kernel))) (ab_one (gd_a gK_303 gH_303 (by decide +kernel))))))
theorem gD_19 : ∀ f, 304 ≤ f → f < 320 → G_D adW aT f := ab_two (b := 312) (ab_two (b := 308) (ab_two (b := 306) (ab_two (b := 305) (ab_one (gd_a gK_304 gH_304 (by decide +kernel))) (ab_one (gd_a gK_305 gH_305 (by decide +kernel)))) (ab_two (b := 307) (ab_one (gd_a gK_306 gH_306 (by decide +kernel))) (ab_one (gd_a gK_307 gH_307 (by decide +kernel))))) (ab_two (b := 310) (ab_two (b := 309) (ab_one (gd_a gK_308 gH_308 (by decide +kernel))) (ab_one (gd_a gK_309 gH_309 (by decide +kernel)))) (ab_two (b := 311) (ab_one (gd_a gK_310 gH_310 (by decide +kernel))) (ab_one (gd_a gK_311 gH_311 (by decide +kernel)))))) (ab_two (b := 316) (ab_two (b := 314) (ab_two (b := 313) (ab_one (gd_a gK_312 gH_312 (by decide +kernel))) (ab_one (gd_a gK_313 gH_313 (by decide +kernel)))) (ab_two (b := 315) (ab_one (gd_b gK_314 gH_314 (by decide +kernel))) (ab_one (gd_b gK_315 gH_315 (by decide +kernel))))) (ab_two (b := 318) (ab_two (b := 317) (ab_one (gd_b gK_316 gH_316 (by decide +kernel))) (ab_one (gd_b gK_317 gH_317 (by decide +kernel)))) (ab_two (b := 319) (ab_one (gd_b gK_318 gH_318 (by decide +kernel))) (ab_one (gd_b gK_319 gH_319 (by decide +kernel))))))
theorem gD_20 : ∀ f, 320 ≤ f → f < 336 → G_D adW aT f := ab_two (b := 328) (ab_two (b := 324) (ab_two (b := 322) (ab_two (b := 321) (ab_one (gd_b gK_320 gH_320 (by decide +kernel))) (ab_one (gd_b gK_321 gH_321 (by decide +kernel)))) (ab_two (b := 323) (ab_one (gd_b gK_322 gH_322 (by decide +kernel))) (ab_one (gd_b gK_323 gH_323 (by decide +kernel))))) (ab_two (b := 326) (ab_two (b := 325) (ab_one (gd_b gK_324 gH_324 (by decide +kernel))) (ab_one (gd_b gK_325 gH_325 (by decide +kernel)))) (ab_two (b := 327) (ab_one (gd_b gK_326 gH_326 (by decide +kernel))) (ab_one (gd_b gK_327 gH_327 (by decide +kernel)))))) (ab_two (b := 332) (ab_two (b := 330) (ab_two (b := 329) (ab_one (gd_b gK_328 gH_328 (by decide +kernel))) (ab_one (gd_b gK_329 gH_329 (by decide +kernel)))) (ab_two (b := 331) (ab_one (gd_b gK_330 gH_330 (by decide +kernel))) (ab_one (gd_b gK_331 gH_331 (by decide +kernel))))) (ab_two (b := 334) (ab_two (b := 333) (ab_one (gd_d rfl rfl)) (ab_one (gd_a gK_333 gH_333 (by decide +kernel)))) (ab_two (b := 335) (ab_one (gd_a gK_334 gH_334 (by decide +kernel))) (ab_one (gd_a gK_335 gH_335 (by decide +kernel))))))
theorem gD_21 : ∀ f, 336 ≤ f → f < 352 → G_D adW aT f := ab_two (b := 344) (ab_two (b := 340) (ab_two (b := 338) (ab_two (b := 337) (ab_one (gd_a gK_336 gH_336 (by decide +kernel))) (ab_one (gd_a gK_337 gH_337 (by decide +kernel)))) (ab_two (b := 339) (ab_one (gd_d rfl rfl)) (ab_one (gd_d rfl rfl)))) (ab_two (b := 342) (ab_two (b := 341) (ab_one (gd_d rfl rfl)) (ab_one (gd_d rfl rfl))) (ab_two (b := 343) (ab_one (gd_d rfl rfl)) (ab_one (gd_d rfl rfl))))) (ab_two (b := 348) (ab_two (b := 346) (ab_two (b := 345) (ab_one (gd_d rfl rfl)) (ab_one (gd_d rfl rfl))) (ab_two (b := 347) (ab_one (gd_d rfl rfl)) (ab_one (gd_d rfl rfl)))) (ab_two (b := 350) (ab_two (b := 349) (ab_one (gd_d rfl rfl)) (ab_one (gd_d rfl rfl))) (ab_two (b := 351) (ab_one (gd_d rfl rfl)) (ab_one (gd_d rfl rfl)))))
theorem g_GD : ∀ f, G_D adW aT f := fun f => by
  by_cases h : f < 352
  · exact (ab_two (b := 176) (ab_two (b := 80) (ab_two (b := 32) (ab_two (b := 16) (gD_0) (gD_1)) (ab_two (b := 48) (gD_2) (ab_two (b := 64) (gD_3) (gD_4)))) (ab_two (b := 128) (ab_two (b := 96) (gD_5) (ab_two (b := 112) (gD_6) (gD_7))) (ab_two (b := 144) (gD_8) (ab_two (b := 160) (gD_9) (gD_10))))) (ab_two (b := 256) (ab_two (b := 208) (ab_two (b := 192) (gD_11) (gD_12)) (ab_two (b := 224) (gD_13) (ab_two (b := 240) (gD_14) (gD_15)))) (ab_two (b := 304) (ab_two (b := 272) (gD_16) (ab_two (b := 288) (gD_17) (gD_18))) (ab_two (b := 320) (gD_19) (ab_two (b := 336) (gD_20) (gD_21))))) : ∀ f, 0 ≤ f → f < 352 → G_D adW aT f) f (Nat.zero_le f) h
  · exact gd_z (by omega)
end GDA
