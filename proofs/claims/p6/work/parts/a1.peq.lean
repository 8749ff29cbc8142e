/-! ===== the partial calculus by equations, where things lie (written_w by wip/tools/ptab.py) ===== -/
section PEQ
variable {C : CSt} {en : List Int} {h : XH} {Q : PQQ} {Qt Qf : XH → Prop} {R : PRR} {a b c : SX}
theorem qe_1 : pE C (sx 1 a b c) en h Q = (Q [sx_c a b c] h) := id rfl
theorem qe_3 : pE C (sx 3 a b c) en h Q = (Q [en.getD (sx_n a) 0] h) := id rfl
theorem qe_4 : pE C (sx 4 a b c) en h Q = (pE C a en h fun x h1 => Q [h1 (j_hd x).toNat (sx_n b)] h1) := id rfl
theorem qe_5 : pE C (sx 5 a b c) en h Q = (pE C a en h fun x h1 => Q [rfO (j_hd x) (sx_n b)] h1) := id rfl
theorem qe_7 : pE C (sx 7 a b z0) en h Q = (pE C a en h fun x h1 => pE C b en h1 fun y h2 => 0 ≤ j_hd y ∧ j_hd y < lnO (j_hd x) → Q [h2 (j_hd x).toNat (j_hd y).toNat] h2) := id rfl
theorem qe_72 : pE C (sx 7 a b (sv 2)) en h Q = (pE C a en h fun x h1 => pE C b en h1 fun y h2 => 0 ≤ j_hd y ∧ j_hd y < 24 → Q [j_hd y] h2) := id rfl
theorem qe_10 : pE C (sx 10 a b z0) en h Q = (pE C a en h fun x h1 => Q [lnO (j_hd x)] h1) := id rfl
theorem qe_102 : pE C (sx 10 a b (sv 2)) en h Q = (pE C a en h fun x h1 => Q [24] h1) := id rfl
theorem qe_13 : pE C (sx 13 a b c) en h Q = (pE C a en h fun x h1 => Q [g_cW (sx_n c) (j_hd x).toNat] h1) := id rfl
theorem qe_14 : pE C (sx 14 a b c) en h Q = (pE C a en h fun x h1 => pE C b en h1 fun y h2 => Q [j_iop (sx_n c) (j_hd x) (j_hd y)] h2) := id rfl
theorem qe_15 : pE C (sx 15 a b c) en h Q = (pE C a en h fun x h1 => pE C b en h1 fun y h2 => Q [j_lop (sx_n c) (j_hd x) (j_hd y)] h2) := id rfl
theorem qe_16 : pE C (sx 16 a b c) en h Q = (pE C a en h fun x h1 => pE C b en h1 fun y h2 => Q [j_lsh (sx_n c) (j_hd x) (j_hd y)] h2) := id rfl
theorem qe_17 : pE C (sx 17 a b c) en h Q = (pE C a en h fun x h1 => pE C b en h1 fun y h2 => j_hd y ≠ 0 → Q [j_div (sx_n c) (j_hd x) (j_hd y)] h2) := id rfl
theorem qe_18 : pE C (sx 18 a b c) en h Q = (pE C a en h fun x h1 => Q [j_un (sx_n c) (j_hd x)] h1) := id rfl
theorem qe_20 : pE C (sx 20 a b c) en h Q = (pE C a en h fun x h1 => pE C b en h1 fun y h2 => (j_cmp (sx_n c) (j_hd x) (j_hd y) = true → Q [1] h2) ∧ (j_cmp (sx_n c) (j_hd x) (j_hd y) = false → Q [0] h2)) := id rfl
theorem qe_22 : pE C (sx 22 a b c) en h Q = (pE C a en h fun x h1 => pE C b en h1 fun y h2 => (j_cmp (sx_n c) (j_hd x) (j_hd y) = true → Q [1] h2) ∧ (j_cmp (sx_n c) (j_hd x) (j_hd y) = false → Q [0] h2)) := id rfl
theorem qe_23 : pE C (sx 23 a b c) en h Q = (pE C a en h fun x h1 => pE C b en h1 fun y h2 => (j_cmp (sx_n c) (j_hd x) (j_hd y) = true → Q [1] h2) ∧ (j_cmp (sx_n c) (j_hd x) (j_hd y) = false → Q [0] h2)) := id rfl
theorem qe_21 : pE C (sx 21 a b c) en h Q = (pE C a en h fun x h1 => (j_cmp (sx_n c) (j_hd x) 0 = true → Q [1] h1) ∧ (j_cmp (sx_n c) (j_hd x) 0 = false → Q [0] h1)) := id rfl
theorem qe_24 : pE C (sx 24 a b c) en h Q = (pE C a en h Q) := id rfl
theorem qe_25 : pE C (sx 25 a b c) en h Q = (pC C a en h (fun h1 => pC C b en h1 (fun h2 => Q [1] h2) (fun h2 => Q [0] h2)) (fun h1 => Q [0] h1)) := id rfl
theorem qe_26 : pE C (sx 26 a b c) en h Q = (pC C a en h (fun h1 => Q [1] h1) (fun h1 => pC C b en h1 (fun h2 => Q [1] h2) (fun h2 => Q [0] h2))) := id rfl
theorem qe_27 : pE C (sx 27 a b c) en h Q = (pC C a en h (fun h1 => Q [0] h1) (fun h1 => Q [1] h1)) := id rfl
theorem qe_28 : pE C (sx 28 a b c) en h Q = (pC C a en h (fun h1 => pE C b en h1 Q) (fun h1 => pE C c en h1 Q)) := id rfl
theorem qe_30 : pE C (sx 30 a b c) en h Q = (pE C a en h fun x h1 => pE C b en h1 fun y h2 => Q (x ++ y) h2) := id rfl
theorem qe_31 : pE C (sx 31 a b c) en h Q = (Q [] h) := id rfl
theorem qe_32 : pE C (sx 32 a b c) en h Q = (pE C a en h fun av h1 => C (sx_n b) av h1 fun k r h2 => k = 1 → Q r h2) := id rfl
theorem qc_20 : pC C (sx 20 a b c) en h Qt Qf = (pE C a en h fun x h1 => pE C b en h1 fun y h2 => (j_cmp (sx_n c) (j_hd x) (j_hd y) = true → Qt h2) ∧ (j_cmp (sx_n c) (j_hd x) (j_hd y) = false → Qf h2)) := id rfl
theorem qc_22 : pC C (sx 22 a b c) en h Qt Qf = (pE C a en h fun x h1 => pE C b en h1 fun y h2 => (j_cmp (sx_n c) (j_hd x) (j_hd y) = true → Qt h2) ∧ (j_cmp (sx_n c) (j_hd x) (j_hd y) = false → Qf h2)) := id rfl
theorem qc_23 : pC C (sx 23 a b c) en h Qt Qf = (pE C a en h fun x h1 => pE C b en h1 fun y h2 => (j_cmp (sx_n c) (j_hd x) (j_hd y) = true → Qt h2) ∧ (j_cmp (sx_n c) (j_hd x) (j_hd y) = false → Qf h2)) := id rfl
theorem qc_21 : pC C (sx 21 a b c) en h Qt Qf = (pE C a en h fun x h1 => (j_cmp (sx_n c) (j_hd x) 0 = true → Qt h1) ∧ (j_cmp (sx_n c) (j_hd x) 0 = false → Qf h1)) := id rfl
theorem qc_24 : pC C (sx 24 a b c) en h Qt Qf = (pC C a en h Qt Qf) := id rfl
theorem qc_25 : pC C (sx 25 a b c) en h Qt Qf = (pC C a en h (fun h1 => pC C b en h1 Qt Qf) Qf) := id rfl
theorem qc_26 : pC C (sx 26 a b c) en h Qt Qf = (pC C a en h Qt (fun h1 => pC C b en h1 Qt Qf)) := id rfl
theorem qc_27 : pC C (sx 27 a b c) en h Qt Qf = (pC C a en h Qf Qt) := id rfl
theorem qc_1 : pC C (sx 1 a b c) en h Qt Qf = (pE C (sx 1 a b c) en h fun x h1 => (j_hd x ≠ 0 → Qt h1) ∧ (j_hd x = 0 → Qf h1)) := id rfl
theorem qc_3 : pC C (sx 3 a b c) en h Qt Qf = (pE C (sx 3 a b c) en h fun x h1 => (j_hd x ≠ 0 → Qt h1) ∧ (j_hd x = 0 → Qf h1)) := id rfl
theorem qc_4 : pC C (sx 4 a b c) en h Qt Qf = (pE C (sx 4 a b c) en h fun x h1 => (j_hd x ≠ 0 → Qt h1) ∧ (j_hd x = 0 → Qf h1)) := id rfl
theorem qc_7 : pC C (sx 7 a b c) en h Qt Qf = (pE C (sx 7 a b c) en h fun x h1 => (j_hd x ≠ 0 → Qt h1) ∧ (j_hd x = 0 → Qf h1)) := id rfl
theorem qc_13 : pC C (sx 13 a b c) en h Qt Qf = (pE C (sx 13 a b c) en h fun x h1 => (j_hd x ≠ 0 → Qt h1) ∧ (j_hd x = 0 → Qf h1)) := id rfl
theorem qc_28 : pC C (sx 28 a b c) en h Qt Qf = (pE C (sx 28 a b c) en h fun x h1 => (j_hd x ≠ 0 → Qt h1) ∧ (j_hd x = 0 → Qf h1)) := id rfl
theorem qc_32 : pC C (sx 32 a b c) en h Qt Qf = (pE C (sx 32 a b c) en h fun x h1 => (j_hd x ≠ 0 → Qt h1) ∧ (j_hd x = 0 → Qf h1)) := id rfl
theorem qs_1 : pS C (sx 1 a b c) en h R = (R 0 [] en h) := id rfl
theorem qs_2 : pS C (sx 2 a b c) en h R = (pS C a en h (fun k vs en1 h1 => (k = 0 → pS C b en1 h1 R) ∧ (k ≠ 0 → R k vs en1 h1))) := id rfl
theorem qs_3 : pS C (sx 3 a b c) en h R = (pE C b en h fun x h1 => R 0 [] (en.set (sx_n a) (j_hd x)) h1) := id rfl
theorem qs_4 : pS C (sx 4 a b c) en h R = (R 0 [] (en.set (sx_n a) (j32 (en.getD (sx_n a) 0 + (if sx_n c = 0 then (sx_n b : Int) else -(sx_n b : Int))))) h) := id rfl
theorem qs_5 : pS C (sx 5 a b c) en h R = (pE C a en h fun x h1 => pE C b en h1 fun y h2 => R 0 [] en (j_up h2 (j_hd x).toNat (sx_n c) (j_hd y))) := id rfl
theorem qs_6 : pS C (sx 6 a b c) en h R = (pE C a en h fun x h1 => pE C b en h1 fun y h2 => R 0 [] en (j_up h2 (j_hd x).toNat (sx_n c / 16) (j_iop (sx_n c % 16) (h1 (j_hd x).toNat (sx_n c / 16)) (j_hd y)))) := id rfl
theorem qs_9 : pS C (sx 9 a b c) en h R = (pE C a en h fun _ h1 => R 0 [] en h1) := id rfl
theorem qs_10 : pS C (sx 10 a b c) en h R = (pC C a en h (fun h1 => pS C b en h1 R) (fun h1 => R 0 [] en h1)) := id rfl
theorem qs_11 : pS C (sx 11 a b c) en h R = (pC C a en h (fun h1 => pS C b en h1 R) (fun h1 => pS C c en h1 R)) := id rfl
theorem qs_14 : pS C (sx 14 a b c) en h R = (R 2 [] en h) := id rfl
theorem qs_15 : pS C (sx 15 a b c) en h R = (R 3 [] en h) := id rfl
theorem qs_16 : pS C (sx 16 a b c) en h R = (pE C a en h fun x h1 => R 1 x en h1) := id rfl
theorem qs_27 : pS C (sx 27 a b c) en h R = (pE C a en h fun x h1 => (j_hd x = 0 ∨ j_hd x = 1) → R 1 x en h1) := id rfl
theorem qs_17 : pS C (sx 17 a b c) en h R = (R 1 [] en h) := id rfl
theorem qs_18 : pS C (sx 18 a b c) en h R = (R 4 [] en h) := id rfl
theorem qs_19 : pS C (sx 19 a b c) en h R = (pE C a en h fun x h1 => pS C b (j_hd x :: en) h1 fun c vs en1 h2 => (c = 2 → R 0 vs en1 h2) ∧ (c ≠ 2 → R c vs en1 h2)) := id rfl
theorem qs_20 : pS C (sx 20 a b c) en h R = (pS C a en h R) := id rfl
theorem qs_22 : pS C (sx 22 a b c) en h R = (R 0 [] en h) := id rfl
theorem qs_23 : pS C (sx 23 a b c) en h R = (pE C a en h fun x h1 => pE C b en h1 fun y h2 => (j_hd y = 0 ∨ j_hd y = 1) → R 0 [] en (j_up h2 (j_hd x).toNat (sx_n c) (j_hd y))) := id rfl
theorem qs_28 : pS C (sx 28 a b c) en h R = (pC C a en h (fun h1 => pS C b en h1 R) (fun h1 => R 2 [] en h1)) := id rfl
theorem qs_25 : pS C (sx 25 a b c) en h R = (((sx_l a).any (fun n => decide (en.headD 0 = sx_z n)) = true → pS C b en.tail h fun c vs en1 h1 => c ≠ 0 → R c vs en1 h1) ∧ ((sx_l a).any (fun n => decide (en.headD 0 = sx_z n)) = false → pS C c en h R)) := id rfl
theorem qs_26 : pS C (sx 26 a b c) en h R = (pS C a en.tail h R) := id rfl
theorem qs_7 {ty_w : Nat} {v : SX} : pS C (sx 7 a b (so ty_w v)) en h R = (pE C a en h fun x h1 => pE C b en h1 fun y h2 => pE C v en h2 fun z h3 => 0 ≤ j_hd y ∧ j_hd y < lnO (j_hd x) → R 0 [] en (j_up h3 (j_hd x).toNat (j_hd y).toNat (w_ty ty_w (j_hd z)))) := id rfl
theorem qs_8 {op_w : Nat} {v : SX} : pS C (sx 8 a b (so op_w v)) en h R = (pE C a en h fun x h1 => pE C b en h1 fun y h2 => pE C v en h2 fun z h3 => 0 ≤ j_hd y ∧ j_hd y < lnO (j_hd x) → R 0 [] en (j_up h3 (j_hd x).toNat (j_hd y).toNat (j_iop op_w (h2 (j_hd x).toNat (j_hd y).toNat) (j_hd z)))) := id rfl
theorem qp_lp (I : List Int → XH → Prop) (h0 : I en h) (hs : ∀ en h, I en h → pC C a en h (fun h1 => pS C b en h1 fun k vs en1 h2 => (k = 0 ∨ k = 3 → pS C c en1 h2 fun k' _ en2 h3 => k' = 0 → I en2 h3) ∧ (k = 2 → R 0 [] en1 h2) ∧ (k ≠ 0 → k ≠ 2 → k ≠ 3 → R k vs en1 h2)) (fun h1 => R 0 [] en h1)) : pS C (sx 12 a b c) en h R := ⟨I, h0, hs⟩
theorem qp_dp (I : List Int → XH → Prop) (h0 : I en h) (hs : ∀ en h, I en h → pS C b en h fun k vs en1 h2 => (k = 0 ∨ k = 3 → pC C a en1 h2 (fun h3 => I en1 h3) (fun h3 => R 0 [] en1 h3)) ∧ (k = 2 → R 0 [] en1 h2) ∧ (k ≠ 0 → k ≠ 2 → k ≠ 3 → R k vs en1 h2)) : pS C (sx 13 a b c) en h R := ⟨I, h0, hs⟩
end PEQ
theorem ro_0_0 : rfO 0 0 = 1 := by decide +kernel
theorem ro_0_1 : rfO 0 1 = 6 := by decide +kernel
theorem ro_0_2 : rfO 0 2 = 29 := by decide +kernel
theorem ro_0_3 : rfO 0 3 = 52 := by decide +kernel
theorem ro_0_4 : rfO 0 4 = 61 := by decide +kernel
theorem ro_0_5 : rfO 0 5 = 70 := by decide +kernel
theorem ro_0_6 : rfO 0 6 = 91 := by decide +kernel
theorem ro_0_7 : rfO 0 7 = 112 := by decide +kernel
theorem ro_0_8 : rfO 0 8 = 133 := by decide +kernel
theorem ro_0_9 : rfO 0 9 = 154 := by decide +kernel
theorem ro_0_10 : rfO 0 10 = 157 := by decide +kernel
theorem ro_0_11 : rfO 0 11 = 178 := by decide +kernel
theorem ro_0_12 : rfO 0 12 = 180 := by decide +kernel
theorem ro_1_0 : rfO 1 0 = 2 := by decide +kernel
theorem ro_1_1 : rfO 1 1 = 4 := by decide +kernel
theorem ro_2_0 : rfO 2 0 = 3 := by decide +kernel
theorem ro_4_0 : rfO 4 0 = 5 := by decide +kernel
theorem ro_6_0 : rfO 6 0 = 7 := by decide +kernel
theorem ro_6_1 : rfO 6 1 = 8 := by decide +kernel
theorem ro_6_2 : rfO 6 2 = 10 := by decide +kernel
theorem ro_6_3 : rfO 6 3 = 12 := by decide +kernel
theorem ro_6_4 : rfO 6 4 = 14 := by decide +kernel
theorem ro_6_5 : rfO 6 5 = 16 := by decide +kernel
theorem ro_6_6 : rfO 6 6 = 18 := by decide +kernel
theorem ro_6_7 : rfO 6 7 = 20 := by decide +kernel
theorem ro_6_8 : rfO 6 8 = 22 := by decide +kernel
theorem ro_8_0 : rfO 8 0 = 9 := by decide +kernel
theorem ro_10_0 : rfO 10 0 = 11 := by decide +kernel
theorem ro_12_0 : rfO 12 0 = 13 := by decide +kernel
theorem ro_14_0 : rfO 14 0 = 15 := by decide +kernel
theorem ro_16_0 : rfO 16 0 = 17 := by decide +kernel
theorem ro_18_0 : rfO 18 0 = 19 := by decide +kernel
theorem ro_20_0 : rfO 20 0 = 21 := by decide +kernel
theorem ro_22_0 : rfO 22 0 = 23 := by decide +kernel
theorem ro_22_1 : rfO 22 1 = 25 := by decide +kernel
theorem ro_22_2 : rfO 22 2 = 27 := by decide +kernel
theorem ro_23_0 : rfO 23 0 = 24 := by decide +kernel
theorem ro_25_0 : rfO 25 0 = 26 := by decide +kernel
theorem ro_27_0 : rfO 27 0 = 28 := by decide +kernel
theorem ro_29_0 : rfO 29 0 = 30 := by decide +kernel
theorem ro_29_1 : rfO 29 1 = 31 := by decide +kernel
theorem ro_29_2 : rfO 29 2 = 33 := by decide +kernel
theorem ro_29_3 : rfO 29 3 = 35 := by decide +kernel
theorem ro_29_4 : rfO 29 4 = 37 := by decide +kernel
theorem ro_29_5 : rfO 29 5 = 39 := by decide +kernel
theorem ro_29_6 : rfO 29 6 = 41 := by decide +kernel
theorem ro_29_7 : rfO 29 7 = 43 := by decide +kernel
theorem ro_29_8 : rfO 29 8 = 45 := by decide +kernel
theorem ro_31_0 : rfO 31 0 = 32 := by decide +kernel
theorem ro_33_0 : rfO 33 0 = 34 := by decide +kernel
theorem ro_35_0 : rfO 35 0 = 36 := by decide +kernel
theorem ro_37_0 : rfO 37 0 = 38 := by decide +kernel
theorem ro_39_0 : rfO 39 0 = 40 := by decide +kernel
theorem ro_41_0 : rfO 41 0 = 42 := by decide +kernel
theorem ro_43_0 : rfO 43 0 = 44 := by decide +kernel
theorem ro_45_0 : rfO 45 0 = 46 := by decide +kernel
theorem ro_45_1 : rfO 45 1 = 48 := by decide +kernel
theorem ro_45_2 : rfO 45 2 = 50 := by decide +kernel
theorem ro_46_0 : rfO 46 0 = 47 := by decide +kernel
theorem ro_48_0 : rfO 48 0 = 49 := by decide +kernel
theorem ro_50_0 : rfO 50 0 = 51 := by decide +kernel
theorem ro_52_0 : rfO 52 0 = 53 := by decide +kernel
theorem ro_52_1 : rfO 52 1 = 55 := by decide +kernel
theorem ro_52_2 : rfO 52 2 = 57 := by decide +kernel
theorem ro_52_3 : rfO 52 3 = 59 := by decide +kernel
theorem ro_53_0 : rfO 53 0 = 54 := by decide +kernel
theorem ro_55_0 : rfO 55 0 = 56 := by decide +kernel
theorem ro_57_0 : rfO 57 0 = 58 := by decide +kernel
theorem ro_59_0 : rfO 59 0 = 60 := by decide +kernel
theorem ro_61_0 : rfO 61 0 = 62 := by decide +kernel
theorem ro_61_1 : rfO 61 1 = 64 := by decide +kernel
theorem ro_61_2 : rfO 61 2 = 66 := by decide +kernel
theorem ro_61_3 : rfO 61 3 = 68 := by decide +kernel
theorem ro_62_0 : rfO 62 0 = 63 := by decide +kernel
theorem ro_64_0 : rfO 64 0 = 65 := by decide +kernel
theorem ro_66_0 : rfO 66 0 = 67 := by decide +kernel
theorem ro_68_0 : rfO 68 0 = 69 := by decide +kernel
theorem ro_70_0 : rfO 70 0 = 71 := by decide +kernel
theorem ro_70_1 : rfO 70 1 = 73 := by decide +kernel
theorem ro_70_2 : rfO 70 2 = 75 := by decide +kernel
theorem ro_70_3 : rfO 70 3 = 77 := by decide +kernel
theorem ro_70_4 : rfO 70 4 = 79 := by decide +kernel
theorem ro_70_5 : rfO 70 5 = 81 := by decide +kernel
theorem ro_70_6 : rfO 70 6 = 83 := by decide +kernel
theorem ro_70_7 : rfO 70 7 = 85 := by decide +kernel
theorem ro_70_8 : rfO 70 8 = 87 := by decide +kernel
theorem ro_70_9 : rfO 70 9 = 89 := by decide +kernel
theorem ro_71_0 : rfO 71 0 = 72 := by decide +kernel
theorem ro_73_0 : rfO 73 0 = 74 := by decide +kernel
theorem ro_75_0 : rfO 75 0 = 76 := by decide +kernel
theorem ro_77_0 : rfO 77 0 = 78 := by decide +kernel
theorem ro_79_0 : rfO 79 0 = 80 := by decide +kernel
theorem ro_81_0 : rfO 81 0 = 82 := by decide +kernel
theorem ro_83_0 : rfO 83 0 = 84 := by decide +kernel
theorem ro_85_0 : rfO 85 0 = 86 := by decide +kernel
theorem ro_87_0 : rfO 87 0 = 88 := by decide +kernel
theorem ro_89_0 : rfO 89 0 = 90 := by decide +kernel
theorem ro_91_0 : rfO 91 0 = 92 := by decide +kernel
theorem ro_91_1 : rfO 91 1 = 94 := by decide +kernel
theorem ro_91_2 : rfO 91 2 = 96 := by decide +kernel
theorem ro_91_3 : rfO 91 3 = 98 := by decide +kernel
theorem ro_91_4 : rfO 91 4 = 100 := by decide +kernel
theorem ro_91_5 : rfO 91 5 = 102 := by decide +kernel
theorem ro_91_6 : rfO 91 6 = 104 := by decide +kernel
theorem ro_91_7 : rfO 91 7 = 106 := by decide +kernel
theorem ro_91_8 : rfO 91 8 = 108 := by decide +kernel
theorem ro_91_9 : rfO 91 9 = 110 := by decide +kernel
theorem ro_92_0 : rfO 92 0 = 93 := by decide +kernel
theorem ro_94_0 : rfO 94 0 = 95 := by decide +kernel
theorem ro_96_0 : rfO 96 0 = 97 := by decide +kernel
theorem ro_98_0 : rfO 98 0 = 99 := by decide +kernel
theorem ro_100_0 : rfO 100 0 = 101 := by decide +kernel
theorem ro_102_0 : rfO 102 0 = 103 := by decide +kernel
theorem ro_104_0 : rfO 104 0 = 105 := by decide +kernel
theorem ro_106_0 : rfO 106 0 = 107 := by decide +kernel
theorem ro_108_0 : rfO 108 0 = 109 := by decide +kernel
theorem ro_110_0 : rfO 110 0 = 111 := by decide +kernel
theorem ro_112_0 : rfO 112 0 = 113 := by decide +kernel
theorem ro_112_1 : rfO 112 1 = 115 := by decide +kernel
theorem ro_112_2 : rfO 112 2 = 117 := by decide +kernel
theorem ro_112_3 : rfO 112 3 = 119 := by decide +kernel
theorem ro_112_4 : rfO 112 4 = 121 := by decide +kernel
theorem ro_112_5 : rfO 112 5 = 123 := by decide +kernel
theorem ro_112_6 : rfO 112 6 = 125 := by decide +kernel
theorem ro_112_7 : rfO 112 7 = 127 := by decide +kernel
theorem ro_112_8 : rfO 112 8 = 129 := by decide +kernel
theorem ro_112_9 : rfO 112 9 = 131 := by decide +kernel
theorem ro_113_0 : rfO 113 0 = 114 := by decide +kernel
theorem ro_115_0 : rfO 115 0 = 116 := by decide +kernel
theorem ro_117_0 : rfO 117 0 = 118 := by decide +kernel
theorem ro_119_0 : rfO 119 0 = 120 := by decide +kernel
theorem ro_121_0 : rfO 121 0 = 122 := by decide +kernel
theorem ro_123_0 : rfO 123 0 = 124 := by decide +kernel
theorem ro_125_0 : rfO 125 0 = 126 := by decide +kernel
theorem ro_127_0 : rfO 127 0 = 128 := by decide +kernel
theorem ro_129_0 : rfO 129 0 = 130 := by decide +kernel
theorem ro_131_0 : rfO 131 0 = 132 := by decide +kernel
theorem ro_133_0 : rfO 133 0 = 134 := by decide +kernel
theorem ro_133_1 : rfO 133 1 = 136 := by decide +kernel
theorem ro_133_2 : rfO 133 2 = 138 := by decide +kernel
theorem ro_133_3 : rfO 133 3 = 140 := by decide +kernel
theorem ro_133_4 : rfO 133 4 = 142 := by decide +kernel
theorem ro_133_5 : rfO 133 5 = 144 := by decide +kernel
theorem ro_133_6 : rfO 133 6 = 146 := by decide +kernel
theorem ro_133_7 : rfO 133 7 = 148 := by decide +kernel
theorem ro_133_8 : rfO 133 8 = 150 := by decide +kernel
theorem ro_133_9 : rfO 133 9 = 152 := by decide +kernel
theorem ro_134_0 : rfO 134 0 = 135 := by decide +kernel
theorem ro_136_0 : rfO 136 0 = 137 := by decide +kernel
theorem ro_138_0 : rfO 138 0 = 139 := by decide +kernel
theorem ro_140_0 : rfO 140 0 = 141 := by decide +kernel
theorem ro_142_0 : rfO 142 0 = 143 := by decide +kernel
theorem ro_144_0 : rfO 144 0 = 145 := by decide +kernel
theorem ro_146_0 : rfO 146 0 = 147 := by decide +kernel
theorem ro_148_0 : rfO 148 0 = 149 := by decide +kernel
theorem ro_150_0 : rfO 150 0 = 151 := by decide +kernel
theorem ro_152_0 : rfO 152 0 = 153 := by decide +kernel
theorem ro_154_0 : rfO 154 0 = 155 := by decide +kernel
theorem ro_155_0 : rfO 155 0 = 156 := by decide +kernel
theorem ro_157_0 : rfO 157 0 = 158 := by decide +kernel
theorem ro_157_1 : rfO 157 1 = 160 := by decide +kernel
theorem ro_157_2 : rfO 157 2 = 162 := by decide +kernel
theorem ro_157_3 : rfO 157 3 = 164 := by decide +kernel
theorem ro_157_4 : rfO 157 4 = 166 := by decide +kernel
theorem ro_157_5 : rfO 157 5 = 168 := by decide +kernel
theorem ro_157_6 : rfO 157 6 = 170 := by decide +kernel
theorem ro_157_7 : rfO 157 7 = 172 := by decide +kernel
theorem ro_157_8 : rfO 157 8 = 174 := by decide +kernel
theorem ro_157_9 : rfO 157 9 = 176 := by decide +kernel
theorem ro_158_0 : rfO 158 0 = 159 := by decide +kernel
theorem ro_160_0 : rfO 160 0 = 161 := by decide +kernel
theorem ro_162_0 : rfO 162 0 = 163 := by decide +kernel
theorem ro_164_0 : rfO 164 0 = 165 := by decide +kernel
theorem ro_166_0 : rfO 166 0 = 167 := by decide +kernel
theorem ro_168_0 : rfO 168 0 = 169 := by decide +kernel
theorem ro_170_0 : rfO 170 0 = 171 := by decide +kernel
theorem ro_172_0 : rfO 172 0 = 173 := by decide +kernel
theorem ro_174_0 : rfO 174 0 = 175 := by decide +kernel
theorem ro_176_0 : rfO 176 0 = 177 := by decide +kernel
theorem ro_178_0 : rfO 178 0 = 179 := by decide +kernel
theorem ro_180_0 : rfO 180 0 = 181 := by decide +kernel
theorem ro_182_1 : rfO 182 1 = 183 := by decide +kernel
theorem ro_182_4 : rfO 182 4 = 184 := by decide +kernel
theorem ro_182_5 : rfO 182 5 = 185 := by decide +kernel
theorem ro_182_6 : rfO 182 6 = 186 := by decide +kernel
theorem ro_182_9 : rfO 182 9 = 187 := by decide +kernel
theorem ro_182_10 : rfO 182 10 = 188 := by decide +kernel
theorem ro_182_11 : rfO 182 11 = 189 := by decide +kernel
theorem ro_182_13 : rfO 182 13 = 190 := by decide +kernel
theorem ro_182_14 : rfO 182 14 = 191 := by decide +kernel
theorem ro_182_15 : rfO 182 15 = 192 := by decide +kernel
theorem ro_182_16 : rfO 182 16 = 193 := by decide +kernel
theorem ro_182_17 : rfO 182 17 = 194 := by decide +kernel
theorem ro_182_20 : rfO 182 20 = 195 := by decide +kernel
theorem ro_182_21 : rfO 182 21 = 196 := by decide +kernel
theorem ro_182_22 : rfO 182 22 = 197 := by decide +kernel
theorem ro_182_23 : rfO 182 23 = 198 := by decide +kernel
theorem ro_182_24 : rfO 182 24 = 199 := by decide +kernel
theorem ro_182_26 : rfO 182 26 = 200 := by decide +kernel
theorem ro_182_27 : rfO 182 27 = 201 := by decide +kernel
theorem ro_182_28 : rfO 182 28 = 202 := by decide +kernel
theorem lo_3 : lnO 3 = 1000 := by decide +kernel
theorem lo_5 : lnO 5 = 12 := by decide +kernel
theorem lo_7 : lnO 7 = 14 := by decide +kernel
theorem lo_9 : lnO 9 = 12 := by decide +kernel
theorem lo_11 : lnO 11 = 4 := by decide +kernel
theorem lo_13 : lnO 13 = 4 := by decide +kernel
theorem lo_15 : lnO 15 = 52 := by decide +kernel
theorem lo_17 : lnO 17 = 6 := by decide +kernel
theorem lo_19 : lnO 19 = 6 := by decide +kernel
theorem lo_21 : lnO 21 = 6 := by decide +kernel
theorem lo_24 : lnO 24 = 1000 := by decide +kernel
theorem lo_26 : lnO 26 = 64 := by decide +kernel
theorem lo_28 : lnO 28 = 64 := by decide +kernel
theorem lo_30 : lnO 30 = 14 := by decide +kernel
theorem lo_32 : lnO 32 = 12 := by decide +kernel
theorem lo_34 : lnO 34 = 4 := by decide +kernel
theorem lo_36 : lnO 36 = 4 := by decide +kernel
theorem lo_38 : lnO 38 = 52 := by decide +kernel
theorem lo_40 : lnO 40 = 6 := by decide +kernel
theorem lo_42 : lnO 42 = 6 := by decide +kernel
theorem lo_44 : lnO 44 = 6 := by decide +kernel
theorem lo_47 : lnO 47 = 1000 := by decide +kernel
theorem lo_49 : lnO 49 = 64 := by decide +kernel
theorem lo_51 : lnO 51 = 64 := by decide +kernel
theorem lo_54 : lnO 54 = 30 := by decide +kernel
theorem lo_56 : lnO 56 = 30 := by decide +kernel
theorem lo_58 : lnO 58 = 30 := by decide +kernel
theorem lo_60 : lnO 60 = 30 := by decide +kernel
theorem lo_63 : lnO 63 = 30 := by decide +kernel
theorem lo_65 : lnO 65 = 30 := by decide +kernel
theorem lo_67 : lnO 67 = 30 := by decide +kernel
theorem lo_69 : lnO 69 = 30 := by decide +kernel
theorem lo_72 : lnO 72 = 78 := by decide +kernel
theorem lo_74 : lnO 74 = 72 := by decide +kernel
theorem lo_76 : lnO 76 = 12 := by decide +kernel
theorem lo_78 : lnO 78 = 192 := by decide +kernel
theorem lo_80 : lnO 80 = 64 := by decide +kernel
theorem lo_82 : lnO 82 = 64 := by decide +kernel
theorem lo_84 : lnO 84 = 4 := by decide +kernel
theorem lo_86 : lnO 86 = 8 := by decide +kernel
theorem lo_88 : lnO 88 = 8 := by decide +kernel
theorem lo_90 : lnO 90 = 8 := by decide +kernel
theorem lo_93 : lnO 93 = 78 := by decide +kernel
theorem lo_95 : lnO 95 = 72 := by decide +kernel
theorem lo_97 : lnO 97 = 12 := by decide +kernel
theorem lo_99 : lnO 99 = 192 := by decide +kernel
theorem lo_101 : lnO 101 = 64 := by decide +kernel
theorem lo_103 : lnO 103 = 64 := by decide +kernel
theorem lo_105 : lnO 105 = 4 := by decide +kernel
theorem lo_107 : lnO 107 = 8 := by decide +kernel
theorem lo_109 : lnO 109 = 8 := by decide +kernel
theorem lo_111 : lnO 111 = 8 := by decide +kernel
theorem lo_114 : lnO 114 = 78 := by decide +kernel
theorem lo_116 : lnO 116 = 72 := by decide +kernel
theorem lo_118 : lnO 118 = 12 := by decide +kernel
theorem lo_120 : lnO 120 = 192 := by decide +kernel
theorem lo_122 : lnO 122 = 64 := by decide +kernel
theorem lo_124 : lnO 124 = 64 := by decide +kernel
theorem lo_126 : lnO 126 = 4 := by decide +kernel
theorem lo_128 : lnO 128 = 8 := by decide +kernel
theorem lo_130 : lnO 130 = 8 := by decide +kernel
theorem lo_132 : lnO 132 = 8 := by decide +kernel
theorem lo_135 : lnO 135 = 78 := by decide +kernel
theorem lo_137 : lnO 137 = 72 := by decide +kernel
theorem lo_139 : lnO 139 = 12 := by decide +kernel
theorem lo_141 : lnO 141 = 192 := by decide +kernel
theorem lo_143 : lnO 143 = 64 := by decide +kernel
theorem lo_145 : lnO 145 = 64 := by decide +kernel
theorem lo_147 : lnO 147 = 4 := by decide +kernel
theorem lo_149 : lnO 149 = 8 := by decide +kernel
theorem lo_151 : lnO 151 = 8 := by decide +kernel
theorem lo_153 : lnO 153 = 8 := by decide +kernel
theorem lo_156 : lnO 156 = 128 := by decide +kernel
theorem lo_159 : lnO 159 = 6 := by decide +kernel
theorem lo_161 : lnO 161 = 6 := by decide +kernel
theorem lo_163 : lnO 163 = 6 := by decide +kernel
theorem lo_165 : lnO 165 = 4 := by decide +kernel
theorem lo_167 : lnO 167 = 4 := by decide +kernel
theorem lo_169 : lnO 169 = 4 := by decide +kernel
theorem lo_171 : lnO 171 = 4 := by decide +kernel
theorem lo_173 : lnO 173 = 6 := by decide +kernel
theorem lo_175 : lnO 175 = 6 := by decide +kernel
theorem lo_177 : lnO 177 = 6 := by decide +kernel
theorem lo_179 : lnO 179 = 4 := by decide +kernel
theorem lo_181 : lnO 181 = 4 := by decide +kernel
theorem lo_183 : lnO 183 = 1000 := by decide +kernel
theorem lo_184 : lnO 184 = 1002 := by decide +kernel
theorem lo_185 : lnO 185 = 1002 := by decide +kernel
theorem lo_186 : lnO 186 = 1002 := by decide +kernel
theorem lo_187 : lnO 187 = 24 := by decide +kernel
theorem lo_188 : lnO 188 = 190 := by decide +kernel
theorem lo_189 : lnO 189 = 2200 := by decide +kernel
theorem lo_190 : lnO 190 = 28 := by decide +kernel
theorem lo_191 : lnO 191 = 250 := by decide +kernel
theorem lo_192 : lnO 192 = 4 := by decide +kernel
theorem lo_193 : lnO 193 = 64 := by decide +kernel
theorem lo_194 : lnO 194 = 5148 := by decide +kernel
theorem lo_195 : lnO 195 = 2 := by decide +kernel
theorem lo_196 : lnO 196 = 6 := by decide +kernel
theorem lo_197 : lnO 197 = 6 := by decide +kernel
theorem lo_198 : lnO 198 = 4 := by decide +kernel
theorem lo_199 : lnO 199 = 4 := by decide +kernel
theorem lo_200 : lnO 200 = 6 := by decide +kernel
theorem lo_201 : lnO 201 = 6 := by decide +kernel
theorem lo_202 : lnO 202 = 6 := by decide +kernel
theorem lo_203 : lnO 203 = 1 := by decide +kernel
section KC2
variable {b c : SX}
theorem kn_3 : sx_c (sv 3) b (sv 1) = -3 := id rfl
theorem kn_4 : sx_c (sv 4) b (sv 1) = -4 := id rfl
theorem kn_5 : sx_c (sv 5) b (sv 1) = -5 := id rfl
theorem kn_6 : sx_c (sv 6) b (sv 1) = -6 := id rfl
theorem kn_7 : sx_c (sv 7) b (sv 1) = -7 := id rfl
theorem kn_8 : sx_c (sv 8) b (sv 1) = -8 := id rfl
theorem kn_9 : sx_c (sv 9) b (sv 1) = -9 := id rfl
theorem kn_10 : sx_c (sv 10) b (sv 1) = -10 := id rfl
theorem kc_11 : sx_c (sv 11) b z0 = 11 := id rfl
theorem kn_11 : sx_c (sv 11) b (sv 1) = -11 := id rfl
theorem kn_12 : sx_c (sv 12) b (sv 1) = -12 := id rfl
theorem kn_13 : sx_c (sv 13) b (sv 1) = -13 := id rfl
theorem kn_14 : sx_c (sv 14) b (sv 1) = -14 := id rfl
theorem kc_15 : sx_c (sv 15) b z0 = 15 := id rfl
theorem kn_15 : sx_c (sv 15) b (sv 1) = -15 := id rfl
theorem kc_23 : sx_c (sv 23) b z0 = 23 := id rfl
theorem kc_52 : sx_c (sv 52) b z0 = 52 := id rfl
theorem kc_63 : sx_c (sv 63) b z0 = 63 := id rfl
theorem kc_72 : sx_c (sv 72) b z0 = 72 := id rfl
theorem kc_128 : sx_c (sv 128) b z0 = 128 := id rfl
theorem kc_192 : sx_c (sv 192) b z0 = 192 := id rfl
theorem kc_252645135 : sx_c (sv 252645135) b z0 = 252645135 := id rfl
theorem kc_858993459 : sx_c (sv 858993459) b z0 = 858993459 := id rfl
theorem kc_1431655765 : sx_c (sv 1431655765) b z0 = 1431655765 := id rfl
theorem kc_2147483647 : sx_c (sv 2147483647) b z0 = 2147483647 := id rfl
end KC2
theorem gp_0 : g_M 0 = (0, 1, [10], [], bb_0) := rfl
theorem gp_2 : g_M 2 = (0, 2, [10], [1], bb_2) := rfl
theorem gp_3 : g_M 3 = (0, 1, [10], [], bb_3) := rfl
theorem gp_4 : g_M 4 = (0, 2, [10], [1], bb_4) := rfl
theorem gp_5 : g_M 5 = (0, 3, [10, 1, 1], [1], bb_5) := rfl
theorem gp_6 : g_M 6 = (0, 3, [10, 1, 1], [1], bb_6) := rfl
theorem gp_7 : g_M 7 = (0, 3, [10, 1, 1], [1], bb_7) := rfl
theorem gp_8 : g_M 8 = (0, 5, [10, 1, 1, 1], [1], bb_8) := rfl
theorem gp_9 : g_M 9 = (0, 5, [10, 1, 1, 1], [1], bb_9) := rfl
theorem gp_10 : g_M 10 = (0, 4, [10, 1, 1], [1], bb_10) := rfl
theorem gp_11 : g_M 11 = (0, 1, [10], [1], bb_11) := rfl
theorem gp_12 : g_M 12 = (0, 1, [10], [1], bb_12) := rfl
theorem gp_13 : g_M 13 = (0, 4, [10, 1], [1], bb_13) := rfl
theorem gp_14 : g_M 14 = (0, 3, [10, 1, 1], [1], bb_14) := rfl
theorem gp_15 : g_M 15 = (0, 3, [10, 1, 1], [1], bb_15) := rfl
theorem gp_16 : g_M 16 = (0, 3, [10, 1, 1], [1], bb_16) := rfl
theorem gp_17 : g_M 17 = (0, 2, [10, 1], [1], bb_17) := rfl
theorem gp_18 : g_M 18 = (0, 3, [10, 1, 1], [1], bb_18) := rfl
theorem gp_19 : g_M 19 = (0, 3, [10, 1, 1], [1], bb_19) := rfl
theorem gp_20 : g_M 20 = (0, 3, [10, 1, 1], [1], bb_20) := rfl
theorem gp_21 : g_M 21 = (0, 2, [10, 1], [1], bb_21) := rfl
theorem gp_22 : g_M 22 = (0, 4, [10, 1], [1], bb_22) := rfl
theorem gp_23 : g_M 23 = (0, 7, [10, 1, 1], [1], bb_23) := rfl
theorem gp_24 : g_M 24 = (0, 2, [10, 1], [1], bb_24) := rfl
theorem gp_25 : g_M 25 = (0, 1, [10], [1], bb_25) := rfl
theorem gp_26 : g_M 26 = (0, 4, [10], [1], bb_26) := rfl
theorem gp_27 : g_M 27 = (0, 4, [10, 1, 1, 1], [1], bb_27) := rfl
theorem gp_28 : g_M 28 = (0, 5, [10, 1, 1, 1], [1], bb_28) := rfl
theorem gp_29 : g_M 29 = (0, 4, [10, 1], [1], bb_29) := rfl
theorem gp_30 : g_M 30 = (0, 1, [10], [1], bb_30) := rfl
theorem gp_31 : g_M 31 = (0, 5, [10, 1, 1], [1], bb_31) := rfl
theorem gp_32 : g_M 32 = (0, 4, [10, 1, 1], [1], bb_32) := rfl
theorem gp_33 : g_M 33 = (0, 5, [10, 1, 1, 1, 1], [1], bb_33) := rfl
theorem gp_34 : g_M 34 = (0, 3, [10, 1, 1], [1], bb_34) := rfl
theorem gp_35 : g_M 35 = (0, 2, [10, 1], [1], bb_35) := rfl
theorem gp_36 : g_M 36 = (0, 5, [10], [1], bb_36) := rfl
theorem gp_37 : g_M 37 = (0, 1, [10], [], bb_37) := rfl
theorem gp_38 : g_M 38 = (0, 2, [10, 1], [1], bb_38) := rfl
theorem gp_39 : g_M 39 = (0, 4, [10, 1], [1], bb_39) := rfl
theorem gp_40 : g_M 40 = (0, 4, [10, 1, 1, 1], [1], bb_40) := rfl
theorem gp_41 : g_M 41 = (0, 4, [10], [1], bb_41) := rfl
theorem gp_42 : g_M 42 = (0, 6, [10], [1], bb_42) := rfl
theorem gp_43 : g_M 43 = (0, 4, [10, 1, 1, 1], [1], bb_43) := rfl
theorem gp_44 : g_M 44 = (0, 8, [10, 1, 1], [], bb_44) := rfl
theorem gp_45 : g_M 45 = (0, 2, [2], [2], bb_45) := rfl
theorem gp_46 : g_M 46 = (0, 3, [2, 1], [1], bb_46) := rfl
theorem gp_47 : g_M 47 = (0, 3, [10], [1], bb_47) := rfl
theorem gp_48 : g_M 48 = (0, 3, [10, 1, 1], [1], bb_48) := rfl
theorem gp_49 : g_M 49 = (0, 2, [10, 1], [1], bb_49) := rfl
theorem gp_50 : g_M 50 = (0, 2, [10, 1], [1], bb_50) := rfl
theorem gp_51 : g_M 51 = (0, 2, [10, 1], [1], bb_51) := rfl
theorem gp_52 : g_M 52 = (0, 3, [10], [1], bb_52) := rfl
theorem gp_53 : g_M 53 = (0, 2, [17, 1], [], bb_53) := rfl
theorem gp_60 : g_M 60 = (0, 1, [19], [], bb_60) := rfl
theorem gp_61 : g_M 61 = (0, 1, [19], [], bb_61) := rfl
theorem gp_63 : g_M 63 = (0, 1, [19], [], bb_63) := rfl
theorem gp_64 : g_M 64 = (0, 2, [19], [], bb_64) := rfl
theorem gp_65 : g_M 65 = (0, 3, [19], [], bb_65) := rfl
theorem gp_66 : g_M 66 = (0, 3, [19], [], bb_66) := rfl
theorem gp_67 : g_M 67 = (0, 3, [19, 1], [1], bb_67) := rfl
theorem gp_68 : g_M 68 = (0, 2, [19, 1], [1], bb_68) := rfl
theorem gp_69 : g_M 69 = (0, 1, [1], [1], bb_69) := rfl
theorem gp_70 : g_M 70 = (0, 1, [1], [1], bb_70) := rfl
theorem gp_71 : g_M 71 = (0, 1, [1], [1], bb_71) := rfl
theorem gp_72 : g_M 72 = (0, 1, [19], [1], bb_72) := rfl
theorem gp_73 : g_M 73 = (0, 1, [19], [1], bb_73) := rfl
theorem gp_74 : g_M 74 = (0, 2, [19, 1], [1], bb_74) := rfl
theorem gp_75 : g_M 75 = (0, 1, [19], [1], bb_75) := rfl
theorem gp_76 : g_M 76 = (0, 1, [19], [1], bb_76) := rfl
theorem gp_77 : g_M 77 = (0, 2, [19], [3], bb_77) := rfl
theorem gp_78 : g_M 78 = (0, 1, [11], [], bb_78) := rfl
theorem gp_79 : g_M 79 = (0, 1, [11], [], bb_79) := rfl
theorem gp_80 : g_M 80 = (0, 2, [11, 11], [], bb_80) := rfl
theorem gp_81 : g_M 81 = (0, 5, [11, 19], [1], bb_81) := rfl
theorem gp_82 : g_M 82 = (0, 2, [19], [1], bb_82) := rfl
theorem gp_83 : g_M 83 = (0, 2, [19], [1], bb_83) := rfl
theorem gp_84 : g_M 84 = (0, 1, [1], [1], bb_84) := rfl
theorem gp_85 : g_M 85 = (0, 3, [11, 1], [1], bb_85) := rfl
theorem gp_86 : g_M 86 = (0, 2, [11, 1], [1], bb_86) := rfl
theorem gp_87 : g_M 87 = (0, 2, [11, 1], [1], bb_87) := rfl
theorem gp_88 : g_M 88 = (0, 1, [11], [1], bb_88) := rfl
theorem gp_89 : g_M 89 = (0, 2, [11, 1], [], bb_89) := rfl
theorem gp_90 : g_M 90 = (0, 2, [11], [], bb_90) := rfl
theorem gp_91 : g_M 91 = (0, 3, [11, 1], [], bb_91) := rfl
theorem gp_92 : g_M 92 = (0, 8, [11, 1, 1, 1, 1], [1], bb_92) := rfl
theorem gp_93 : g_M 93 = (0, 5, [1, 1, 1, 1, 1], [1], bb_93) := rfl
theorem gp_94 : g_M 94 = (0, 3, [1, 1, 1], [1], bb_94) := rfl
theorem gp_95 : g_M 95 = (0, 1, [15], [], bb_95) := rfl
theorem gp_96 : g_M 96 = (0, 1, [15], [], bb_96) := rfl
theorem gp_97 : g_M 97 = (0, 3, [15, 15], [], bb_97) := rfl
theorem gp_98 : g_M 98 = (0, 8, [15, 2, 1, 17, 1], [], bb_98) := rfl
theorem gp_99 : g_M 99 = (0, 3, [15, 2], [], bb_99) := rfl
theorem gp_100 : g_M 100 = (0, 6, [15, 2, 1, 1, 1], [], bb_100) := rfl
theorem gp_101 : g_M 101 = (0, 4, [15, 1, 2], [], bb_101) := rfl
theorem gp_102 : g_M 102 = (0, 3, [15, 2], [1], bb_102) := rfl
theorem gp_103 : g_M 103 = (0, 3, [15, 2], [1], bb_103) := rfl
theorem gp_104 : g_M 104 = (0, 3, [15, 2], [1], bb_104) := rfl
theorem gp_105 : g_M 105 = (0, 6, [15, 2, 1, 1], [1], bb_105) := rfl
theorem gp_106 : g_M 106 = (0, 3, [15, 2], [1], bb_106) := rfl
theorem gp_107 : g_M 107 = (0, 2, [15, 1], [1], bb_107) := rfl
theorem gp_108 : g_M 108 = (0, 2, [15, 1], [1], bb_108) := rfl
theorem gp_109 : g_M 109 = (0, 2, [15, 1], [1], bb_109) := rfl
theorem gp_110 : g_M 110 = (0, 2, [15, 1], [1], bb_110) := rfl
theorem gp_111 : g_M 111 = (0, 3, [15, 1, 1], [1], bb_111) := rfl
theorem gp_112 : g_M 112 = (0, 4, [15, 1, 1, 1], [1], bb_112) := rfl
theorem gp_113 : g_M 113 = (0, 2, [15, 1], [1], bb_113) := rfl
theorem gp_114 : g_M 114 = (0, 2, [15, 1], [1], bb_114) := rfl
theorem gp_115 : g_M 115 = (0, 1, [13], [], bb_115) := rfl
theorem gp_116 : g_M 116 = (0, 5, [13, 1, 1, 1, 1], [], bb_116) := rfl
theorem gp_117 : g_M 117 = (0, 2, [13, 13], [], bb_117) := rfl
theorem gp_118 : g_M 118 = (0, 1, [16], [], bb_118) := rfl
theorem gp_119 : g_M 119 = (0, 5, [16, 15], [1], bb_119) := rfl
theorem gp_120 : g_M 120 = (0, 6, [16, 15, 13], [1], bb_120) := rfl
theorem gp_121 : g_M 121 = (0, 1, [3], [1], bb_121) := rfl
theorem gp_122 : g_M 122 = (0, 2, [16, 15], [1], bb_122) := rfl
theorem gp_123 : g_M 123 = (0, 3, [16, 15], [1], bb_123) := rfl
theorem gp_124 : g_M 124 = (0, 5, [16, 15], [1], bb_124) := rfl
theorem gp_125 : g_M 125 = (0, 2, [16, 15], [1], bb_125) := rfl
theorem gp_126 : g_M 126 = (0, 6, [16, 15], [1], bb_126) := rfl
theorem gp_127 : g_M 127 = (0, 1, [3], [1], bb_127) := rfl
theorem gp_128 : g_M 128 = (0, 3, [16, 15], [1], bb_128) := rfl
theorem gp_129 : g_M 129 = (0, 5, [16, 15, 13], [1], bb_129) := rfl
theorem gp_130 : g_M 130 = (0, 4, [16, 15, 13], [1], bb_130) := rfl
theorem gp_131 : g_M 131 = (0, 4, [16, 15, 13], [1], bb_131) := rfl
theorem gp_132 : g_M 132 = (0, 2, [16, 13], [1], bb_132) := rfl
theorem gp_133 : g_M 133 = (0, 2, [16, 1], [1], bb_133) := rfl
theorem gp_134 : g_M 134 = (0, 1, [16], [1], bb_134) := rfl
theorem gp_135 : g_M 135 = (0, 2, [16, 3], [1], bb_135) := rfl
theorem gp_136 : g_M 136 = (0, 3, [16, 1, 1], [1], bb_136) := rfl
theorem gp_137 : g_M 137 = (0, 3, [16, 1], [1], bb_137) := rfl
theorem gp_138 : g_M 138 = (0, 1, [16], [1], bb_138) := rfl
theorem gp_139 : g_M 139 = (0, 2, [16, 1], [1], bb_139) := rfl
theorem gp_140 : g_M 140 = (0, 2, [16, 15], [1], bb_140) := rfl
theorem gp_141 : g_M 141 = (0, 1, [12], [], bb_141) := rfl
theorem gp_142 : g_M 142 = (0, 3, [12, 15], [], bb_142) := rfl
theorem gp_143 : g_M 143 = (0, 2, [12, 12], [], bb_143) := rfl
theorem gp_144 : g_M 144 = (0, 6, [12, 13, 1], [1], bb_144) := rfl
theorem gp_145 : g_M 145 = (0, 1, [12], [1], bb_145) := rfl
theorem gp_146 : g_M 146 = (0, 3, [12, 1, 1], [1], bb_146) := rfl
theorem gp_147 : g_M 147 = (0, 4, [12, 1, 1, 1], [], bb_147) := rfl
theorem gp_148 : g_M 148 = (0, 3, [12, 1], [], bb_148) := rfl
theorem gp_149 : g_M 149 = (0, 4, [12, 1], [1], bb_149) := rfl
theorem gp_150 : g_M 150 = (0, 4, [12, 1, 1], [1], bb_150) := rfl
theorem gp_151 : g_M 151 = (0, 5, [12, 1, 1, 1], [1], bb_151) := rfl
theorem gp_152 : g_M 152 = (0, 4, [12, 15, 1, 1], [1], bb_152) := rfl
theorem gp_153 : g_M 153 = (0, 7, [12, 15, 1, 1], [1], bb_153) := rfl
theorem gp_154 : g_M 154 = (0, 12, [12, 15, 1, 1, 1, 1], [1], bb_154) := rfl
theorem gp_155 : g_M 155 = (0, 3, [12, 1, 1], [1], bb_155) := rfl
theorem gp_156 : g_M 156 = (0, 5, [12, 1, 1, 1], [], bb_156) := rfl
theorem gp_157 : g_M 157 = (0, 4, [12, 1, 1, 1], [], bb_157) := rfl
theorem gp_158 : g_M 158 = (0, 2, [12, 1], [1], bb_158) := rfl
theorem gp_159 : g_M 159 = (0, 4, [12, 1, 1, 1], [1], bb_159) := rfl
theorem gp_160 : g_M 160 = (0, 5, [12, 1, 1, 1, 1], [], bb_160) := rfl
theorem gp_161 : g_M 161 = (0, 1, [12], [1], bb_161) := rfl
theorem gp_162 : g_M 162 = (0, 7, [12, 1, 1, 1], [1], bb_162) := rfl
theorem gp_163 : g_M 163 = (0, 6, [12, 15, 1], [], bb_163) := rfl
theorem gp_164 : g_M 164 = (0, 5, [12, 1, 1, 1], [], bb_164) := rfl
theorem gp_165 : g_M 165 = (0, 4, [12, 1, 1, 1], [1], bb_165) := rfl
theorem gp_166 : g_M 166 = (0, 4, [12, 1, 1], [1], bb_166) := rfl
theorem gp_167 : g_M 167 = (0, 1, [14], [], bb_167) := rfl
theorem gp_168 : g_M 168 = (0, 8, [14, 12, 1, 1, 1], [], bb_168) := rfl
theorem gp_169 : g_M 169 = (0, 5, [14, 12], [1], bb_169) := rfl
theorem gp_170 : g_M 170 = (0, 5, [14, 12, 1, 1], [], bb_170) := rfl
theorem gp_171 : g_M 171 = (0, 1, [18], [], bb_171) := rfl
theorem gp_172 : g_M 172 = (0, 8, [18, 15, 12, 1], [], bb_172) := rfl
theorem gp_173 : g_M 173 = (0, 6, [18, 15, 1], [], bb_173) := rfl
theorem gp_174 : g_M 174 = (0, 6, [18, 15, 1], [], bb_174) := rfl
theorem gp_175 : g_M 175 = (0, 13, [18, 1, 17, 1, 17], [], bb_175) := rfl
theorem gp_176 : g_M 176 = (0, 6, [18, 15, 12, 17], [], bb_176) := rfl
theorem gp_177 : g_M 177 = (0, 5, [18, 15, 12], [1], bb_177) := rfl
theorem gp_178 : g_M 178 = (0, 6, [18, 15, 12, 1], [1], bb_178) := rfl
theorem gp_179 : g_M 179 = (0, 6, [18, 15, 12], [1], bb_179) := rfl
theorem gp_180 : g_M 180 = (0, 8, [18, 15, 1], [1], bb_180) := rfl
theorem gp_181 : g_M 181 = (0, 8, [18, 15, 12], [], bb_181) := rfl
theorem gp_198 : g_M 198 = (0, 3, [1, 1, 1], [1], bb_198) := rfl
theorem gp_274 : g_M 274 = (0, 2, [20, 1], [1], bb_274) := rfl
