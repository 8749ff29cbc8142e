/-! ===== the wp_w calculus as_w equations (written_w by wip/tools/wtab.py) ===== -/
section WEQ
variable {g : XS × Nat × Nat} {g0 : Nat × Nat} {F : XP} {K : Nat} {a b c : SX} {en : List Int} {h : XH} {Q : WQ} {Qt Qf : XH → Prop} {R : WR}
theorem we_1 : wE g F (sx 1 a b c) en h Q = Q [sx_c a b c] h := id rfl
theorem we_3 : wE g F (sx 3 a b c) en h Q = Q [en.getD (sx_n a) 0] h := id rfl
theorem we_4 : wE g F (sx 4 a b c) en h Q = (wE g F a en h fun x h1 => Q [h1 (j_hd x).toNat (sx_n b)] h1) := id rfl
theorem we_5 : wE g F (sx 5 a b c) en h Q = (wE g F a en h fun x h1 => ∃ r, j_rf g.1 (j_hd x).toNat (sx_n b) = some r ∧ Q [r] h1) := id rfl
theorem we_7 : wE g F (sx 7 a b c) en h Q = (wE g F a en h fun x h1 => wE g F b en h1 fun y h2 => sx_n c = 0 ∧ (0 ≤ j_hd y ∧ j_hd y < j_len g.1 (j_hd x).toNat) ∧ Q [h2 (j_hd x).toNat (j_hd y).toNat] h2) := id rfl
theorem we_10 : wE g F (sx 10 a b c) en h Q = (wE g F a en h fun x h1 => sx_n c = 0 ∧ Q [j_len g.1 (j_hd x).toNat] h1) := id rfl
theorem we_14 : wE g F (sx 14 a b c) en h Q = (wE g F a en h fun x h1 => wE g F b en h1 fun y h2 => Q [j_iop (sx_n c) (j_hd x) (j_hd y)] h2) := id rfl
theorem we_15 : wE g F (sx 15 a b c) en h Q = (wE g F a en h fun x h1 => wE g F b en h1 fun y h2 => Q [j_lop (sx_n c) (j_hd x) (j_hd y)] h2) := id rfl
theorem we_16 : wE g F (sx 16 a b c) en h Q = (wE g F a en h fun x h1 => wE g F b en h1 fun y h2 => Q [j_lsh (sx_n c) (j_hd x) (j_hd y)] h2) := id rfl
theorem we_17 : wE g F (sx 17 a b c) en h Q = (wE g F a en h fun x h1 => wE g F b en h1 fun y h2 => j_hd y ≠ 0 ∧ Q [j_div (sx_n c) (j_hd x) (j_hd y)] h2) := id rfl
theorem we_18 : wE g F (sx 18 a b c) en h Q = (wE g F a en h fun x h1 => Q [j_un (sx_n c) (j_hd x)] h1) := id rfl
theorem we_20 : wE g F (sx 20 a b c) en h Q = (wE g F a en h fun x h1 => wE g F b en h1 fun y h2 => (j_cmp (sx_n c) (j_hd x) (j_hd y) = true → Q [1] h2) ∧ (j_cmp (sx_n c) (j_hd x) (j_hd y) = false → Q [0] h2)) := id rfl
theorem we_22 : wE g F (sx 22 a b c) en h Q = (wE g F a en h fun x h1 => wE g F b en h1 fun y h2 => (j_cmp (sx_n c) (j_hd x) (j_hd y) = true → Q [1] h2) ∧ (j_cmp (sx_n c) (j_hd x) (j_hd y) = false → Q [0] h2)) := id rfl
theorem we_23 : wE g F (sx 23 a b c) en h Q = (wE g F a en h fun x h1 => wE g F b en h1 fun y h2 => (j_cmp (sx_n c) (j_hd x) (j_hd y) = true → Q [1] h2) ∧ (j_cmp (sx_n c) (j_hd x) (j_hd y) = false → Q [0] h2)) := id rfl
theorem we_21 : wE g F (sx 21 a b c) en h Q = (wE g F a en h fun x h1 => (j_cmp (sx_n c) (j_hd x) 0 = true → Q [1] h1) ∧ (j_cmp (sx_n c) (j_hd x) 0 = false → Q [0] h1)) := id rfl
theorem we_24 : wE g F (sx 24 a b c) en h Q = wE g F a en h Q := id rfl
theorem we_25 : wE g F (sx 25 a b c) en h Q = wC g F a en h (fun h1 => wC g F b en h1 (fun h2 => Q [1] h2) (fun h2 => Q [0] h2)) (fun h1 => Q [0] h1) := id rfl
theorem we_26 : wE g F (sx 26 a b c) en h Q = wC g F a en h (fun h1 => Q [1] h1) (fun h1 => wC g F b en h1 (fun h2 => Q [1] h2) (fun h2 => Q [0] h2)) := id rfl
theorem we_27 : wE g F (sx 27 a b c) en h Q = wC g F a en h (fun h1 => Q [0] h1) (fun h1 => Q [1] h1) := id rfl
theorem we_28 : wE g F (sx 28 a b c) en h Q = wC g F a en h (fun h1 => wE g F b en h1 Q) (fun h1 => wE g F c en h1 Q) := id rfl
theorem we_30 : wE g F (sx 30 a b c) en h Q = (wE g F a en h fun x h1 => wE g F b en h1 fun y h2 => Q (x ++ y) h2) := id rfl
theorem we_31 : wE g F (sx 31 a b c) en h Q = Q [] h := id rfl
theorem we_32 : wE g F (sx 32 a b c) en h Q = (wE g F a en h fun av h1 => ∃ r h2, F (sx_n b) av (g, h1) = some (1, r, (g, h2)) ∧ Q r h2) := id rfl
theorem wc_20 : wC g F (sx 20 a b c) en h Qt Qf = (wE g F a en h fun x h1 => wE g F b en h1 fun y h2 => (j_cmp (sx_n c) (j_hd x) (j_hd y) = true → Qt h2) ∧ (j_cmp (sx_n c) (j_hd x) (j_hd y) = false → Qf h2)) := id rfl
theorem wc_22 : wC g F (sx 22 a b c) en h Qt Qf = (wE g F a en h fun x h1 => wE g F b en h1 fun y h2 => (j_cmp (sx_n c) (j_hd x) (j_hd y) = true → Qt h2) ∧ (j_cmp (sx_n c) (j_hd x) (j_hd y) = false → Qf h2)) := id rfl
theorem wc_23 : wC g F (sx 23 a b c) en h Qt Qf = (wE g F a en h fun x h1 => wE g F b en h1 fun y h2 => (j_cmp (sx_n c) (j_hd x) (j_hd y) = true → Qt h2) ∧ (j_cmp (sx_n c) (j_hd x) (j_hd y) = false → Qf h2)) := id rfl
theorem wc_21 : wC g F (sx 21 a b c) en h Qt Qf = (wE g F a en h fun x h1 => (j_cmp (sx_n c) (j_hd x) 0 = true → Qt h1) ∧ (j_cmp (sx_n c) (j_hd x) 0 = false → Qf h1)) := id rfl
theorem wc_24 : wC g F (sx 24 a b c) en h Qt Qf = wC g F a en h Qt Qf := id rfl
theorem wc_25 : wC g F (sx 25 a b c) en h Qt Qf = wC g F a en h (fun h1 => wC g F b en h1 Qt Qf) Qf := id rfl
theorem wc_26 : wC g F (sx 26 a b c) en h Qt Qf = wC g F a en h Qt (fun h1 => wC g F b en h1 Qt Qf) := id rfl
theorem wc_27 : wC g F (sx 27 a b c) en h Qt Qf = wC g F a en h Qf Qt := id rfl
theorem wc_3 : wC g F (sx 3 a b c) en h Qt Qf = (wE g F (sx 3 a b c) en h fun x h1 => (j_hd x ≠ 0 → Qt h1) ∧ (j_hd x = 0 → Qf h1)) := id rfl
theorem wc_4 : wC g F (sx 4 a b c) en h Qt Qf = (wE g F (sx 4 a b c) en h fun x h1 => (j_hd x ≠ 0 → Qt h1) ∧ (j_hd x = 0 → Qf h1)) := id rfl
theorem wc_7 : wC g F (sx 7 a b c) en h Qt Qf = (wE g F (sx 7 a b c) en h fun x h1 => (j_hd x ≠ 0 → Qt h1) ∧ (j_hd x = 0 → Qf h1)) := id rfl
theorem wc_28 : wC g F (sx 28 a b c) en h Qt Qf = (wE g F (sx 28 a b c) en h fun x h1 => (j_hd x ≠ 0 → Qt h1) ∧ (j_hd x = 0 → Qf h1)) := id rfl
theorem wc_32 : wC g F (sx 32 a b c) en h Qt Qf = (wE g F (sx 32 a b c) en h fun x h1 => (j_hd x ≠ 0 → Qt h1) ∧ (j_hd x = 0 → Qf h1)) := id rfl
theorem ws_1 : wS g F K (sx 1 a b c) en h R = R 0 [] en h := id rfl
theorem ws_2 : wS g F K (sx 2 a b c) en h R = wS g F K a en h (fun k vs en1 h1 => (k = 0 → wS g F K b en1 h1 R) ∧ (k ≠ 0 → R k vs en1 h1)) := id rfl
theorem ws_3 : wS g F K (sx 3 a b c) en h R = (wE g F b en h fun x h1 => R 0 [] (en.set (sx_n a) (j_hd x)) h1) := id rfl
theorem ws_4 : wS g F K (sx 4 a b c) en h R = R 0 [] (en.set (sx_n a) (j32 (en.getD (sx_n a) 0 + (if sx_n c = 0 then (sx_n b : Int) else -(sx_n b : Int))))) h := id rfl
theorem ws_5 : wS g F K (sx 5 a b c) en h R = (wE g F a en h fun x h1 => wE g F b en h1 fun y h2 => R 0 [] en (j_up h2 (j_hd x).toNat (sx_n c) (j_hd y))) := id rfl
theorem ws_6 : wS g F K (sx 6 a b c) en h R = (wE g F a en h fun x h1 => wE g F b en h1 fun y h2 => R 0 [] en (j_up h2 (j_hd x).toNat (sx_n c / 16) (j_iop (sx_n c % 16) (h1 (j_hd x).toNat (sx_n c / 16)) (j_hd y)))) := id rfl
theorem ws_9 : wS g F K (sx 9 a b c) en h R = (wE g F a en h fun _ h1 => R 0 [] en h1) := id rfl
theorem ws_10 : wS g F K (sx 10 a b c) en h R = wC g F a en h (fun h1 => wS g F K b en h1 R) (fun h1 => R 0 [] en h1) := id rfl
theorem ws_11 : wS g F K (sx 11 a b c) en h R = wC g F a en h (fun h1 => wS g F K b en h1 R) (fun h1 => wS g F K c en h1 R) := id rfl
theorem ws_12 : wS g F K (sx 12 a b c) en h R = w_loop K (wC g F a) (wS g F K b) (wS g F K c) en h R := id rfl
theorem ws_13 : wS g F K (sx 13 a b c) en h R = w_do K (wS g F K b) (wC g F a) en h R := id rfl
theorem ws_14 : wS g F K (sx 14 a b c) en h R = R 2 [] en h := id rfl
theorem ws_15 : wS g F K (sx 15 a b c) en h R = R 3 [] en h := id rfl
theorem ws_16 : wS g F K (sx 16 a b c) en h R = (wE g F a en h fun x h1 => R 1 x en h1) := id rfl
theorem ws_27 : wS g F K (sx 27 a b c) en h R = (wE g F a en h fun x h1 => (j_hd x = 0 ∨ j_hd x = 1) ∧ R 1 x en h1) := id rfl
theorem ws_17 : wS g F K (sx 17 a b c) en h R = R 1 [] en h := id rfl
theorem ws_19 : wS g F K (sx 19 a b c) en h R = (wE g F a en h fun x h1 => wS g F K b (j_hd x :: en) h1 fun k vs en1 h2 => (k = 2 → R 0 vs en1 h2) ∧ (k ≠ 2 → R k vs en1 h2)) := id rfl
theorem ws_20 : wS g F K (sx 20 a b c) en h R = wS g F K a en h R := id rfl
theorem ws_23 : wS g F K (sx 23 a b c) en h R = (wE g F a en h fun x h1 => wE g F b en h1 fun y h2 => (j_hd y = 0 ∨ j_hd y = 1) ∧ R 0 [] en (j_up h2 (j_hd x).toNat (sx_n c) (j_hd y))) := id rfl
theorem ws_28 : wS g F K (sx 28 a b c) en h R = wC g F a en h (fun h1 => wS g F K b en h1 R) (fun h1 => R 2 [] en h1) := id rfl
theorem ws_25 : wS g F K (sx 25 a b c) en h R = (((sx_l a).any (fun n => decide (en.headD 0 = sx_z n)) = true → wS g F K b en.tail h fun k vs en1 h1 => k ≠ 0 ∧ R k vs en1 h1) ∧ ((sx_l a).any (fun n => decide (en.headD 0 = sx_z n)) = false → wS g F K c en h R)) := id rfl
theorem ws_26 : wS g F K (sx 26 a b c) en h R = wS g F K a en.tail h R := id rfl
theorem ws_7 {ty_w : Nat} {v : SX} : wS g F K (sx 7 a b (so ty_w v)) en h R = (wE g F a en h fun x h1 => wE g F b en h1 fun y h2 => wE g F v en h2 fun z h3 => (0 ≤ j_hd y ∧ j_hd y < j_len g.1 (j_hd x).toNat) ∧ R 0 [] en (j_up h3 (j_hd x).toNat (j_hd y).toNat (w_ty ty_w (j_hd z)))) := id rfl
theorem ws_8 {op_w : Nat} {v : SX} : wS g F K (sx 8 a b (so op_w v)) en h R = (wE g F a en h fun x h1 => wE g F b en h1 fun y h2 => (0 ≤ j_hd y ∧ j_hd y < j_len g.1 (j_hd x).toNat) ∧ wE g F v en h2 fun z h3 => R 0 [] en (j_up h3 (j_hd x).toNat (j_hd y).toNat (j_iop op_w (h2 (j_hd x).toNat (j_hd y).toNat) (j_hd z)))) := id rfl
/- the reference_w by itself_w -/
theorem wf_4 {k : Nat} : wE g F (sx 4 (sx 3 z0 z0 z0) (sv k) c) (182 :: en) h Q = Q [h 182 k] h := id rfl
theorem wf_40 : wE g F (sx 4 (sx 3 z0 z0 z0) z0 c) (182 :: en) h Q = Q [h 182 0] h := id rfl
theorem wf_5 {k : Nat} : wS g F K (sx 5 (sx 3 z0 z0 z0) b (sv k)) (182 :: en) h R = (wE g F b (182 :: en) h fun y h2 => R 0 [] (182 :: en) (j_up h2 182 k (j_hd y))) := id rfl
theorem wf_50 : wS g F K (sx 5 (sx 3 z0 z0 z0) b z0) (182 :: en) h R = (wE g F b (182 :: en) h fun y h2 => R 0 [] (182 :: en) (j_up h2 182 0 (j_hd y))) := id rfl
theorem wf_6 {k : Nat} : wS g F K (sx 6 (sx 3 z0 z0 z0) b (sv k)) (182 :: en) h R = (wE g F b (182 :: en) h fun y h2 => R 0 [] (182 :: en) (j_up h2 182 (k / 16) (j_iop (k % 16) (h 182 (k / 16)) (j_hd y)))) := id rfl
theorem fr_1 : j_rf a_g3 (182 : Int).toNat 1 = some 183 := by decide +kernel
theorem fl_183 : j_len a_g3 (183 : Int).toNat = 1000 := by decide +kernel
theorem wa_1 : wE (a_g3, g0) F (sx 5 (sx 3 z0 z0 z0) (sv 1) c) (182 :: en) h Q = Q [183] h := propext ⟨fun ⟨r, h1, h2⟩ => (Option.some.inj (fr_1.symm.trans h1)) ▸ h2, fun h1 => ⟨183, fr_1, h1⟩⟩
theorem wl_1 : wE (a_g3, g0) F (sx 7 (sx 5 (sx 3 z0 z0 z0) (sv 1) z0) b z0) (182 :: en) h Q = (wE (a_g3, g0) F b (182 :: en) h fun y h2 => (0 ≤ j_hd y ∧ j_hd y < 1000) ∧ Q [h2 183 (j_hd y).toNat] h2) := by
  rw [we_7, wa_1]
  have e : ∀ y : List Int, ((0 ≤ j_hd y ∧ j_hd y < j_len a_g3 (183 : Int).toNat)) = (0 ≤ j_hd y ∧ j_hd y < 1000) := fun y => by rw [fl_183]
  show (wE (a_g3, g0) F b (182 :: en) h fun y h2 => (0 : Nat) = 0 ∧ (0 ≤ j_hd y ∧ j_hd y < j_len a_g3 (183 : Int).toNat) ∧ Q [h2 183 (j_hd y).toNat] h2) = _
  simp only [e, true_and]
theorem wt_1 {ty_w : Nat} {v : SX} : wS (a_g3, g0) F K (sx 7 (sx 5 (sx 3 z0 z0 z0) (sv 1) z0) b (so ty_w v)) (182 :: en) h R = (wE (a_g3, g0) F b (182 :: en) h fun y h2 => wE (a_g3, g0) F v (182 :: en) h2 fun z h3 => (0 ≤ j_hd y ∧ j_hd y < 1000) ∧ R 0 [] (182 :: en) (j_up h3 183 (j_hd y).toNat (w_ty ty_w (j_hd z)))) := by
  rw [ws_7, wa_1]
  have e : ∀ y : List Int, ((0 ≤ j_hd y ∧ j_hd y < j_len a_g3 (183 : Int).toNat)) = (0 ≤ j_hd y ∧ j_hd y < 1000) := fun y => by rw [fl_183]
  show (wE (a_g3, g0) F b (182 :: en) h fun y h2 => wE (a_g3, g0) F v (182 :: en) h2 fun z h3 => (0 ≤ j_hd y ∧ j_hd y < j_len a_g3 (183 : Int).toNat) ∧ R 0 [] (182 :: en) (j_up h3 183 (j_hd y).toNat (w_ty ty_w (j_hd z)))) = _
  simp only [e]
theorem wu_1 {op_w : Nat} {v : SX} : wS (a_g3, g0) F K (sx 8 (sx 5 (sx 3 z0 z0 z0) (sv 1) z0) b (so op_w v)) (182 :: en) h R = (wE (a_g3, g0) F b (182 :: en) h fun y h2 => (0 ≤ j_hd y ∧ j_hd y < 1000) ∧ wE (a_g3, g0) F v (182 :: en) h2 fun z h3 => R 0 [] (182 :: en) (j_up h3 183 (j_hd y).toNat (j_iop op_w (h2 183 (j_hd y).toNat) (j_hd z)))) := by
  rw [ws_8, wa_1]
  have e : ∀ y : List Int, ((0 ≤ j_hd y ∧ j_hd y < j_len a_g3 (183 : Int).toNat)) = (0 ≤ j_hd y ∧ j_hd y < 1000) := fun y => by rw [fl_183]
  show (wE (a_g3, g0) F b (182 :: en) h fun y h2 => (0 ≤ j_hd y ∧ j_hd y < j_len a_g3 (183 : Int).toNat) ∧ wE (a_g3, g0) F v (182 :: en) h2 fun z h3 => R 0 [] (182 :: en) (j_up h3 183 (j_hd y).toNat (j_iop op_w (h2 183 (j_hd y).toNat) (j_hd z)))) = _
  simp only [e]
theorem fr_4 : j_rf a_g3 (182 : Int).toNat 4 = some 184 := by decide +kernel
theorem fl_184 : j_len a_g3 (184 : Int).toNat = 1002 := by decide +kernel
theorem wa_4 : wE (a_g3, g0) F (sx 5 (sx 3 z0 z0 z0) (sv 4) c) (182 :: en) h Q = Q [184] h := propext ⟨fun ⟨r, h1, h2⟩ => (Option.some.inj (fr_4.symm.trans h1)) ▸ h2, fun h1 => ⟨184, fr_4, h1⟩⟩
theorem wl_4 : wE (a_g3, g0) F (sx 7 (sx 5 (sx 3 z0 z0 z0) (sv 4) z0) b z0) (182 :: en) h Q = (wE (a_g3, g0) F b (182 :: en) h fun y h2 => (0 ≤ j_hd y ∧ j_hd y < 1002) ∧ Q [h2 184 (j_hd y).toNat] h2) := by
  rw [we_7, wa_4]
  have e : ∀ y : List Int, ((0 ≤ j_hd y ∧ j_hd y < j_len a_g3 (184 : Int).toNat)) = (0 ≤ j_hd y ∧ j_hd y < 1002) := fun y => by rw [fl_184]
  show (wE (a_g3, g0) F b (182 :: en) h fun y h2 => (0 : Nat) = 0 ∧ (0 ≤ j_hd y ∧ j_hd y < j_len a_g3 (184 : Int).toNat) ∧ Q [h2 184 (j_hd y).toNat] h2) = _
  simp only [e, true_and]
theorem wt_4 {ty_w : Nat} {v : SX} : wS (a_g3, g0) F K (sx 7 (sx 5 (sx 3 z0 z0 z0) (sv 4) z0) b (so ty_w v)) (182 :: en) h R = (wE (a_g3, g0) F b (182 :: en) h fun y h2 => wE (a_g3, g0) F v (182 :: en) h2 fun z h3 => (0 ≤ j_hd y ∧ j_hd y < 1002) ∧ R 0 [] (182 :: en) (j_up h3 184 (j_hd y).toNat (w_ty ty_w (j_hd z)))) := by
  rw [ws_7, wa_4]
  have e : ∀ y : List Int, ((0 ≤ j_hd y ∧ j_hd y < j_len a_g3 (184 : Int).toNat)) = (0 ≤ j_hd y ∧ j_hd y < 1002) := fun y => by rw [fl_184]
  show (wE (a_g3, g0) F b (182 :: en) h fun y h2 => wE (a_g3, g0) F v (182 :: en) h2 fun z h3 => (0 ≤ j_hd y ∧ j_hd y < j_len a_g3 (184 : Int).toNat) ∧ R 0 [] (182 :: en) (j_up h3 184 (j_hd y).toNat (w_ty ty_w (j_hd z)))) = _
  simp only [e]
theorem wu_4 {op_w : Nat} {v : SX} : wS (a_g3, g0) F K (sx 8 (sx 5 (sx 3 z0 z0 z0) (sv 4) z0) b (so op_w v)) (182 :: en) h R = (wE (a_g3, g0) F b (182 :: en) h fun y h2 => (0 ≤ j_hd y ∧ j_hd y < 1002) ∧ wE (a_g3, g0) F v (182 :: en) h2 fun z h3 => R 0 [] (182 :: en) (j_up h3 184 (j_hd y).toNat (j_iop op_w (h2 184 (j_hd y).toNat) (j_hd z)))) := by
  rw [ws_8, wa_4]
  have e : ∀ y : List Int, ((0 ≤ j_hd y ∧ j_hd y < j_len a_g3 (184 : Int).toNat)) = (0 ≤ j_hd y ∧ j_hd y < 1002) := fun y => by rw [fl_184]
  show (wE (a_g3, g0) F b (182 :: en) h fun y h2 => (0 ≤ j_hd y ∧ j_hd y < j_len a_g3 (184 : Int).toNat) ∧ wE (a_g3, g0) F v (182 :: en) h2 fun z h3 => R 0 [] (182 :: en) (j_up h3 184 (j_hd y).toNat (j_iop op_w (h2 184 (j_hd y).toNat) (j_hd z)))) = _
  simp only [e]
theorem fr_5 : j_rf a_g3 (182 : Int).toNat 5 = some 185 := by decide +kernel
theorem fl_185 : j_len a_g3 (185 : Int).toNat = 1002 := by decide +kernel
theorem wa_5 : wE (a_g3, g0) F (sx 5 (sx 3 z0 z0 z0) (sv 5) c) (182 :: en) h Q = Q [185] h := propext ⟨fun ⟨r, h1, h2⟩ => (Option.some.inj (fr_5.symm.trans h1)) ▸ h2, fun h1 => ⟨185, fr_5, h1⟩⟩
theorem wl_5 : wE (a_g3, g0) F (sx 7 (sx 5 (sx 3 z0 z0 z0) (sv 5) z0) b z0) (182 :: en) h Q = (wE (a_g3, g0) F b (182 :: en) h fun y h2 => (0 ≤ j_hd y ∧ j_hd y < 1002) ∧ Q [h2 185 (j_hd y).toNat] h2) := by
  rw [we_7, wa_5]
  have e : ∀ y : List Int, ((0 ≤ j_hd y ∧ j_hd y < j_len a_g3 (185 : Int).toNat)) = (0 ≤ j_hd y ∧ j_hd y < 1002) := fun y => by rw [fl_185]
  show (wE (a_g3, g0) F b (182 :: en) h fun y h2 => (0 : Nat) = 0 ∧ (0 ≤ j_hd y ∧ j_hd y < j_len a_g3 (185 : Int).toNat) ∧ Q [h2 185 (j_hd y).toNat] h2) = _
  simp only [e, true_and]
theorem wt_5 {ty_w : Nat} {v : SX} : wS (a_g3, g0) F K (sx 7 (sx 5 (sx 3 z0 z0 z0) (sv 5) z0) b (so ty_w v)) (182 :: en) h R = (wE (a_g3, g0) F b (182 :: en) h fun y h2 => wE (a_g3, g0) F v (182 :: en) h2 fun z h3 => (0 ≤ j_hd y ∧ j_hd y < 1002) ∧ R 0 [] (182 :: en) (j_up h3 185 (j_hd y).toNat (w_ty ty_w (j_hd z)))) := by
  rw [ws_7, wa_5]
  have e : ∀ y : List Int, ((0 ≤ j_hd y ∧ j_hd y < j_len a_g3 (185 : Int).toNat)) = (0 ≤ j_hd y ∧ j_hd y < 1002) := fun y => by rw [fl_185]
  show (wE (a_g3, g0) F b (182 :: en) h fun y h2 => wE (a_g3, g0) F v (182 :: en) h2 fun z h3 => (0 ≤ j_hd y ∧ j_hd y < j_len a_g3 (185 : Int).toNat) ∧ R 0 [] (182 :: en) (j_up h3 185 (j_hd y).toNat (w_ty ty_w (j_hd z)))) = _
  simp only [e]
theorem wu_5 {op_w : Nat} {v : SX} : wS (a_g3, g0) F K (sx 8 (sx 5 (sx 3 z0 z0 z0) (sv 5) z0) b (so op_w v)) (182 :: en) h R = (wE (a_g3, g0) F b (182 :: en) h fun y h2 => (0 ≤ j_hd y ∧ j_hd y < 1002) ∧ wE (a_g3, g0) F v (182 :: en) h2 fun z h3 => R 0 [] (182 :: en) (j_up h3 185 (j_hd y).toNat (j_iop op_w (h2 185 (j_hd y).toNat) (j_hd z)))) := by
  rw [ws_8, wa_5]
  have e : ∀ y : List Int, ((0 ≤ j_hd y ∧ j_hd y < j_len a_g3 (185 : Int).toNat)) = (0 ≤ j_hd y ∧ j_hd y < 1002) := fun y => by rw [fl_185]
  show (wE (a_g3, g0) F b (182 :: en) h fun y h2 => (0 ≤ j_hd y ∧ j_hd y < j_len a_g3 (185 : Int).toNat) ∧ wE (a_g3, g0) F v (182 :: en) h2 fun z h3 => R 0 [] (182 :: en) (j_up h3 185 (j_hd y).toNat (j_iop op_w (h2 185 (j_hd y).toNat) (j_hd z)))) = _
  simp only [e]
theorem fr_6 : j_rf a_g3 (182 : Int).toNat 6 = some 186 := by decide +kernel
theorem fl_186 : j_len a_g3 (186 : Int).toNat = 1002 := by decide +kernel
theorem wa_6 : wE (a_g3, g0) F (sx 5 (sx 3 z0 z0 z0) (sv 6) c) (182 :: en) h Q = Q [186] h := propext ⟨fun ⟨r, h1, h2⟩ => (Option.some.inj (fr_6.symm.trans h1)) ▸ h2, fun h1 => ⟨186, fr_6, h1⟩⟩
theorem wl_6 : wE (a_g3, g0) F (sx 7 (sx 5 (sx 3 z0 z0 z0) (sv 6) z0) b z0) (182 :: en) h Q = (wE (a_g3, g0) F b (182 :: en) h fun y h2 => (0 ≤ j_hd y ∧ j_hd y < 1002) ∧ Q [h2 186 (j_hd y).toNat] h2) := by
  rw [we_7, wa_6]
  have e : ∀ y : List Int, ((0 ≤ j_hd y ∧ j_hd y < j_len a_g3 (186 : Int).toNat)) = (0 ≤ j_hd y ∧ j_hd y < 1002) := fun y => by rw [fl_186]
  show (wE (a_g3, g0) F b (182 :: en) h fun y h2 => (0 : Nat) = 0 ∧ (0 ≤ j_hd y ∧ j_hd y < j_len a_g3 (186 : Int).toNat) ∧ Q [h2 186 (j_hd y).toNat] h2) = _
  simp only [e, true_and]
theorem wt_6 {ty_w : Nat} {v : SX} : wS (a_g3, g0) F K (sx 7 (sx 5 (sx 3 z0 z0 z0) (sv 6) z0) b (so ty_w v)) (182 :: en) h R = (wE (a_g3, g0) F b (182 :: en) h fun y h2 => wE (a_g3, g0) F v (182 :: en) h2 fun z h3 => (0 ≤ j_hd y ∧ j_hd y < 1002) ∧ R 0 [] (182 :: en) (j_up h3 186 (j_hd y).toNat (w_ty ty_w (j_hd z)))) := by
  rw [ws_7, wa_6]
  have e : ∀ y : List Int, ((0 ≤ j_hd y ∧ j_hd y < j_len a_g3 (186 : Int).toNat)) = (0 ≤ j_hd y ∧ j_hd y < 1002) := fun y => by rw [fl_186]
  show (wE (a_g3, g0) F b (182 :: en) h fun y h2 => wE (a_g3, g0) F v (182 :: en) h2 fun z h3 => (0 ≤ j_hd y ∧ j_hd y < j_len a_g3 (186 : Int).toNat) ∧ R 0 [] (182 :: en) (j_up h3 186 (j_hd y).toNat (w_ty ty_w (j_hd z)))) = _
  simp only [e]
theorem wu_6 {op_w : Nat} {v : SX} : wS (a_g3, g0) F K (sx 8 (sx 5 (sx 3 z0 z0 z0) (sv 6) z0) b (so op_w v)) (182 :: en) h R = (wE (a_g3, g0) F b (182 :: en) h fun y h2 => (0 ≤ j_hd y ∧ j_hd y < 1002) ∧ wE (a_g3, g0) F v (182 :: en) h2 fun z h3 => R 0 [] (182 :: en) (j_up h3 186 (j_hd y).toNat (j_iop op_w (h2 186 (j_hd y).toNat) (j_hd z)))) := by
  rw [ws_8, wa_6]
  have e : ∀ y : List Int, ((0 ≤ j_hd y ∧ j_hd y < j_len a_g3 (186 : Int).toNat)) = (0 ≤ j_hd y ∧ j_hd y < 1002) := fun y => by rw [fl_186]
  show (wE (a_g3, g0) F b (182 :: en) h fun y h2 => (0 ≤ j_hd y ∧ j_hd y < j_len a_g3 (186 : Int).toNat) ∧ wE (a_g3, g0) F v (182 :: en) h2 fun z h3 => R 0 [] (182 :: en) (j_up h3 186 (j_hd y).toNat (j_iop op_w (h2 186 (j_hd y).toNat) (j_hd z)))) = _
  simp only [e]
theorem fr_9 : j_rf a_g3 (182 : Int).toNat 9 = some 187 := by decide +kernel
theorem fl_187 : j_len a_g3 (187 : Int).toNat = 24 := by decide +kernel
theorem wa_9 : wE (a_g3, g0) F (sx 5 (sx 3 z0 z0 z0) (sv 9) c) (182 :: en) h Q = Q [187] h := propext ⟨fun ⟨r, h1, h2⟩ => (Option.some.inj (fr_9.symm.trans h1)) ▸ h2, fun h1 => ⟨187, fr_9, h1⟩⟩
theorem wl_9 : wE (a_g3, g0) F (sx 7 (sx 5 (sx 3 z0 z0 z0) (sv 9) z0) b z0) (182 :: en) h Q = (wE (a_g3, g0) F b (182 :: en) h fun y h2 => (0 ≤ j_hd y ∧ j_hd y < 24) ∧ Q [h2 187 (j_hd y).toNat] h2) := by
  rw [we_7, wa_9]
  have e : ∀ y : List Int, ((0 ≤ j_hd y ∧ j_hd y < j_len a_g3 (187 : Int).toNat)) = (0 ≤ j_hd y ∧ j_hd y < 24) := fun y => by rw [fl_187]
  show (wE (a_g3, g0) F b (182 :: en) h fun y h2 => (0 : Nat) = 0 ∧ (0 ≤ j_hd y ∧ j_hd y < j_len a_g3 (187 : Int).toNat) ∧ Q [h2 187 (j_hd y).toNat] h2) = _
  simp only [e, true_and]
theorem wt_9 {ty_w : Nat} {v : SX} : wS (a_g3, g0) F K (sx 7 (sx 5 (sx 3 z0 z0 z0) (sv 9) z0) b (so ty_w v)) (182 :: en) h R = (wE (a_g3, g0) F b (182 :: en) h fun y h2 => wE (a_g3, g0) F v (182 :: en) h2 fun z h3 => (0 ≤ j_hd y ∧ j_hd y < 24) ∧ R 0 [] (182 :: en) (j_up h3 187 (j_hd y).toNat (w_ty ty_w (j_hd z)))) := by
  rw [ws_7, wa_9]
  have e : ∀ y : List Int, ((0 ≤ j_hd y ∧ j_hd y < j_len a_g3 (187 : Int).toNat)) = (0 ≤ j_hd y ∧ j_hd y < 24) := fun y => by rw [fl_187]
  show (wE (a_g3, g0) F b (182 :: en) h fun y h2 => wE (a_g3, g0) F v (182 :: en) h2 fun z h3 => (0 ≤ j_hd y ∧ j_hd y < j_len a_g3 (187 : Int).toNat) ∧ R 0 [] (182 :: en) (j_up h3 187 (j_hd y).toNat (w_ty ty_w (j_hd z)))) = _
  simp only [e]
theorem wu_9 {op_w : Nat} {v : SX} : wS (a_g3, g0) F K (sx 8 (sx 5 (sx 3 z0 z0 z0) (sv 9) z0) b (so op_w v)) (182 :: en) h R = (wE (a_g3, g0) F b (182 :: en) h fun y h2 => (0 ≤ j_hd y ∧ j_hd y < 24) ∧ wE (a_g3, g0) F v (182 :: en) h2 fun z h3 => R 0 [] (182 :: en) (j_up h3 187 (j_hd y).toNat (j_iop op_w (h2 187 (j_hd y).toNat) (j_hd z)))) := by
  rw [ws_8, wa_9]
  have e : ∀ y : List Int, ((0 ≤ j_hd y ∧ j_hd y < j_len a_g3 (187 : Int).toNat)) = (0 ≤ j_hd y ∧ j_hd y < 24) := fun y => by rw [fl_187]
  show (wE (a_g3, g0) F b (182 :: en) h fun y h2 => (0 ≤ j_hd y ∧ j_hd y < j_len a_g3 (187 : Int).toNat) ∧ wE (a_g3, g0) F v (182 :: en) h2 fun z h3 => R 0 [] (182 :: en) (j_up h3 187 (j_hd y).toNat (j_iop op_w (h2 187 (j_hd y).toNat) (j_hd z)))) = _
  simp only [e]
theorem fr_10 : j_rf a_g3 (182 : Int).toNat 10 = some 188 := by decide +kernel
theorem fl_188 : j_len a_g3 (188 : Int).toNat = 190 := by decide +kernel
theorem wa_10 : wE (a_g3, g0) F (sx 5 (sx 3 z0 z0 z0) (sv 10) c) (182 :: en) h Q = Q [188] h := propext ⟨fun ⟨r, h1, h2⟩ => (Option.some.inj (fr_10.symm.trans h1)) ▸ h2, fun h1 => ⟨188, fr_10, h1⟩⟩
theorem wl_10 : wE (a_g3, g0) F (sx 7 (sx 5 (sx 3 z0 z0 z0) (sv 10) z0) b z0) (182 :: en) h Q = (wE (a_g3, g0) F b (182 :: en) h fun y h2 => (0 ≤ j_hd y ∧ j_hd y < 190) ∧ Q [h2 188 (j_hd y).toNat] h2) := by
  rw [we_7, wa_10]
  have e : ∀ y : List Int, ((0 ≤ j_hd y ∧ j_hd y < j_len a_g3 (188 : Int).toNat)) = (0 ≤ j_hd y ∧ j_hd y < 190) := fun y => by rw [fl_188]
  show (wE (a_g3, g0) F b (182 :: en) h fun y h2 => (0 : Nat) = 0 ∧ (0 ≤ j_hd y ∧ j_hd y < j_len a_g3 (188 : Int).toNat) ∧ Q [h2 188 (j_hd y).toNat] h2) = _
  simp only [e, true_and]
theorem wt_10 {ty_w : Nat} {v : SX} : wS (a_g3, g0) F K (sx 7 (sx 5 (sx 3 z0 z0 z0) (sv 10) z0) b (so ty_w v)) (182 :: en) h R = (wE (a_g3, g0) F b (182 :: en) h fun y h2 => wE (a_g3, g0) F v (182 :: en) h2 fun z h3 => (0 ≤ j_hd y ∧ j_hd y < 190) ∧ R 0 [] (182 :: en) (j_up h3 188 (j_hd y).toNat (w_ty ty_w (j_hd z)))) := by
  rw [ws_7, wa_10]
  have e : ∀ y : List Int, ((0 ≤ j_hd y ∧ j_hd y < j_len a_g3 (188 : Int).toNat)) = (0 ≤ j_hd y ∧ j_hd y < 190) := fun y => by rw [fl_188]
  show (wE (a_g3, g0) F b (182 :: en) h fun y h2 => wE (a_g3, g0) F v (182 :: en) h2 fun z h3 => (0 ≤ j_hd y ∧ j_hd y < j_len a_g3 (188 : Int).toNat) ∧ R 0 [] (182 :: en) (j_up h3 188 (j_hd y).toNat (w_ty ty_w (j_hd z)))) = _
  simp only [e]
theorem wu_10 {op_w : Nat} {v : SX} : wS (a_g3, g0) F K (sx 8 (sx 5 (sx 3 z0 z0 z0) (sv 10) z0) b (so op_w v)) (182 :: en) h R = (wE (a_g3, g0) F b (182 :: en) h fun y h2 => (0 ≤ j_hd y ∧ j_hd y < 190) ∧ wE (a_g3, g0) F v (182 :: en) h2 fun z h3 => R 0 [] (182 :: en) (j_up h3 188 (j_hd y).toNat (j_iop op_w (h2 188 (j_hd y).toNat) (j_hd z)))) := by
  rw [ws_8, wa_10]
  have e : ∀ y : List Int, ((0 ≤ j_hd y ∧ j_hd y < j_len a_g3 (188 : Int).toNat)) = (0 ≤ j_hd y ∧ j_hd y < 190) := fun y => by rw [fl_188]
  show (wE (a_g3, g0) F b (182 :: en) h fun y h2 => (0 ≤ j_hd y ∧ j_hd y < j_len a_g3 (188 : Int).toNat) ∧ wE (a_g3, g0) F v (182 :: en) h2 fun z h3 => R 0 [] (182 :: en) (j_up h3 188 (j_hd y).toNat (j_iop op_w (h2 188 (j_hd y).toNat) (j_hd z)))) = _
  simp only [e]
theorem fr_11 : j_rf a_g3 (182 : Int).toNat 11 = some 189 := by decide +kernel
theorem fl_189 : j_len a_g3 (189 : Int).toNat = 2200 := by decide +kernel
theorem wa_11 : wE (a_g3, g0) F (sx 5 (sx 3 z0 z0 z0) (sv 11) c) (182 :: en) h Q = Q [189] h := propext ⟨fun ⟨r, h1, h2⟩ => (Option.some.inj (fr_11.symm.trans h1)) ▸ h2, fun h1 => ⟨189, fr_11, h1⟩⟩
theorem wl_11 : wE (a_g3, g0) F (sx 7 (sx 5 (sx 3 z0 z0 z0) (sv 11) z0) b z0) (182 :: en) h Q = (wE (a_g3, g0) F b (182 :: en) h fun y h2 => (0 ≤ j_hd y ∧ j_hd y < 2200) ∧ Q [h2 189 (j_hd y).toNat] h2) := by
  rw [we_7, wa_11]
  have e : ∀ y : List Int, ((0 ≤ j_hd y ∧ j_hd y < j_len a_g3 (189 : Int).toNat)) = (0 ≤ j_hd y ∧ j_hd y < 2200) := fun y => by rw [fl_189]
  show (wE (a_g3, g0) F b (182 :: en) h fun y h2 => (0 : Nat) = 0 ∧ (0 ≤ j_hd y ∧ j_hd y < j_len a_g3 (189 : Int).toNat) ∧ Q [h2 189 (j_hd y).toNat] h2) = _
  simp only [e, true_and]
theorem wt_11 {ty_w : Nat} {v : SX} : wS (a_g3, g0) F K (sx 7 (sx 5 (sx 3 z0 z0 z0) (sv 11) z0) b (so ty_w v)) (182 :: en) h R = (wE (a_g3, g0) F b (182 :: en) h fun y h2 => wE (a_g3, g0) F v (182 :: en) h2 fun z h3 => (0 ≤ j_hd y ∧ j_hd y < 2200) ∧ R 0 [] (182 :: en) (j_up h3 189 (j_hd y).toNat (w_ty ty_w (j_hd z)))) := by
  rw [ws_7, wa_11]
  have e : ∀ y : List Int, ((0 ≤ j_hd y ∧ j_hd y < j_len a_g3 (189 : Int).toNat)) = (0 ≤ j_hd y ∧ j_hd y < 2200) := fun y => by rw [fl_189]
  show (wE (a_g3, g0) F b (182 :: en) h fun y h2 => wE (a_g3, g0) F v (182 :: en) h2 fun z h3 => (0 ≤ j_hd y ∧ j_hd y < j_len a_g3 (189 : Int).toNat) ∧ R 0 [] (182 :: en) (j_up h3 189 (j_hd y).toNat (w_ty ty_w (j_hd z)))) = _
  simp only [e]
theorem wu_11 {op_w : Nat} {v : SX} : wS (a_g3, g0) F K (sx 8 (sx 5 (sx 3 z0 z0 z0) (sv 11) z0) b (so op_w v)) (182 :: en) h R = (wE (a_g3, g0) F b (182 :: en) h fun y h2 => (0 ≤ j_hd y ∧ j_hd y < 2200) ∧ wE (a_g3, g0) F v (182 :: en) h2 fun z h3 => R 0 [] (182 :: en) (j_up h3 189 (j_hd y).toNat (j_iop op_w (h2 189 (j_hd y).toNat) (j_hd z)))) := by
  rw [ws_8, wa_11]
  have e : ∀ y : List Int, ((0 ≤ j_hd y ∧ j_hd y < j_len a_g3 (189 : Int).toNat)) = (0 ≤ j_hd y ∧ j_hd y < 2200) := fun y => by rw [fl_189]
  show (wE (a_g3, g0) F b (182 :: en) h fun y h2 => (0 ≤ j_hd y ∧ j_hd y < j_len a_g3 (189 : Int).toNat) ∧ wE (a_g3, g0) F v (182 :: en) h2 fun z h3 => R 0 [] (182 :: en) (j_up h3 189 (j_hd y).toNat (j_iop op_w (h2 189 (j_hd y).toNat) (j_hd z)))) = _
  simp only [e]
theorem fr_13 : j_rf a_g3 (182 : Int).toNat 13 = some 190 := by decide +kernel
theorem fl_190 : j_len a_g3 (190 : Int).toNat = 28 := by decide +kernel
theorem wa_13 : wE (a_g3, g0) F (sx 5 (sx 3 z0 z0 z0) (sv 13) c) (182 :: en) h Q = Q [190] h := propext ⟨fun ⟨r, h1, h2⟩ => (Option.some.inj (fr_13.symm.trans h1)) ▸ h2, fun h1 => ⟨190, fr_13, h1⟩⟩
theorem wl_13 : wE (a_g3, g0) F (sx 7 (sx 5 (sx 3 z0 z0 z0) (sv 13) z0) b z0) (182 :: en) h Q = (wE (a_g3, g0) F b (182 :: en) h fun y h2 => (0 ≤ j_hd y ∧ j_hd y < 28) ∧ Q [h2 190 (j_hd y).toNat] h2) := by
  rw [we_7, wa_13]
  have e : ∀ y : List Int, ((0 ≤ j_hd y ∧ j_hd y < j_len a_g3 (190 : Int).toNat)) = (0 ≤ j_hd y ∧ j_hd y < 28) := fun y => by rw [fl_190]
  show (wE (a_g3, g0) F b (182 :: en) h fun y h2 => (0 : Nat) = 0 ∧ (0 ≤ j_hd y ∧ j_hd y < j_len a_g3 (190 : Int).toNat) ∧ Q [h2 190 (j_hd y).toNat] h2) = _
  simp only [e, true_and]
theorem wt_13 {ty_w : Nat} {v : SX} : wS (a_g3, g0) F K (sx 7 (sx 5 (sx 3 z0 z0 z0) (sv 13) z0) b (so ty_w v)) (182 :: en) h R = (wE (a_g3, g0) F b (182 :: en) h fun y h2 => wE (a_g3, g0) F v (182 :: en) h2 fun z h3 => (0 ≤ j_hd y ∧ j_hd y < 28) ∧ R 0 [] (182 :: en) (j_up h3 190 (j_hd y).toNat (w_ty ty_w (j_hd z)))) := by
  rw [ws_7, wa_13]
  have e : ∀ y : List Int, ((0 ≤ j_hd y ∧ j_hd y < j_len a_g3 (190 : Int).toNat)) = (0 ≤ j_hd y ∧ j_hd y < 28) := fun y => by rw [fl_190]
  show (wE (a_g3, g0) F b (182 :: en) h fun y h2 => wE (a_g3, g0) F v (182 :: en) h2 fun z h3 => (0 ≤ j_hd y ∧ j_hd y < j_len a_g3 (190 : Int).toNat) ∧ R 0 [] (182 :: en) (j_up h3 190 (j_hd y).toNat (w_ty ty_w (j_hd z)))) = _
  simp only [e]
theorem wu_13 {op_w : Nat} {v : SX} : wS (a_g3, g0) F K (sx 8 (sx 5 (sx 3 z0 z0 z0) (sv 13) z0) b (so op_w v)) (182 :: en) h R = (wE (a_g3, g0) F b (182 :: en) h fun y h2 => (0 ≤ j_hd y ∧ j_hd y < 28) ∧ wE (a_g3, g0) F v (182 :: en) h2 fun z h3 => R 0 [] (182 :: en) (j_up h3 190 (j_hd y).toNat (j_iop op_w (h2 190 (j_hd y).toNat) (j_hd z)))) := by
  rw [ws_8, wa_13]
  have e : ∀ y : List Int, ((0 ≤ j_hd y ∧ j_hd y < j_len a_g3 (190 : Int).toNat)) = (0 ≤ j_hd y ∧ j_hd y < 28) := fun y => by rw [fl_190]
  show (wE (a_g3, g0) F b (182 :: en) h fun y h2 => (0 ≤ j_hd y ∧ j_hd y < j_len a_g3 (190 : Int).toNat) ∧ wE (a_g3, g0) F v (182 :: en) h2 fun z h3 => R 0 [] (182 :: en) (j_up h3 190 (j_hd y).toNat (j_iop op_w (h2 190 (j_hd y).toNat) (j_hd z)))) = _
  simp only [e]
theorem fr_14 : j_rf a_g3 (182 : Int).toNat 14 = some 191 := by decide +kernel
theorem fl_191 : j_len a_g3 (191 : Int).toNat = 250 := by decide +kernel
theorem wa_14 : wE (a_g3, g0) F (sx 5 (sx 3 z0 z0 z0) (sv 14) c) (182 :: en) h Q = Q [191] h := propext ⟨fun ⟨r, h1, h2⟩ => (Option.some.inj (fr_14.symm.trans h1)) ▸ h2, fun h1 => ⟨191, fr_14, h1⟩⟩
theorem wl_14 : wE (a_g3, g0) F (sx 7 (sx 5 (sx 3 z0 z0 z0) (sv 14) z0) b z0) (182 :: en) h Q = (wE (a_g3, g0) F b (182 :: en) h fun y h2 => (0 ≤ j_hd y ∧ j_hd y < 250) ∧ Q [h2 191 (j_hd y).toNat] h2) := by
  rw [we_7, wa_14]
  have e : ∀ y : List Int, ((0 ≤ j_hd y ∧ j_hd y < j_len a_g3 (191 : Int).toNat)) = (0 ≤ j_hd y ∧ j_hd y < 250) := fun y => by rw [fl_191]
  show (wE (a_g3, g0) F b (182 :: en) h fun y h2 => (0 : Nat) = 0 ∧ (0 ≤ j_hd y ∧ j_hd y < j_len a_g3 (191 : Int).toNat) ∧ Q [h2 191 (j_hd y).toNat] h2) = _
  simp only [e, true_and]
theorem wt_14 {ty_w : Nat} {v : SX} : wS (a_g3, g0) F K (sx 7 (sx 5 (sx 3 z0 z0 z0) (sv 14) z0) b (so ty_w v)) (182 :: en) h R = (wE (a_g3, g0) F b (182 :: en) h fun y h2 => wE (a_g3, g0) F v (182 :: en) h2 fun z h3 => (0 ≤ j_hd y ∧ j_hd y < 250) ∧ R 0 [] (182 :: en) (j_up h3 191 (j_hd y).toNat (w_ty ty_w (j_hd z)))) := by
  rw [ws_7, wa_14]
  have e : ∀ y : List Int, ((0 ≤ j_hd y ∧ j_hd y < j_len a_g3 (191 : Int).toNat)) = (0 ≤ j_hd y ∧ j_hd y < 250) := fun y => by rw [fl_191]
  show (wE (a_g3, g0) F b (182 :: en) h fun y h2 => wE (a_g3, g0) F v (182 :: en) h2 fun z h3 => (0 ≤ j_hd y ∧ j_hd y < j_len a_g3 (191 : Int).toNat) ∧ R 0 [] (182 :: en) (j_up h3 191 (j_hd y).toNat (w_ty ty_w (j_hd z)))) = _
  simp only [e]
theorem wu_14 {op_w : Nat} {v : SX} : wS (a_g3, g0) F K (sx 8 (sx 5 (sx 3 z0 z0 z0) (sv 14) z0) b (so op_w v)) (182 :: en) h R = (wE (a_g3, g0) F b (182 :: en) h fun y h2 => (0 ≤ j_hd y ∧ j_hd y < 250) ∧ wE (a_g3, g0) F v (182 :: en) h2 fun z h3 => R 0 [] (182 :: en) (j_up h3 191 (j_hd y).toNat (j_iop op_w (h2 191 (j_hd y).toNat) (j_hd z)))) := by
  rw [ws_8, wa_14]
  have e : ∀ y : List Int, ((0 ≤ j_hd y ∧ j_hd y < j_len a_g3 (191 : Int).toNat)) = (0 ≤ j_hd y ∧ j_hd y < 250) := fun y => by rw [fl_191]
  show (wE (a_g3, g0) F b (182 :: en) h fun y h2 => (0 ≤ j_hd y ∧ j_hd y < j_len a_g3 (191 : Int).toNat) ∧ wE (a_g3, g0) F v (182 :: en) h2 fun z h3 => R 0 [] (182 :: en) (j_up h3 191 (j_hd y).toNat (j_iop op_w (h2 191 (j_hd y).toNat) (j_hd z)))) = _
  simp only [e]
theorem fr_15 : j_rf a_g3 (182 : Int).toNat 15 = some 192 := by decide +kernel
theorem fl_192 : j_len a_g3 (192 : Int).toNat = 4 := by decide +kernel
theorem wa_15 : wE (a_g3, g0) F (sx 5 (sx 3 z0 z0 z0) (sv 15) c) (182 :: en) h Q = Q [192] h := propext ⟨fun ⟨r, h1, h2⟩ => (Option.some.inj (fr_15.symm.trans h1)) ▸ h2, fun h1 => ⟨192, fr_15, h1⟩⟩
theorem wl_15 : wE (a_g3, g0) F (sx 7 (sx 5 (sx 3 z0 z0 z0) (sv 15) z0) b z0) (182 :: en) h Q = (wE (a_g3, g0) F b (182 :: en) h fun y h2 => (0 ≤ j_hd y ∧ j_hd y < 4) ∧ Q [h2 192 (j_hd y).toNat] h2) := by
  rw [we_7, wa_15]
  have e : ∀ y : List Int, ((0 ≤ j_hd y ∧ j_hd y < j_len a_g3 (192 : Int).toNat)) = (0 ≤ j_hd y ∧ j_hd y < 4) := fun y => by rw [fl_192]
  show (wE (a_g3, g0) F b (182 :: en) h fun y h2 => (0 : Nat) = 0 ∧ (0 ≤ j_hd y ∧ j_hd y < j_len a_g3 (192 : Int).toNat) ∧ Q [h2 192 (j_hd y).toNat] h2) = _
  simp only [e, true_and]
theorem wt_15 {ty_w : Nat} {v : SX} : wS (a_g3, g0) F K (sx 7 (sx 5 (sx 3 z0 z0 z0) (sv 15) z0) b (so ty_w v)) (182 :: en) h R = (wE (a_g3, g0) F b (182 :: en) h fun y h2 => wE (a_g3, g0) F v (182 :: en) h2 fun z h3 => (0 ≤ j_hd y ∧ j_hd y < 4) ∧ R 0 [] (182 :: en) (j_up h3 192 (j_hd y).toNat (w_ty ty_w (j_hd z)))) := by
  rw [ws_7, wa_15]
  have e : ∀ y : List Int, ((0 ≤ j_hd y ∧ j_hd y < j_len a_g3 (192 : Int).toNat)) = (0 ≤ j_hd y ∧ j_hd y < 4) := fun y => by rw [fl_192]
  show (wE (a_g3, g0) F b (182 :: en) h fun y h2 => wE (a_g3, g0) F v (182 :: en) h2 fun z h3 => (0 ≤ j_hd y ∧ j_hd y < j_len a_g3 (192 : Int).toNat) ∧ R 0 [] (182 :: en) (j_up h3 192 (j_hd y).toNat (w_ty ty_w (j_hd z)))) = _
  simp only [e]
theorem wu_15 {op_w : Nat} {v : SX} : wS (a_g3, g0) F K (sx 8 (sx 5 (sx 3 z0 z0 z0) (sv 15) z0) b (so op_w v)) (182 :: en) h R = (wE (a_g3, g0) F b (182 :: en) h fun y h2 => (0 ≤ j_hd y ∧ j_hd y < 4) ∧ wE (a_g3, g0) F v (182 :: en) h2 fun z h3 => R 0 [] (182 :: en) (j_up h3 192 (j_hd y).toNat (j_iop op_w (h2 192 (j_hd y).toNat) (j_hd z)))) := by
  rw [ws_8, wa_15]
  have e : ∀ y : List Int, ((0 ≤ j_hd y ∧ j_hd y < j_len a_g3 (192 : Int).toNat)) = (0 ≤ j_hd y ∧ j_hd y < 4) := fun y => by rw [fl_192]
  show (wE (a_g3, g0) F b (182 :: en) h fun y h2 => (0 ≤ j_hd y ∧ j_hd y < j_len a_g3 (192 : Int).toNat) ∧ wE (a_g3, g0) F v (182 :: en) h2 fun z h3 => R 0 [] (182 :: en) (j_up h3 192 (j_hd y).toNat (j_iop op_w (h2 192 (j_hd y).toNat) (j_hd z)))) = _
  simp only [e]
theorem fr_16 : j_rf a_g3 (182 : Int).toNat 16 = some 193 := by decide +kernel
theorem fl_193 : j_len a_g3 (193 : Int).toNat = 64 := by decide +kernel
theorem wa_16 : wE (a_g3, g0) F (sx 5 (sx 3 z0 z0 z0) (sv 16) c) (182 :: en) h Q = Q [193] h := propext ⟨fun ⟨r, h1, h2⟩ => (Option.some.inj (fr_16.symm.trans h1)) ▸ h2, fun h1 => ⟨193, fr_16, h1⟩⟩
theorem wl_16 : wE (a_g3, g0) F (sx 7 (sx 5 (sx 3 z0 z0 z0) (sv 16) z0) b z0) (182 :: en) h Q = (wE (a_g3, g0) F b (182 :: en) h fun y h2 => (0 ≤ j_hd y ∧ j_hd y < 64) ∧ Q [h2 193 (j_hd y).toNat] h2) := by
  rw [we_7, wa_16]
  have e : ∀ y : List Int, ((0 ≤ j_hd y ∧ j_hd y < j_len a_g3 (193 : Int).toNat)) = (0 ≤ j_hd y ∧ j_hd y < 64) := fun y => by rw [fl_193]
  show (wE (a_g3, g0) F b (182 :: en) h fun y h2 => (0 : Nat) = 0 ∧ (0 ≤ j_hd y ∧ j_hd y < j_len a_g3 (193 : Int).toNat) ∧ Q [h2 193 (j_hd y).toNat] h2) = _
  simp only [e, true_and]
theorem wt_16 {ty_w : Nat} {v : SX} : wS (a_g3, g0) F K (sx 7 (sx 5 (sx 3 z0 z0 z0) (sv 16) z0) b (so ty_w v)) (182 :: en) h R = (wE (a_g3, g0) F b (182 :: en) h fun y h2 => wE (a_g3, g0) F v (182 :: en) h2 fun z h3 => (0 ≤ j_hd y ∧ j_hd y < 64) ∧ R 0 [] (182 :: en) (j_up h3 193 (j_hd y).toNat (w_ty ty_w (j_hd z)))) := by
  rw [ws_7, wa_16]
  have e : ∀ y : List Int, ((0 ≤ j_hd y ∧ j_hd y < j_len a_g3 (193 : Int).toNat)) = (0 ≤ j_hd y ∧ j_hd y < 64) := fun y => by rw [fl_193]
  show (wE (a_g3, g0) F b (182 :: en) h fun y h2 => wE (a_g3, g0) F v (182 :: en) h2 fun z h3 => (0 ≤ j_hd y ∧ j_hd y < j_len a_g3 (193 : Int).toNat) ∧ R 0 [] (182 :: en) (j_up h3 193 (j_hd y).toNat (w_ty ty_w (j_hd z)))) = _
  simp only [e]
theorem wu_16 {op_w : Nat} {v : SX} : wS (a_g3, g0) F K (sx 8 (sx 5 (sx 3 z0 z0 z0) (sv 16) z0) b (so op_w v)) (182 :: en) h R = (wE (a_g3, g0) F b (182 :: en) h fun y h2 => (0 ≤ j_hd y ∧ j_hd y < 64) ∧ wE (a_g3, g0) F v (182 :: en) h2 fun z h3 => R 0 [] (182 :: en) (j_up h3 193 (j_hd y).toNat (j_iop op_w (h2 193 (j_hd y).toNat) (j_hd z)))) := by
  rw [ws_8, wa_16]
  have e : ∀ y : List Int, ((0 ≤ j_hd y ∧ j_hd y < j_len a_g3 (193 : Int).toNat)) = (0 ≤ j_hd y ∧ j_hd y < 64) := fun y => by rw [fl_193]
  show (wE (a_g3, g0) F b (182 :: en) h fun y h2 => (0 ≤ j_hd y ∧ j_hd y < j_len a_g3 (193 : Int).toNat) ∧ wE (a_g3, g0) F v (182 :: en) h2 fun z h3 => R 0 [] (182 :: en) (j_up h3 193 (j_hd y).toNat (j_iop op_w (h2 193 (j_hd y).toNat) (j_hd z)))) = _
  simp only [e]
theorem fr_17 : j_rf a_g3 (182 : Int).toNat 17 = some 194 := by decide +kernel
theorem fl_194 : j_len a_g3 (194 : Int).toNat = 5148 := by decide +kernel
theorem wa_17 : wE (a_g3, g0) F (sx 5 (sx 3 z0 z0 z0) (sv 17) c) (182 :: en) h Q = Q [194] h := propext ⟨fun ⟨r, h1, h2⟩ => (Option.some.inj (fr_17.symm.trans h1)) ▸ h2, fun h1 => ⟨194, fr_17, h1⟩⟩
theorem wl_17 : wE (a_g3, g0) F (sx 7 (sx 5 (sx 3 z0 z0 z0) (sv 17) z0) b z0) (182 :: en) h Q = (wE (a_g3, g0) F b (182 :: en) h fun y h2 => (0 ≤ j_hd y ∧ j_hd y < 5148) ∧ Q [h2 194 (j_hd y).toNat] h2) := by
  rw [we_7, wa_17]
  have e : ∀ y : List Int, ((0 ≤ j_hd y ∧ j_hd y < j_len a_g3 (194 : Int).toNat)) = (0 ≤ j_hd y ∧ j_hd y < 5148) := fun y => by rw [fl_194]
  show (wE (a_g3, g0) F b (182 :: en) h fun y h2 => (0 : Nat) = 0 ∧ (0 ≤ j_hd y ∧ j_hd y < j_len a_g3 (194 : Int).toNat) ∧ Q [h2 194 (j_hd y).toNat] h2) = _
  simp only [e, true_and]
theorem wt_17 {ty_w : Nat} {v : SX} : wS (a_g3, g0) F K (sx 7 (sx 5 (sx 3 z0 z0 z0) (sv 17) z0) b (so ty_w v)) (182 :: en) h R = (wE (a_g3, g0) F b (182 :: en) h fun y h2 => wE (a_g3, g0) F v (182 :: en) h2 fun z h3 => (0 ≤ j_hd y ∧ j_hd y < 5148) ∧ R 0 [] (182 :: en) (j_up h3 194 (j_hd y).toNat (w_ty ty_w (j_hd z)))) := by
  rw [ws_7, wa_17]
  have e : ∀ y : List Int, ((0 ≤ j_hd y ∧ j_hd y < j_len a_g3 (194 : Int).toNat)) = (0 ≤ j_hd y ∧ j_hd y < 5148) := fun y => by rw [fl_194]
  show (wE (a_g3, g0) F b (182 :: en) h fun y h2 => wE (a_g3, g0) F v (182 :: en) h2 fun z h3 => (0 ≤ j_hd y ∧ j_hd y < j_len a_g3 (194 : Int).toNat) ∧ R 0 [] (182 :: en) (j_up h3 194 (j_hd y).toNat (w_ty ty_w (j_hd z)))) = _
  simp only [e]
theorem wu_17 {op_w : Nat} {v : SX} : wS (a_g3, g0) F K (sx 8 (sx 5 (sx 3 z0 z0 z0) (sv 17) z0) b (so op_w v)) (182 :: en) h R = (wE (a_g3, g0) F b (182 :: en) h fun y h2 => (0 ≤ j_hd y ∧ j_hd y < 5148) ∧ wE (a_g3, g0) F v (182 :: en) h2 fun z h3 => R 0 [] (182 :: en) (j_up h3 194 (j_hd y).toNat (j_iop op_w (h2 194 (j_hd y).toNat) (j_hd z)))) := by
  rw [ws_8, wa_17]
  have e : ∀ y : List Int, ((0 ≤ j_hd y ∧ j_hd y < j_len a_g3 (194 : Int).toNat)) = (0 ≤ j_hd y ∧ j_hd y < 5148) := fun y => by rw [fl_194]
  show (wE (a_g3, g0) F b (182 :: en) h fun y h2 => (0 ≤ j_hd y ∧ j_hd y < j_len a_g3 (194 : Int).toNat) ∧ wE (a_g3, g0) F v (182 :: en) h2 fun z h3 => R 0 [] (182 :: en) (j_up h3 194 (j_hd y).toNat (j_iop op_w (h2 194 (j_hd y).toNat) (j_hd z)))) = _
  simp only [e]
theorem fr_20 : j_rf a_g3 (182 : Int).toNat 20 = some 195 := by decide +kernel
theorem fl_195 : j_len a_g3 (195 : Int).toNat = 2 := by decide +kernel
theorem wa_20 : wE (a_g3, g0) F (sx 5 (sx 3 z0 z0 z0) (sv 20) c) (182 :: en) h Q = Q [195] h := propext ⟨fun ⟨r, h1, h2⟩ => (Option.some.inj (fr_20.symm.trans h1)) ▸ h2, fun h1 => ⟨195, fr_20, h1⟩⟩
theorem wl_20 : wE (a_g3, g0) F (sx 7 (sx 5 (sx 3 z0 z0 z0) (sv 20) z0) b z0) (182 :: en) h Q = (wE (a_g3, g0) F b (182 :: en) h fun y h2 => (0 ≤ j_hd y ∧ j_hd y < 2) ∧ Q [h2 195 (j_hd y).toNat] h2) := by
  rw [we_7, wa_20]
  have e : ∀ y : List Int, ((0 ≤ j_hd y ∧ j_hd y < j_len a_g3 (195 : Int).toNat)) = (0 ≤ j_hd y ∧ j_hd y < 2) := fun y => by rw [fl_195]
  show (wE (a_g3, g0) F b (182 :: en) h fun y h2 => (0 : Nat) = 0 ∧ (0 ≤ j_hd y ∧ j_hd y < j_len a_g3 (195 : Int).toNat) ∧ Q [h2 195 (j_hd y).toNat] h2) = _
  simp only [e, true_and]
theorem wt_20 {ty_w : Nat} {v : SX} : wS (a_g3, g0) F K (sx 7 (sx 5 (sx 3 z0 z0 z0) (sv 20) z0) b (so ty_w v)) (182 :: en) h R = (wE (a_g3, g0) F b (182 :: en) h fun y h2 => wE (a_g3, g0) F v (182 :: en) h2 fun z h3 => (0 ≤ j_hd y ∧ j_hd y < 2) ∧ R 0 [] (182 :: en) (j_up h3 195 (j_hd y).toNat (w_ty ty_w (j_hd z)))) := by
  rw [ws_7, wa_20]
  have e : ∀ y : List Int, ((0 ≤ j_hd y ∧ j_hd y < j_len a_g3 (195 : Int).toNat)) = (0 ≤ j_hd y ∧ j_hd y < 2) := fun y => by rw [fl_195]
  show (wE (a_g3, g0) F b (182 :: en) h fun y h2 => wE (a_g3, g0) F v (182 :: en) h2 fun z h3 => (0 ≤ j_hd y ∧ j_hd y < j_len a_g3 (195 : Int).toNat) ∧ R 0 [] (182 :: en) (j_up h3 195 (j_hd y).toNat (w_ty ty_w (j_hd z)))) = _
  simp only [e]
theorem wu_20 {op_w : Nat} {v : SX} : wS (a_g3, g0) F K (sx 8 (sx 5 (sx 3 z0 z0 z0) (sv 20) z0) b (so op_w v)) (182 :: en) h R = (wE (a_g3, g0) F b (182 :: en) h fun y h2 => (0 ≤ j_hd y ∧ j_hd y < 2) ∧ wE (a_g3, g0) F v (182 :: en) h2 fun z h3 => R 0 [] (182 :: en) (j_up h3 195 (j_hd y).toNat (j_iop op_w (h2 195 (j_hd y).toNat) (j_hd z)))) := by
  rw [ws_8, wa_20]
  have e : ∀ y : List Int, ((0 ≤ j_hd y ∧ j_hd y < j_len a_g3 (195 : Int).toNat)) = (0 ≤ j_hd y ∧ j_hd y < 2) := fun y => by rw [fl_195]
  show (wE (a_g3, g0) F b (182 :: en) h fun y h2 => (0 ≤ j_hd y ∧ j_hd y < j_len a_g3 (195 : Int).toNat) ∧ wE (a_g3, g0) F v (182 :: en) h2 fun z h3 => R 0 [] (182 :: en) (j_up h3 195 (j_hd y).toNat (j_iop op_w (h2 195 (j_hd y).toNat) (j_hd z)))) = _
  simp only [e]
theorem fr_21 : j_rf a_g3 (182 : Int).toNat 21 = some 196 := by decide +kernel
theorem fl_196 : j_len a_g3 (196 : Int).toNat = 6 := by decide +kernel
theorem wa_21 : wE (a_g3, g0) F (sx 5 (sx 3 z0 z0 z0) (sv 21) c) (182 :: en) h Q = Q [196] h := propext ⟨fun ⟨r, h1, h2⟩ => (Option.some.inj (fr_21.symm.trans h1)) ▸ h2, fun h1 => ⟨196, fr_21, h1⟩⟩
theorem wl_21 : wE (a_g3, g0) F (sx 7 (sx 5 (sx 3 z0 z0 z0) (sv 21) z0) b z0) (182 :: en) h Q = (wE (a_g3, g0) F b (182 :: en) h fun y h2 => (0 ≤ j_hd y ∧ j_hd y < 6) ∧ Q [h2 196 (j_hd y).toNat] h2) := by
  rw [we_7, wa_21]
  have e : ∀ y : List Int, ((0 ≤ j_hd y ∧ j_hd y < j_len a_g3 (196 : Int).toNat)) = (0 ≤ j_hd y ∧ j_hd y < 6) := fun y => by rw [fl_196]
  show (wE (a_g3, g0) F b (182 :: en) h fun y h2 => (0 : Nat) = 0 ∧ (0 ≤ j_hd y ∧ j_hd y < j_len a_g3 (196 : Int).toNat) ∧ Q [h2 196 (j_hd y).toNat] h2) = _
  simp only [e, true_and]
theorem wt_21 {ty_w : Nat} {v : SX} : wS (a_g3, g0) F K (sx 7 (sx 5 (sx 3 z0 z0 z0) (sv 21) z0) b (so ty_w v)) (182 :: en) h R = (wE (a_g3, g0) F b (182 :: en) h fun y h2 => wE (a_g3, g0) F v (182 :: en) h2 fun z h3 => (0 ≤ j_hd y ∧ j_hd y < 6) ∧ R 0 [] (182 :: en) (j_up h3 196 (j_hd y).toNat (w_ty ty_w (j_hd z)))) := by
  rw [ws_7, wa_21]
  have e : ∀ y : List Int, ((0 ≤ j_hd y ∧ j_hd y < j_len a_g3 (196 : Int).toNat)) = (0 ≤ j_hd y ∧ j_hd y < 6) := fun y => by rw [fl_196]
  show (wE (a_g3, g0) F b (182 :: en) h fun y h2 => wE (a_g3, g0) F v (182 :: en) h2 fun z h3 => (0 ≤ j_hd y ∧ j_hd y < j_len a_g3 (196 : Int).toNat) ∧ R 0 [] (182 :: en) (j_up h3 196 (j_hd y).toNat (w_ty ty_w (j_hd z)))) = _
  simp only [e]
theorem wu_21 {op_w : Nat} {v : SX} : wS (a_g3, g0) F K (sx 8 (sx 5 (sx 3 z0 z0 z0) (sv 21) z0) b (so op_w v)) (182 :: en) h R = (wE (a_g3, g0) F b (182 :: en) h fun y h2 => (0 ≤ j_hd y ∧ j_hd y < 6) ∧ wE (a_g3, g0) F v (182 :: en) h2 fun z h3 => R 0 [] (182 :: en) (j_up h3 196 (j_hd y).toNat (j_iop op_w (h2 196 (j_hd y).toNat) (j_hd z)))) := by
  rw [ws_8, wa_21]
  have e : ∀ y : List Int, ((0 ≤ j_hd y ∧ j_hd y < j_len a_g3 (196 : Int).toNat)) = (0 ≤ j_hd y ∧ j_hd y < 6) := fun y => by rw [fl_196]
  show (wE (a_g3, g0) F b (182 :: en) h fun y h2 => (0 ≤ j_hd y ∧ j_hd y < j_len a_g3 (196 : Int).toNat) ∧ wE (a_g3, g0) F v (182 :: en) h2 fun z h3 => R 0 [] (182 :: en) (j_up h3 196 (j_hd y).toNat (j_iop op_w (h2 196 (j_hd y).toNat) (j_hd z)))) = _
  simp only [e]
theorem fr_22 : j_rf a_g3 (182 : Int).toNat 22 = some 197 := by decide +kernel
theorem fl_197 : j_len a_g3 (197 : Int).toNat = 6 := by decide +kernel
theorem wa_22 : wE (a_g3, g0) F (sx 5 (sx 3 z0 z0 z0) (sv 22) c) (182 :: en) h Q = Q [197] h := propext ⟨fun ⟨r, h1, h2⟩ => (Option.some.inj (fr_22.symm.trans h1)) ▸ h2, fun h1 => ⟨197, fr_22, h1⟩⟩
theorem wl_22 : wE (a_g3, g0) F (sx 7 (sx 5 (sx 3 z0 z0 z0) (sv 22) z0) b z0) (182 :: en) h Q = (wE (a_g3, g0) F b (182 :: en) h fun y h2 => (0 ≤ j_hd y ∧ j_hd y < 6) ∧ Q [h2 197 (j_hd y).toNat] h2) := by
  rw [we_7, wa_22]
  have e : ∀ y : List Int, ((0 ≤ j_hd y ∧ j_hd y < j_len a_g3 (197 : Int).toNat)) = (0 ≤ j_hd y ∧ j_hd y < 6) := fun y => by rw [fl_197]
  show (wE (a_g3, g0) F b (182 :: en) h fun y h2 => (0 : Nat) = 0 ∧ (0 ≤ j_hd y ∧ j_hd y < j_len a_g3 (197 : Int).toNat) ∧ Q [h2 197 (j_hd y).toNat] h2) = _
  simp only [e, true_and]
theorem wt_22 {ty_w : Nat} {v : SX} : wS (a_g3, g0) F K (sx 7 (sx 5 (sx 3 z0 z0 z0) (sv 22) z0) b (so ty_w v)) (182 :: en) h R = (wE (a_g3, g0) F b (182 :: en) h fun y h2 => wE (a_g3, g0) F v (182 :: en) h2 fun z h3 => (0 ≤ j_hd y ∧ j_hd y < 6) ∧ R 0 [] (182 :: en) (j_up h3 197 (j_hd y).toNat (w_ty ty_w (j_hd z)))) := by
  rw [ws_7, wa_22]
  have e : ∀ y : List Int, ((0 ≤ j_hd y ∧ j_hd y < j_len a_g3 (197 : Int).toNat)) = (0 ≤ j_hd y ∧ j_hd y < 6) := fun y => by rw [fl_197]
  show (wE (a_g3, g0) F b (182 :: en) h fun y h2 => wE (a_g3, g0) F v (182 :: en) h2 fun z h3 => (0 ≤ j_hd y ∧ j_hd y < j_len a_g3 (197 : Int).toNat) ∧ R 0 [] (182 :: en) (j_up h3 197 (j_hd y).toNat (w_ty ty_w (j_hd z)))) = _
  simp only [e]
theorem wu_22 {op_w : Nat} {v : SX} : wS (a_g3, g0) F K (sx 8 (sx 5 (sx 3 z0 z0 z0) (sv 22) z0) b (so op_w v)) (182 :: en) h R = (wE (a_g3, g0) F b (182 :: en) h fun y h2 => (0 ≤ j_hd y ∧ j_hd y < 6) ∧ wE (a_g3, g0) F v (182 :: en) h2 fun z h3 => R 0 [] (182 :: en) (j_up h3 197 (j_hd y).toNat (j_iop op_w (h2 197 (j_hd y).toNat) (j_hd z)))) := by
  rw [ws_8, wa_22]
  have e : ∀ y : List Int, ((0 ≤ j_hd y ∧ j_hd y < j_len a_g3 (197 : Int).toNat)) = (0 ≤ j_hd y ∧ j_hd y < 6) := fun y => by rw [fl_197]
  show (wE (a_g3, g0) F b (182 :: en) h fun y h2 => (0 ≤ j_hd y ∧ j_hd y < j_len a_g3 (197 : Int).toNat) ∧ wE (a_g3, g0) F v (182 :: en) h2 fun z h3 => R 0 [] (182 :: en) (j_up h3 197 (j_hd y).toNat (j_iop op_w (h2 197 (j_hd y).toNat) (j_hd z)))) = _
  simp only [e]
theorem fr_23 : j_rf a_g3 (182 : Int).toNat 23 = some 198 := by decide +kernel
theorem fl_198 : j_len a_g3 (198 : Int).toNat = 4 := by decide +kernel
theorem wa_23 : wE (a_g3, g0) F (sx 5 (sx 3 z0 z0 z0) (sv 23) c) (182 :: en) h Q = Q [198] h := propext ⟨fun ⟨r, h1, h2⟩ => (Option.some.inj (fr_23.symm.trans h1)) ▸ h2, fun h1 => ⟨198, fr_23, h1⟩⟩
theorem wl_23 : wE (a_g3, g0) F (sx 7 (sx 5 (sx 3 z0 z0 z0) (sv 23) z0) b z0) (182 :: en) h Q = (wE (a_g3, g0) F b (182 :: en) h fun y h2 => (0 ≤ j_hd y ∧ j_hd y < 4) ∧ Q [h2 198 (j_hd y).toNat] h2) := by
  rw [we_7, wa_23]
  have e : ∀ y : List Int, ((0 ≤ j_hd y ∧ j_hd y < j_len a_g3 (198 : Int).toNat)) = (0 ≤ j_hd y ∧ j_hd y < 4) := fun y => by rw [fl_198]
  show (wE (a_g3, g0) F b (182 :: en) h fun y h2 => (0 : Nat) = 0 ∧ (0 ≤ j_hd y ∧ j_hd y < j_len a_g3 (198 : Int).toNat) ∧ Q [h2 198 (j_hd y).toNat] h2) = _
  simp only [e, true_and]
theorem wt_23 {ty_w : Nat} {v : SX} : wS (a_g3, g0) F K (sx 7 (sx 5 (sx 3 z0 z0 z0) (sv 23) z0) b (so ty_w v)) (182 :: en) h R = (wE (a_g3, g0) F b (182 :: en) h fun y h2 => wE (a_g3, g0) F v (182 :: en) h2 fun z h3 => (0 ≤ j_hd y ∧ j_hd y < 4) ∧ R 0 [] (182 :: en) (j_up h3 198 (j_hd y).toNat (w_ty ty_w (j_hd z)))) := by
  rw [ws_7, wa_23]
  have e : ∀ y : List Int, ((0 ≤ j_hd y ∧ j_hd y < j_len a_g3 (198 : Int).toNat)) = (0 ≤ j_hd y ∧ j_hd y < 4) := fun y => by rw [fl_198]
  show (wE (a_g3, g0) F b (182 :: en) h fun y h2 => wE (a_g3, g0) F v (182 :: en) h2 fun z h3 => (0 ≤ j_hd y ∧ j_hd y < j_len a_g3 (198 : Int).toNat) ∧ R 0 [] (182 :: en) (j_up h3 198 (j_hd y).toNat (w_ty ty_w (j_hd z)))) = _
  simp only [e]
theorem wu_23 {op_w : Nat} {v : SX} : wS (a_g3, g0) F K (sx 8 (sx 5 (sx 3 z0 z0 z0) (sv 23) z0) b (so op_w v)) (182 :: en) h R = (wE (a_g3, g0) F b (182 :: en) h fun y h2 => (0 ≤ j_hd y ∧ j_hd y < 4) ∧ wE (a_g3, g0) F v (182 :: en) h2 fun z h3 => R 0 [] (182 :: en) (j_up h3 198 (j_hd y).toNat (j_iop op_w (h2 198 (j_hd y).toNat) (j_hd z)))) := by
  rw [ws_8, wa_23]
  have e : ∀ y : List Int, ((0 ≤ j_hd y ∧ j_hd y < j_len a_g3 (198 : Int).toNat)) = (0 ≤ j_hd y ∧ j_hd y < 4) := fun y => by rw [fl_198]
  show (wE (a_g3, g0) F b (182 :: en) h fun y h2 => (0 ≤ j_hd y ∧ j_hd y < j_len a_g3 (198 : Int).toNat) ∧ wE (a_g3, g0) F v (182 :: en) h2 fun z h3 => R 0 [] (182 :: en) (j_up h3 198 (j_hd y).toNat (j_iop op_w (h2 198 (j_hd y).toNat) (j_hd z)))) = _
  simp only [e]
theorem fr_24 : j_rf a_g3 (182 : Int).toNat 24 = some 199 := by decide +kernel
theorem fl_199 : j_len a_g3 (199 : Int).toNat = 4 := by decide +kernel
theorem wa_24 : wE (a_g3, g0) F (sx 5 (sx 3 z0 z0 z0) (sv 24) c) (182 :: en) h Q = Q [199] h := propext ⟨fun ⟨r, h1, h2⟩ => (Option.some.inj (fr_24.symm.trans h1)) ▸ h2, fun h1 => ⟨199, fr_24, h1⟩⟩
theorem wl_24 : wE (a_g3, g0) F (sx 7 (sx 5 (sx 3 z0 z0 z0) (sv 24) z0) b z0) (182 :: en) h Q = (wE (a_g3, g0) F b (182 :: en) h fun y h2 => (0 ≤ j_hd y ∧ j_hd y < 4) ∧ Q [h2 199 (j_hd y).toNat] h2) := by
  rw [we_7, wa_24]
  have e : ∀ y : List Int, ((0 ≤ j_hd y ∧ j_hd y < j_len a_g3 (199 : Int).toNat)) = (0 ≤ j_hd y ∧ j_hd y < 4) := fun y => by rw [fl_199]
  show (wE (a_g3, g0) F b (182 :: en) h fun y h2 => (0 : Nat) = 0 ∧ (0 ≤ j_hd y ∧ j_hd y < j_len a_g3 (199 : Int).toNat) ∧ Q [h2 199 (j_hd y).toNat] h2) = _
  simp only [e, true_and]
theorem wt_24 {ty_w : Nat} {v : SX} : wS (a_g3, g0) F K (sx 7 (sx 5 (sx 3 z0 z0 z0) (sv 24) z0) b (so ty_w v)) (182 :: en) h R = (wE (a_g3, g0) F b (182 :: en) h fun y h2 => wE (a_g3, g0) F v (182 :: en) h2 fun z h3 => (0 ≤ j_hd y ∧ j_hd y < 4) ∧ R 0 [] (182 :: en) (j_up h3 199 (j_hd y).toNat (w_ty ty_w (j_hd z)))) := by
  rw [ws_7, wa_24]
  have e : ∀ y : List Int, ((0 ≤ j_hd y ∧ j_hd y < j_len a_g3 (199 : Int).toNat)) = (0 ≤ j_hd y ∧ j_hd y < 4) := fun y => by rw [fl_199]
  show (wE (a_g3, g0) F b (182 :: en) h fun y h2 => wE (a_g3, g0) F v (182 :: en) h2 fun z h3 => (0 ≤ j_hd y ∧ j_hd y < j_len a_g3 (199 : Int).toNat) ∧ R 0 [] (182 :: en) (j_up h3 199 (j_hd y).toNat (w_ty ty_w (j_hd z)))) = _
  simp only [e]
theorem wu_24 {op_w : Nat} {v : SX} : wS (a_g3, g0) F K (sx 8 (sx 5 (sx 3 z0 z0 z0) (sv 24) z0) b (so op_w v)) (182 :: en) h R = (wE (a_g3, g0) F b (182 :: en) h fun y h2 => (0 ≤ j_hd y ∧ j_hd y < 4) ∧ wE (a_g3, g0) F v (182 :: en) h2 fun z h3 => R 0 [] (182 :: en) (j_up h3 199 (j_hd y).toNat (j_iop op_w (h2 199 (j_hd y).toNat) (j_hd z)))) := by
  rw [ws_8, wa_24]
  have e : ∀ y : List Int, ((0 ≤ j_hd y ∧ j_hd y < j_len a_g3 (199 : Int).toNat)) = (0 ≤ j_hd y ∧ j_hd y < 4) := fun y => by rw [fl_199]
  show (wE (a_g3, g0) F b (182 :: en) h fun y h2 => (0 ≤ j_hd y ∧ j_hd y < j_len a_g3 (199 : Int).toNat) ∧ wE (a_g3, g0) F v (182 :: en) h2 fun z h3 => R 0 [] (182 :: en) (j_up h3 199 (j_hd y).toNat (j_iop op_w (h2 199 (j_hd y).toNat) (j_hd z)))) = _
  simp only [e]
theorem fr_26 : j_rf a_g3 (182 : Int).toNat 26 = some 200 := by decide +kernel
theorem fl_200 : j_len a_g3 (200 : Int).toNat = 6 := by decide +kernel
theorem wa_26 : wE (a_g3, g0) F (sx 5 (sx 3 z0 z0 z0) (sv 26) c) (182 :: en) h Q = Q [200] h := propext ⟨fun ⟨r, h1, h2⟩ => (Option.some.inj (fr_26.symm.trans h1)) ▸ h2, fun h1 => ⟨200, fr_26, h1⟩⟩
theorem wl_26 : wE (a_g3, g0) F (sx 7 (sx 5 (sx 3 z0 z0 z0) (sv 26) z0) b z0) (182 :: en) h Q = (wE (a_g3, g0) F b (182 :: en) h fun y h2 => (0 ≤ j_hd y ∧ j_hd y < 6) ∧ Q [h2 200 (j_hd y).toNat] h2) := by
  rw [we_7, wa_26]
  have e : ∀ y : List Int, ((0 ≤ j_hd y ∧ j_hd y < j_len a_g3 (200 : Int).toNat)) = (0 ≤ j_hd y ∧ j_hd y < 6) := fun y => by rw [fl_200]
  show (wE (a_g3, g0) F b (182 :: en) h fun y h2 => (0 : Nat) = 0 ∧ (0 ≤ j_hd y ∧ j_hd y < j_len a_g3 (200 : Int).toNat) ∧ Q [h2 200 (j_hd y).toNat] h2) = _
  simp only [e, true_and]
theorem wt_26 {ty_w : Nat} {v : SX} : wS (a_g3, g0) F K (sx 7 (sx 5 (sx 3 z0 z0 z0) (sv 26) z0) b (so ty_w v)) (182 :: en) h R = (wE (a_g3, g0) F b (182 :: en) h fun y h2 => wE (a_g3, g0) F v (182 :: en) h2 fun z h3 => (0 ≤ j_hd y ∧ j_hd y < 6) ∧ R 0 [] (182 :: en) (j_up h3 200 (j_hd y).toNat (w_ty ty_w (j_hd z)))) := by
  rw [ws_7, wa_26]
  have e : ∀ y : List Int, ((0 ≤ j_hd y ∧ j_hd y < j_len a_g3 (200 : Int).toNat)) = (0 ≤ j_hd y ∧ j_hd y < 6) := fun y => by rw [fl_200]
  show (wE (a_g3, g0) F b (182 :: en) h fun y h2 => wE (a_g3, g0) F v (182 :: en) h2 fun z h3 => (0 ≤ j_hd y ∧ j_hd y < j_len a_g3 (200 : Int).toNat) ∧ R 0 [] (182 :: en) (j_up h3 200 (j_hd y).toNat (w_ty ty_w (j_hd z)))) = _
  simp only [e]
theorem wu_26 {op_w : Nat} {v : SX} : wS (a_g3, g0) F K (sx 8 (sx 5 (sx 3 z0 z0 z0) (sv 26) z0) b (so op_w v)) (182 :: en) h R = (wE (a_g3, g0) F b (182 :: en) h fun y h2 => (0 ≤ j_hd y ∧ j_hd y < 6) ∧ wE (a_g3, g0) F v (182 :: en) h2 fun z h3 => R 0 [] (182 :: en) (j_up h3 200 (j_hd y).toNat (j_iop op_w (h2 200 (j_hd y).toNat) (j_hd z)))) := by
  rw [ws_8, wa_26]
  have e : ∀ y : List Int, ((0 ≤ j_hd y ∧ j_hd y < j_len a_g3 (200 : Int).toNat)) = (0 ≤ j_hd y ∧ j_hd y < 6) := fun y => by rw [fl_200]
  show (wE (a_g3, g0) F b (182 :: en) h fun y h2 => (0 ≤ j_hd y ∧ j_hd y < j_len a_g3 (200 : Int).toNat) ∧ wE (a_g3, g0) F v (182 :: en) h2 fun z h3 => R 0 [] (182 :: en) (j_up h3 200 (j_hd y).toNat (j_iop op_w (h2 200 (j_hd y).toNat) (j_hd z)))) = _
  simp only [e]
theorem fr_27 : j_rf a_g3 (182 : Int).toNat 27 = some 201 := by decide +kernel
theorem fl_201 : j_len a_g3 (201 : Int).toNat = 6 := by decide +kernel
theorem wa_27 : wE (a_g3, g0) F (sx 5 (sx 3 z0 z0 z0) (sv 27) c) (182 :: en) h Q = Q [201] h := propext ⟨fun ⟨r, h1, h2⟩ => (Option.some.inj (fr_27.symm.trans h1)) ▸ h2, fun h1 => ⟨201, fr_27, h1⟩⟩
theorem wl_27 : wE (a_g3, g0) F (sx 7 (sx 5 (sx 3 z0 z0 z0) (sv 27) z0) b z0) (182 :: en) h Q = (wE (a_g3, g0) F b (182 :: en) h fun y h2 => (0 ≤ j_hd y ∧ j_hd y < 6) ∧ Q [h2 201 (j_hd y).toNat] h2) := by
  rw [we_7, wa_27]
  have e : ∀ y : List Int, ((0 ≤ j_hd y ∧ j_hd y < j_len a_g3 (201 : Int).toNat)) = (0 ≤ j_hd y ∧ j_hd y < 6) := fun y => by rw [fl_201]
  show (wE (a_g3, g0) F b (182 :: en) h fun y h2 => (0 : Nat) = 0 ∧ (0 ≤ j_hd y ∧ j_hd y < j_len a_g3 (201 : Int).toNat) ∧ Q [h2 201 (j_hd y).toNat] h2) = _
  simp only [e, true_and]
theorem wt_27 {ty_w : Nat} {v : SX} : wS (a_g3, g0) F K (sx 7 (sx 5 (sx 3 z0 z0 z0) (sv 27) z0) b (so ty_w v)) (182 :: en) h R = (wE (a_g3, g0) F b (182 :: en) h fun y h2 => wE (a_g3, g0) F v (182 :: en) h2 fun z h3 => (0 ≤ j_hd y ∧ j_hd y < 6) ∧ R 0 [] (182 :: en) (j_up h3 201 (j_hd y).toNat (w_ty ty_w (j_hd z)))) := by
  rw [ws_7, wa_27]
  have e : ∀ y : List Int, ((0 ≤ j_hd y ∧ j_hd y < j_len a_g3 (201 : Int).toNat)) = (0 ≤ j_hd y ∧ j_hd y < 6) := fun y => by rw [fl_201]
  show (wE (a_g3, g0) F b (182 :: en) h fun y h2 => wE (a_g3, g0) F v (182 :: en) h2 fun z h3 => (0 ≤ j_hd y ∧ j_hd y < j_len a_g3 (201 : Int).toNat) ∧ R 0 [] (182 :: en) (j_up h3 201 (j_hd y).toNat (w_ty ty_w (j_hd z)))) = _
  simp only [e]
theorem wu_27 {op_w : Nat} {v : SX} : wS (a_g3, g0) F K (sx 8 (sx 5 (sx 3 z0 z0 z0) (sv 27) z0) b (so op_w v)) (182 :: en) h R = (wE (a_g3, g0) F b (182 :: en) h fun y h2 => (0 ≤ j_hd y ∧ j_hd y < 6) ∧ wE (a_g3, g0) F v (182 :: en) h2 fun z h3 => R 0 [] (182 :: en) (j_up h3 201 (j_hd y).toNat (j_iop op_w (h2 201 (j_hd y).toNat) (j_hd z)))) := by
  rw [ws_8, wa_27]
  have e : ∀ y : List Int, ((0 ≤ j_hd y ∧ j_hd y < j_len a_g3 (201 : Int).toNat)) = (0 ≤ j_hd y ∧ j_hd y < 6) := fun y => by rw [fl_201]
  show (wE (a_g3, g0) F b (182 :: en) h fun y h2 => (0 ≤ j_hd y ∧ j_hd y < j_len a_g3 (201 : Int).toNat) ∧ wE (a_g3, g0) F v (182 :: en) h2 fun z h3 => R 0 [] (182 :: en) (j_up h3 201 (j_hd y).toNat (j_iop op_w (h2 201 (j_hd y).toNat) (j_hd z)))) = _
  simp only [e]
theorem fr_28 : j_rf a_g3 (182 : Int).toNat 28 = some 202 := by decide +kernel
theorem fl_202 : j_len a_g3 (202 : Int).toNat = 6 := by decide +kernel
theorem wa_28 : wE (a_g3, g0) F (sx 5 (sx 3 z0 z0 z0) (sv 28) c) (182 :: en) h Q = Q [202] h := propext ⟨fun ⟨r, h1, h2⟩ => (Option.some.inj (fr_28.symm.trans h1)) ▸ h2, fun h1 => ⟨202, fr_28, h1⟩⟩
theorem wl_28 : wE (a_g3, g0) F (sx 7 (sx 5 (sx 3 z0 z0 z0) (sv 28) z0) b z0) (182 :: en) h Q = (wE (a_g3, g0) F b (182 :: en) h fun y h2 => (0 ≤ j_hd y ∧ j_hd y < 6) ∧ Q [h2 202 (j_hd y).toNat] h2) := by
  rw [we_7, wa_28]
  have e : ∀ y : List Int, ((0 ≤ j_hd y ∧ j_hd y < j_len a_g3 (202 : Int).toNat)) = (0 ≤ j_hd y ∧ j_hd y < 6) := fun y => by rw [fl_202]
  show (wE (a_g3, g0) F b (182 :: en) h fun y h2 => (0 : Nat) = 0 ∧ (0 ≤ j_hd y ∧ j_hd y < j_len a_g3 (202 : Int).toNat) ∧ Q [h2 202 (j_hd y).toNat] h2) = _
  simp only [e, true_and]
theorem wt_28 {ty_w : Nat} {v : SX} : wS (a_g3, g0) F K (sx 7 (sx 5 (sx 3 z0 z0 z0) (sv 28) z0) b (so ty_w v)) (182 :: en) h R = (wE (a_g3, g0) F b (182 :: en) h fun y h2 => wE (a_g3, g0) F v (182 :: en) h2 fun z h3 => (0 ≤ j_hd y ∧ j_hd y < 6) ∧ R 0 [] (182 :: en) (j_up h3 202 (j_hd y).toNat (w_ty ty_w (j_hd z)))) := by
  rw [ws_7, wa_28]
  have e : ∀ y : List Int, ((0 ≤ j_hd y ∧ j_hd y < j_len a_g3 (202 : Int).toNat)) = (0 ≤ j_hd y ∧ j_hd y < 6) := fun y => by rw [fl_202]
  show (wE (a_g3, g0) F b (182 :: en) h fun y h2 => wE (a_g3, g0) F v (182 :: en) h2 fun z h3 => (0 ≤ j_hd y ∧ j_hd y < j_len a_g3 (202 : Int).toNat) ∧ R 0 [] (182 :: en) (j_up h3 202 (j_hd y).toNat (w_ty ty_w (j_hd z)))) = _
  simp only [e]
theorem wu_28 {op_w : Nat} {v : SX} : wS (a_g3, g0) F K (sx 8 (sx 5 (sx 3 z0 z0 z0) (sv 28) z0) b (so op_w v)) (182 :: en) h R = (wE (a_g3, g0) F b (182 :: en) h fun y h2 => (0 ≤ j_hd y ∧ j_hd y < 6) ∧ wE (a_g3, g0) F v (182 :: en) h2 fun z h3 => R 0 [] (182 :: en) (j_up h3 202 (j_hd y).toNat (j_iop op_w (h2 202 (j_hd y).toNat) (j_hd z)))) := by
  rw [ws_8, wa_28]
  have e : ∀ y : List Int, ((0 ≤ j_hd y ∧ j_hd y < j_len a_g3 (202 : Int).toNat)) = (0 ≤ j_hd y ∧ j_hd y < 6) := fun y => by rw [fl_202]
  show (wE (a_g3, g0) F b (182 :: en) h fun y h2 => (0 ≤ j_hd y ∧ j_hd y < j_len a_g3 (202 : Int).toNat) ∧ wE (a_g3, g0) F v (182 :: en) h2 fun z h3 => R 0 [] (182 :: en) (j_up h3 202 (j_hd y).toNat (j_iop op_w (h2 202 (j_hd y).toNat) (j_hd z)))) = _
  simp only [e]
theorem w_lp (I : List Int → XH → Prop) (m : List Int → XH → Nat) (h0 : I en h) (hs : ∀ en h, I en h → m en h < K ∧ wC g F a en h (fun h1 => wS g F K b en h1 fun k vs en1 h2 => (k = 0 ∨ k = 3 → wS g F K c en1 h2 fun k' _ en2 h3 => k' = 0 ∧ I en2 h3 ∧ m en2 h3 < m en h) ∧ (k = 2 → R 0 [] en1 h2) ∧ (k ≠ 0 → k ≠ 2 → k ≠ 3 → R k vs en1 h2)) (fun h1 => R 0 [] en h1)) : wS g F K (sx 12 a b c) en h R := ⟨I, m, h0, hs⟩
theorem w_dp (I : List Int → XH → Prop) (m : List Int → XH → Nat) (h0 : I en h) (hs : ∀ en h, I en h → m en h < K ∧ wS g F K b en h fun k vs en1 h2 => (k = 0 ∨ k = 3 → wC g F a en1 h2 (fun h3 => I en1 h3 ∧ m en1 h3 < m en h) (fun h3 => R 0 [] en1 h3)) ∧ (k = 2 → R 0 [] en1 h2) ∧ (k ≠ 0 → k ≠ 2 → k ≠ 3 → R k vs en1 h2)) : wS g F K (sx 13 a b c) en h R := ⟨I, m, h0, hs⟩
end WEQ
theorem w_ty6 {v : Int} : w_ty 6 v = v := id rfl
theorem w_ty7 {v : Int} : w_ty 7 v = v := id rfl
section KC_w
variable {b c : SX}
theorem kc_0 : sx_c z0 b z0 = 0 := id rfl
theorem kc_1 : sx_c (sv 1) b z0 = 1 := id rfl
theorem kn_1 : sx_c (sv 1) b (sv 1) = -1 := id rfl
theorem kc_2 : sx_c (sv 2) b z0 = 2 := id rfl
theorem kn_2 : sx_c (sv 2) b (sv 1) = -2 := id rfl
theorem kc_3 : sx_c (sv 3) b z0 = 3 := id rfl
theorem kc_4 : sx_c (sv 4) b z0 = 4 := id rfl
theorem kc_5 : sx_c (sv 5) b z0 = 5 := id rfl
theorem kc_6 : sx_c (sv 6) b z0 = 6 := id rfl
theorem kc_7 : sx_c (sv 7) b z0 = 7 := id rfl
theorem kc_8 : sx_c (sv 8) b z0 = 8 := id rfl
theorem kc_9 : sx_c (sv 9) b z0 = 9 := id rfl
theorem kc_10 : sx_c (sv 10) b z0 = 10 := id rfl
theorem kc_12 : sx_c (sv 12) b z0 = 12 := id rfl
theorem kc_13 : sx_c (sv 13) b z0 = 13 := id rfl
theorem kc_14 : sx_c (sv 14) b z0 = 14 := id rfl
theorem kc_16 : sx_c (sv 16) b z0 = 16 := id rfl
theorem kc_17 : sx_c (sv 17) b z0 = 17 := id rfl
theorem kc_18 : sx_c (sv 18) b z0 = 18 := id rfl
theorem kc_19 : sx_c (sv 19) b z0 = 19 := id rfl
theorem kc_20 : sx_c (sv 20) b z0 = 20 := id rfl
theorem kc_21 : sx_c (sv 21) b z0 = 21 := id rfl
theorem kc_22 : sx_c (sv 22) b z0 = 22 := id rfl
theorem kc_24 : sx_c (sv 24) b z0 = 24 := id rfl
theorem kc_28 : sx_c (sv 28) b z0 = 28 := id rfl
theorem kc_30 : sx_c (sv 30) b z0 = 30 := id rfl
theorem kc_32 : sx_c (sv 32) b z0 = 32 := id rfl
theorem kc_37 : sx_c (sv 37) b z0 = 37 := id rfl
theorem kc_40 : sx_c (sv 40) b z0 = 40 := id rfl
theorem kc_41 : sx_c (sv 41) b z0 = 41 := id rfl
theorem kc_42 : sx_c (sv 42) b z0 = 42 := id rfl
theorem kc_43 : sx_c (sv 43) b z0 = 43 := id rfl
theorem kc_45 : sx_c (sv 45) b z0 = 45 := id rfl
theorem kc_48 : sx_c (sv 48) b z0 = 48 := id rfl
theorem kc_56 : sx_c (sv 56) b z0 = 56 := id rfl
theorem kc_57 : sx_c (sv 57) b z0 = 57 := id rfl
theorem kc_59 : sx_c (sv 59) b z0 = 59 := id rfl
theorem kc_60 : sx_c (sv 60) b z0 = 60 := id rfl
theorem kc_61 : sx_c (sv 61) b z0 = 61 := id rfl
theorem kc_64 : sx_c (sv 64) b z0 = 64 := id rfl
theorem kc_73 : sx_c (sv 73) b z0 = 73 := id rfl
theorem kc_78 : sx_c (sv 78) b z0 = 78 := id rfl
theorem kc_91 : sx_c (sv 91) b z0 = 91 := id rfl
theorem kc_95 : sx_c (sv 95) b z0 = 95 := id rfl
theorem kc_96 : sx_c (sv 96) b z0 = 96 := id rfl
theorem kc_97 : sx_c (sv 97) b z0 = 97 := id rfl
theorem kc_98 : sx_c (sv 98) b z0 = 98 := id rfl
theorem kc_99 : sx_c (sv 99) b z0 = 99 := id rfl
theorem kc_100 : sx_c (sv 100) b z0 = 100 := id rfl
theorem kc_112 : sx_c (sv 112) b z0 = 112 := id rfl
theorem kc_122 : sx_c (sv 122) b z0 = 122 := id rfl
theorem kc_125 : sx_c (sv 125) b z0 = 125 := id rfl
theorem kc_126 : sx_c (sv 126) b z0 = 126 := id rfl
theorem kc_150 : sx_c (sv 150) b z0 = 150 := id rfl
theorem kc_162 : sx_c (sv 162) b z0 = 162 := id rfl
theorem kc_163 : sx_c (sv 163) b z0 = 163 := id rfl
theorem kc_168 : sx_c (sv 168) b z0 = 168 := id rfl
theorem kc_186 : sx_c (sv 186) b z0 = 186 := id rfl
theorem kc_190 : sx_c (sv 190) b z0 = 190 := id rfl
theorem kc_200 : sx_c (sv 200) b z0 = 200 := id rfl
theorem kc_250 : sx_c (sv 250) b z0 = 250 := id rfl
theorem kc_255 : sx_c (sv 255) b z0 = 255 := id rfl
theorem kc_355 : sx_c (sv 355) b z0 = 355 := id rfl
theorem kc_356 : sx_c (sv 356) b z0 = 356 := id rfl
theorem kc_404 : sx_c (sv 404) b z0 = 404 := id rfl
theorem kc_405 : sx_c (sv 405) b z0 = 405 := id rfl
theorem kc_429 : sx_c (sv 429) b z0 = 429 := id rfl
theorem kc_573 : sx_c (sv 573) b z0 = 573 := id rfl
theorem kc_999 : sx_c (sv 999) b z0 = 999 := id rfl
theorem kc_1000 : sx_c (sv 1000) b z0 = 1000 := id rfl
theorem kc_1002 : sx_c (sv 1002) b z0 = 1002 := id rfl
theorem kc_1100 : sx_c (sv 1100) b z0 = 1100 := id rfl
theorem kc_1891 : sx_c (sv 1891) b z0 = 1891 := id rfl
theorem kc_2200 : sx_c (sv 2200) b z0 = 2200 := id rfl
theorem kc_4719 : sx_c (sv 4719) b z0 = 4719 := id rfl
theorem kc_4869 : sx_c (sv 4869) b z0 = 4869 := id rfl
theorem kc_4881 : sx_c (sv 4881) b z0 = 4881 := id rfl
theorem kc_5148 : sx_c (sv 5148) b z0 = 5148 := id rfl
theorem kc_9999 : sx_c (sv 9999) b z0 = 9999 := id rfl
theorem kn_9999 : sx_c (sv 9999) b (sv 1) = -9999 := id rfl
theorem kc_10000 : sx_c (sv 10000) b z0 = 10000 := id rfl
theorem kc_12345 : sx_c (sv 12345) b z0 = 12345 := id rfl
theorem kc_19741 : sx_c (sv 19741) b z0 = 19741 := id rfl
theorem kc_25433 : sx_c (sv 25433) b z0 = 25433 := id rfl
theorem kc_65536 : sx_c (sv 65536) b z0 = 65536 := id rfl
theorem kc_320403 : sx_c (sv 320403) b z0 = 320403 := id rfl
theorem kc_628412 : sx_c (sv 628412) b z0 = 628412 := id rfl
theorem kc_629093 : sx_c (sv 629093) b z0 = 629093 := id rfl
theorem kc_660401 : sx_c (sv 660401) b z0 = 660401 := id rfl
theorem kc_679843 : sx_c (sv 679843) b z0 = 679843 := id rfl
theorem kc_918640 : sx_c (sv 918640) b z0 = 918640 := id rfl
theorem kc_979410 : sx_c (sv 979410) b z0 = 979410 := id rfl
theorem kc_1178088 : sx_c (sv 1178088) b z0 = 1178088 := id rfl
theorem kc_6232410 : sx_c (sv 6232410) b z0 = 6232410 := id rfl
theorem kc_24644941 : sx_c (sv 24644941) b z0 = 24644941 := id rfl
theorem kc_36238189 : sx_c (sv 36238189) b z0 = 36238189 := id rfl
theorem kc_38270444 : sx_c (sv 38270444) b z0 = 38270444 := id rfl
theorem kc_392531318 : sx_c (sv 392531318) b z0 = 392531318 := id rfl
theorem kc_425693491 : sx_c (sv 425693491) b z0 = 425693491 := id rfl
theorem kc_1103515245 : sx_c (sv 1103515245) b z0 = 1103515245 := id rfl
theorem kc_1342154595 : sx_c (sv 1342154595) b z0 = 1342154595 := id rfl
theorem kc_2147483648 : sx_c (sv 2147483648) b z0 = 2147483648 := id rfl
theorem kc_42328242873 : sx_c (sv 42328242873) b z0 = 42328242873 := id rfl
theorem kc_891704255789 : sx_c (sv 891704255789) b z0 = 891704255789 := id rfl
theorem kc_1722105685577 : sx_c (sv 1722105685577) b z0 = 1722105685577 := id rfl
theorem kc_1858726030364 : sx_c (sv 1858726030364) b z0 = 1858726030364 := id rfl
end KC_w
theorem ct_0 {x y : Int} : (j_cmp 0 x y = true) = (x = y) := by
  unfold j_cmp
  simp only [decide_eq_true_eq]
theorem cf_0 {x y : Int} : (j_cmp 0 x y = false) = (x ≠ y) := by
  unfold j_cmp
  simp only [decide_eq_false_iff_not, eq_iff_iff]
  all_goals omega
theorem ct_1 {x y : Int} : (j_cmp 1 x y = true) = (x ≠ y) := by
  unfold j_cmp
  simp only [decide_eq_true_eq]
theorem cf_1 {x y : Int} : (j_cmp 1 x y = false) = (x = y) := by
  unfold j_cmp
  simp only [decide_eq_false_iff_not, eq_iff_iff]
  all_goals omega
theorem ct_2 {x y : Int} : (j_cmp 2 x y = true) = (x < y) := by
  unfold j_cmp
  simp only [decide_eq_true_eq]
theorem cf_2 {x y : Int} : (j_cmp 2 x y = false) = (y ≤ x) := by
  unfold j_cmp
  simp only [decide_eq_false_iff_not, eq_iff_iff]
  all_goals omega
theorem ct_3 {x y : Int} : (j_cmp 3 x y = true) = (x ≥ y) := by
  unfold j_cmp
  simp only [decide_eq_true_eq]
theorem cf_3 {x y : Int} : (j_cmp 3 x y = false) = (x < y) := by
  unfold j_cmp
  simp only [decide_eq_false_iff_not, eq_iff_iff]
  all_goals omega
theorem ct_4 {x y : Int} : (j_cmp 4 x y = true) = (x > y) := by
  unfold j_cmp
  simp only [decide_eq_true_eq]
theorem cf_4 {x y : Int} : (j_cmp 4 x y = false) = (x ≤ y) := by
  unfold j_cmp
  simp only [decide_eq_false_iff_not, eq_iff_iff]
  all_goals omega
theorem ct_5 {x y : Int} : (j_cmp 5 x y = true) = (x ≤ y) := by
  unfold j_cmp
  simp only [decide_eq_true_eq]
theorem cf_5 {x y : Int} : (j_cmp 5 x y = false) = (y < x) := by
  unfold j_cmp
  simp only [decide_eq_false_iff_not, eq_iff_iff]
  all_goals omega
theorem jadd {x y : Int} (h1 : -2147483648 ≤ x + y) (h2 : x + y < 2147483648) : j_iop 0 x y = x + y := j32_in ⟨h1, h2⟩
theorem jsub {x y : Int} (h1 : -2147483648 ≤ x - y) (h2 : x - y < 2147483648) : j_iop 1 x y = x - y := j32_in ⟨h1, h2⟩
theorem jmul {x y : Int} (h1 : -2147483648 ≤ x * y) (h2 : x * y < 2147483648) : j_iop 2 x y = x * y := j32_in ⟨h1, h2⟩
theorem jinc {x : Int} (h1 : -2147483648 ≤ x + 1) (h2 : x + 1 < 2147483648) : j32 (x + 1) = x + 1 := j32_in ⟨h1, h2⟩
theorem jdec {x : Int} (h1 : -2147483648 ≤ x - 1) (h2 : x - 1 < 2147483648) : j32 (x + -1) = x - 1 := j32_in ⟨h1, h2⟩
theorem iinc1 : (if sx_n z0 = 0 then ((sx_n (sv 1) : Nat) : Int) else -((sx_n (sv 1) : Nat) : Int)) = 1 := id rfl
theorem iinc2 : (if sx_n (sv 1) = 0 then ((sx_n (sv 1) : Nat) : Int) else -((sx_n (sv 1) : Nat) : Int)) = -1 := id rfl
theorem m_sv {n : Nat} : sx_n (sv n) = n := id rfl
theorem m_z0 : sx_n z0 = 0 := id rfl
theorem m_hd {x : Int} {l : List Int} : j_hd (x :: l) = x := id rfl
theorem m_g0 {x d : Int} {l : List Int} : (x :: l).getD 0 d = x := id rfl
theorem m_gs {x d : Int} {n : Nat} {l : List Int} : (x :: l).getD (n + 1) d = l.getD n d := id rfl
theorem m_s0 {x y : Int} {l : List Int} : (x :: l).set 0 y = y :: l := id rfl
theorem m_ss {x y : Int} {n : Nat} {l : List Int} : (x :: l).set (n + 1) y = x :: l.set n y := id rfl
theorem m_ap {x : Int} {l k : List Int} : (x :: l) ++ k = x :: (l ++ k) := id rfl
theorem m_an {l : List Int} : [] ++ l = l := id rfl
theorem m_jc {p : Prop} {q : (0 : Nat) = 0 ∨ (0 : Nat) = 3 → Prop} : (∀ h : (0 : Nat) = 0 ∨ (0 : Nat) = 3, q h) = q (Or.inl rfl) := propext ⟨fun h => h _, fun h _ => h⟩
theorem m_it {a b : Int} : (if True then a else b) = a := id rfl
theorem m_if {a b : Int} : (if False then a else b) = b := id rfl
theorem m_c1 : ((1 : Nat) : Int) = 1 := id rfl
theorem m_01 : ((0 : Nat) = 1) = False := propext ⟨by decide, False.elim⟩
theorem m_02 : ((0 : Nat) = 2) = False := propext ⟨by decide, False.elim⟩
theorem m_03 : ((0 : Nat) = 3) = False := propext ⟨by decide, False.elim⟩
theorem m_04 : ((0 : Nat) = 4) = False := propext ⟨by decide, False.elim⟩
theorem m_10 : ((1 : Nat) = 0) = False := propext ⟨by decide, False.elim⟩
theorem m_12 : ((1 : Nat) = 2) = False := propext ⟨by decide, False.elim⟩
theorem m_13 : ((1 : Nat) = 3) = False := propext ⟨by decide, False.elim⟩
theorem m_14 : ((1 : Nat) = 4) = False := propext ⟨by decide, False.elim⟩
theorem m_20 : ((2 : Nat) = 0) = False := propext ⟨by decide, False.elim⟩
theorem m_21 : ((2 : Nat) = 1) = False := propext ⟨by decide, False.elim⟩
theorem m_23 : ((2 : Nat) = 3) = False := propext ⟨by decide, False.elim⟩
theorem m_24 : ((2 : Nat) = 4) = False := propext ⟨by decide, False.elim⟩
theorem m_30 : ((3 : Nat) = 0) = False := propext ⟨by decide, False.elim⟩
theorem m_31 : ((3 : Nat) = 1) = False := propext ⟨by decide, False.elim⟩
theorem m_32 : ((3 : Nat) = 2) = False := propext ⟨by decide, False.elim⟩
theorem m_34 : ((3 : Nat) = 4) = False := propext ⟨by decide, False.elim⟩
theorem m_40 : ((4 : Nat) = 0) = False := propext ⟨by decide, False.elim⟩
theorem m_41 : ((4 : Nat) = 1) = False := propext ⟨by decide, False.elim⟩
theorem m_42 : ((4 : Nat) = 2) = False := propext ⟨by decide, False.elim⟩
theorem m_43 : ((4 : Nat) = 3) = False := propext ⟨by decide, False.elim⟩
theorem gm_185 : g_M 185 = (0, 1, [20], [], bb_185) := rfl
theorem gm_186 : g_M 186 = (0, 1, [1], [1], bb_186) := rfl
theorem gm_187 : g_M 187 = (0, 1, [1], [1], bb_187) := rfl
theorem gm_188 : g_M 188 = (0, 1, [1], [1], bb_188) := rfl
theorem gm_189 : g_M 189 = (0, 1, [1], [1], bb_189) := rfl
theorem gm_190 : g_M 190 = (0, 7, [20], [], bb_190) := rfl
theorem gm_191 : g_M 191 = (0, 2, [20, 1], [], bb_191) := rfl
theorem gm_192 : g_M 192 = (0, 2, [20, 1], [1], bb_192) := rfl
theorem gm_193 : g_M 193 = (0, 2, [20, 1], [1], bb_193) := rfl
theorem gm_194 : g_M 194 = (0, 2, [20, 1], [], bb_194) := rfl
theorem gm_195 : g_M 195 = (0, 3, [20, 1], [1], bb_195) := rfl
theorem gm_196 : g_M 196 = (0, 3, [20, 1], [1], bb_196) := rfl
theorem gm_197 : g_M 197 = (0, 2, [20, 1], [], bb_197) := rfl
theorem gm_199 : g_M 199 = (0, 3, [20, 1], [], bb_199) := rfl
theorem gm_200 : g_M 200 = (0, 3, [20, 1, 1], [1], bb_200) := rfl
theorem gm_201 : g_M 201 = (0, 5, [20, 1, 1], [1], bb_201) := rfl
theorem gm_202 : g_M 202 = (0, 4, [20, 1, 1], [1], bb_202) := rfl
theorem gm_203 : g_M 203 = (0, 1, [20], [1], bb_203) := rfl
theorem gm_204 : g_M 204 = (0, 5, [20, 1, 1], [1], bb_204) := rfl
theorem gm_205 : g_M 205 = (0, 4, [20, 1, 1], [1], bb_205) := rfl
theorem gm_206 : g_M 206 = (0, 2, [20], [1], bb_206) := rfl
theorem gm_207 : g_M 207 = (0, 2, [20, 1], [1], bb_207) := rfl
theorem gm_208 : g_M 208 = (0, 4, [20, 1, 1, 1], [], bb_208) := rfl
theorem gm_209 : g_M 209 = (0, 2, [20, 1], [1], bb_209) := rfl
theorem gm_210 : g_M 210 = (0, 1, [20], [], bb_210) := rfl
theorem gm_211 : g_M 211 = (0, 5, [20, 1, 1], [1], bb_211) := rfl
theorem gm_212 : g_M 212 = (0, 5, [20], [], bb_212) := rfl
theorem gm_213 : g_M 213 = (0, 6, [20], [], bb_213) := rfl
theorem gm_214 : g_M 214 = (0, 3, [20], [1], bb_214) := rfl
theorem gm_215 : g_M 215 = (0, 4, [20, 1, 1], [], bb_215) := rfl
theorem gm_216 : g_M 216 = (0, 3, [20, 1, 1], [], bb_216) := rfl
theorem gm_217 : g_M 217 = (0, 3, [20, 1], [], bb_217) := rfl
theorem gm_218 : g_M 218 = (0, 3, [20, 1], [], bb_218) := rfl
theorem gm_219 : g_M 219 = (0, 3, [20, 1], [], bb_219) := rfl
theorem gm_220 : g_M 220 = (0, 2, [20, 1], [], bb_220) := rfl
theorem gm_221 : g_M 221 = (0, 4, [20, 1], [], bb_221) := rfl
theorem gm_222 : g_M 222 = (0, 5, [20, 1], [1], bb_222) := rfl
theorem gm_223 : g_M 223 = (0, 3, [1, 1, 1], [1], bb_223) := rfl
theorem gm_224 : g_M 224 = (0, 5, [20, 1, 1, 1], [], bb_224) := rfl
theorem gm_225 : g_M 225 = (0, 1, [20], [1], bb_225) := rfl
theorem gm_226 : g_M 226 = (0, 1, [20], [1], bb_226) := rfl
theorem gm_227 : g_M 227 = (0, 1, [20], [1], bb_227) := rfl
theorem gm_228 : g_M 228 = (0, 1, [20], [1], bb_228) := rfl
theorem gm_229 : g_M 229 = (0, 2, [20, 1], [1], bb_229) := rfl
theorem gm_230 : g_M 230 = (0, 2, [20, 1], [1], bb_230) := rfl
theorem gm_231 : g_M 231 = (0, 2, [20, 1], [1], bb_231) := rfl
theorem gm_232 : g_M 232 = (0, 4, [20, 1, 1], [1], bb_232) := rfl
theorem gm_233 : g_M 233 = (0, 2, [20, 1], [1], bb_233) := rfl
theorem gm_234 : g_M 234 = (0, 2, [20, 1], [1], bb_234) := rfl
theorem gm_235 : g_M 235 = (0, 2, [20, 1], [1], bb_235) := rfl
theorem gm_236 : g_M 236 = (0, 2, [20, 1], [1], bb_236) := rfl
theorem gm_237 : g_M 237 = (0, 2, [20, 1], [1], bb_237) := rfl
theorem gm_238 : g_M 238 = (0, 2, [20, 1], [1], bb_238) := rfl
theorem gm_239 : g_M 239 = (0, 3, [20, 1, 1], [1], bb_239) := rfl
theorem gm_240 : g_M 240 = (0, 4, [20, 1], [], bb_240) := rfl
theorem gm_241 : g_M 241 = (0, 1, [20], [], bb_241) := rfl
theorem gm_242 : g_M 242 = (0, 2, [20], [], bb_242) := rfl
theorem gm_243 : g_M 243 = (0, 4, [20, 1, 1, 1], [1], bb_243) := rfl
theorem gm_244 : g_M 244 = (0, 5, [20, 1, 1, 1], [1], bb_244) := rfl
theorem gm_245 : g_M 245 = (0, 5, [20, 1, 1, 1], [1], bb_245) := rfl
theorem gm_246 : g_M 246 = (0, 3, [1, 1, 1], [1], bb_246) := rfl
theorem gm_247 : g_M 247 = (0, 8, [20, 1, 1, 1, 1], [1], bb_247) := rfl
theorem gm_248 : g_M 248 = (0, 8, [20, 1, 1, 1, 1, 1], [1], bb_248) := rfl
theorem gm_249 : g_M 249 = (0, 6, [20, 1, 1, 1], [1], bb_249) := rfl
theorem gm_250 : g_M 250 = (0, 4, [20, 1, 1, 1], [1], bb_250) := rfl
theorem gm_251 : g_M 251 = (0, 11, [20, 1, 1], [], bb_251) := rfl
theorem gm_252 : g_M 252 = (0, 4, [20, 1], [1], bb_252) := rfl
theorem gm_253 : g_M 253 = (0, 4, [20, 1, 1], [1], bb_253) := rfl
theorem gm_254 : g_M 254 = (0, 4, [20, 1, 1], [], bb_254) := rfl
theorem gm_255 : g_M 255 = (0, 5, [20, 1], [], bb_255) := rfl
theorem gm_256 : g_M 256 = (0, 4, [20, 1, 1, 1], [1], bb_256) := rfl
theorem gm_257 : g_M 257 = (0, 6, [20, 1, 1, 1], [1], bb_257) := rfl
theorem gm_258 : g_M 258 = (0, 5, [20, 1, 1], [1], bb_258) := rfl
theorem gm_259 : g_M 259 = (0, 4, [20, 1], [1], bb_259) := rfl
theorem gm_260 : g_M 260 = (0, 4, [20, 1], [1], bb_260) := rfl
theorem gm_261 : g_M 261 = (0, 3, [20, 1, 1], [1], bb_261) := rfl
theorem gm_262 : g_M 262 = (0, 3, [20, 1, 1], [1], bb_262) := rfl
theorem gm_263 : g_M 263 = (0, 3, [20, 1, 1], [1], bb_263) := rfl
theorem gm_264 : g_M 264 = (0, 5, [20, 1, 1, 1, 1], [], bb_264) := rfl
theorem gm_265 : g_M 265 = (0, 5, [20, 1, 1, 1], [1], bb_265) := rfl
theorem gm_266 : g_M 266 = (0, 6, [20, 1, 1, 1, 1], [], bb_266) := rfl
theorem gm_267 : g_M 267 = (0, 5, [20, 1, 1, 1], [1], bb_267) := rfl
theorem gm_268 : g_M 268 = (0, 4, [20, 1, 1], [1], bb_268) := rfl
theorem gm_269 : g_M 269 = (0, 9, [20, 1, 1, 1, 1], [], bb_269) := rfl
theorem gm_270 : g_M 270 = (0, 5, [20, 1], [], bb_270) := rfl
theorem gm_271 : g_M 271 = (0, 1, [20], [1], bb_271) := rfl
theorem gm_272 : g_M 272 = (0, 1, [20], [1], bb_272) := rfl
theorem gm_273 : g_M 273 = (0, 5, [20, 1], [1], bb_273) := rfl
theorem gm_275 : g_M 275 = (0, 3, [20, 1, 1], [1], bb_275) := rfl
theorem gm_276 : g_M 276 = (0, 3, [20, 1, 1], [1], bb_276) := rfl
theorem gm_277 : g_M 277 = (0, 3, [20, 1, 1], [1], bb_277) := rfl
theorem gm_278 : g_M 278 = (0, 2, [20, 1], [1], bb_278) := rfl
theorem gm_279 : g_M 279 = (0, 3, [20, 1, 1], [1], bb_279) := rfl
theorem gm_280 : g_M 280 = (0, 3, [20, 1, 1], [1], bb_280) := rfl
theorem gm_281 : g_M 281 = (0, 3, [20, 1, 1], [1], bb_281) := rfl
theorem gm_282 : g_M 282 = (0, 2, [20, 1], [1], bb_282) := rfl
theorem gm_283 : g_M 283 = (0, 5, [20, 1], [1], bb_283) := rfl
theorem gm_284 : g_M 284 = (0, 5, [20, 1, 1], [1], bb_284) := rfl
theorem gm_285 : g_M 285 = (0, 5, [20, 1, 1], [1], bb_285) := rfl
theorem gm_286 : g_M 286 = (0, 2, [20, 1], [1], bb_286) := rfl
theorem gm_287 : g_M 287 = (0, 6, [20, 1], [1], bb_287) := rfl
theorem gm_288 : g_M 288 = (0, 1, [20], [1], bb_288) := rfl
theorem gm_289 : g_M 289 = (0, 4, [20], [1], bb_289) := rfl
theorem gm_290 : g_M 290 = (0, 4, [20, 1, 1, 1], [1], bb_290) := rfl
theorem gm_291 : g_M 291 = (0, 2, [20, 1], [1], bb_291) := rfl
theorem gm_292 : g_M 292 = (0, 4, [20, 1, 1, 1], [1], bb_292) := rfl
theorem gm_293 : g_M 293 = (0, 4, [20, 1, 1, 1], [1], bb_293) := rfl
theorem gm_294 : g_M 294 = (0, 5, [20, 1], [1], bb_294) := rfl
theorem gm_295 : g_M 295 = (0, 1, [20], [1], bb_295) := rfl
theorem gm_296 : g_M 296 = (0, 3, [20, 1, 1], [1], bb_296) := rfl
theorem gm_297 : g_M 297 = (0, 6, [20, 1, 1], [1], bb_297) := rfl
theorem gm_298 : g_M 298 = (0, 1, [20], [], bb_298) := rfl
theorem gm_299 : g_M 299 = (0, 5, [20, 1, 1, 1, 1], [1], bb_299) := rfl
theorem gm_300 : g_M 300 = (0, 3, [20, 1, 1], [1], bb_300) := rfl
theorem gm_301 : g_M 301 = (0, 5, [20, 1], [1], bb_301) := rfl
theorem gm_302 : g_M 302 = (0, 2, [20, 1], [1], bb_302) := rfl
theorem gm_303 : g_M 303 = (0, 5, [20], [1], bb_303) := rfl
theorem gm_304 : g_M 304 = (0, 5, [20, 1, 1, 1], [1], bb_304) := rfl
theorem gm_305 : g_M 305 = (0, 6, [20], [1], bb_305) := rfl
theorem gm_306 : g_M 306 = (0, 1, [20], [1], bb_306) := rfl
theorem gm_307 : g_M 307 = (0, 6, [20], [1], bb_307) := rfl
theorem gm_308 : g_M 308 = (0, 7, [20, 1, 1], [1], bb_308) := rfl
theorem gm_309 : g_M 309 = (0, 2, [20, 1], [1], bb_309) := rfl
theorem gm_310 : g_M 310 = (0, 7, [20, 1, 1, 1], [1], bb_310) := rfl
theorem gm_311 : g_M 311 = (0, 3, [20, 1, 1], [1], bb_311) := rfl
theorem gm_312 : g_M 312 = (0, 3, [20], [1], bb_312) := rfl
theorem gm_313 : g_M 313 = (0, 2, [20, 1], [1], bb_313) := rfl
theorem rp_223 : qP (r_T 0) 223 = [(1, (-2147483648), 2147483647), (1, (-2147483648), 2147483647), (1, (-2147483648), 2147483647)] := rfl
theorem rr_223 : qR (r_T 0) 223 = [(1, (-2147483648), 2147483647)] := rfl
theorem ru_223 : qU (r_T 0) 223 = [(1, (-2147483648), 2147483647), (1, (-2147483648), 2147483647), (1, (-2147483648), 2147483647)] := rfl
theorem rp_224 : qP (r_T 0) 224 = [(4, 182, 182), (3, 0, 0), (3, 0, 0), (1, 0, 429)] := rfl
theorem rr_224 : qR (r_T 0) 224 = [] := rfl
theorem ru_224 : qU (r_T 0) 224 = [(4, 182, 182), (3, 0, 0), (3, 0, 0), (1, 0, 429)] := rfl
theorem rp_225 : qP (r_T 0) 225 = [(4, 182, 182)] := rfl
theorem rr_225 : qR (r_T 0) 225 = [(1, 0, 12)] := rfl
theorem ru_225 : qU (r_T 0) 225 = [(4, 182, 182)] := rfl
theorem rp_226 : qP (r_T 0) 226 = [(4, 182, 182)] := rfl
theorem rr_226 : qR (r_T 0) 226 = [(8, 0, 0)] := rfl
theorem ru_226 : qU (r_T 0) 226 = [(4, 182, 182)] := rfl
theorem rp_227 : qP (r_T 0) 227 = [(4, 182, 182)] := rfl
theorem rr_227 : qR (r_T 0) 227 = [(1, 0, 4)] := rfl
theorem ru_227 : qU (r_T 0) 227 = [(4, 182, 182)] := rfl
theorem rp_228 : qP (r_T 0) 228 = [(4, 182, 182)] := rfl
theorem rr_228 : qR (r_T 0) 228 = [(7, 0, 0)] := rfl
theorem ru_228 : qU (r_T 0) 228 = [(4, 182, 182)] := rfl
theorem rp_229 : qP (r_T 0) 229 = [(4, 182, 182), (5, 0, 0)] := rfl
theorem rr_229 : qR (r_T 0) 229 = [(1, 0, 3)] := rfl
theorem ru_229 : qU (r_T 0) 229 = [(4, 182, 182), (5, 0, 0)] := rfl
theorem rp_230 : qP (r_T 0) 230 = [(4, 182, 182), (5, 0, 0)] := rfl
theorem rr_230 : qR (r_T 0) 230 = [(6, 0, 0)] := rfl
theorem ru_230 : qU (r_T 0) 230 = [(4, 182, 182), (5, 0, 0)] := rfl
theorem rp_231 : qP (r_T 0) 231 = [(4, 182, 182), (6, 0, 0)] := rfl
theorem rr_231 : qR (r_T 0) 231 = [(1, 0, 999)] := rfl
theorem ru_231 : qU (r_T 0) 231 = [(4, 182, 182), (6, 0, 0)] := rfl
theorem rp_232 : qP (r_T 0) 232 = [(4, 182, 182), (6, 0, 0), (1, 0, 12)] := rfl
theorem rr_232 : qR (r_T 0) 232 = [(1, 0, 99)] := rfl
theorem ru_232 : qU (r_T 0) 232 = [(4, 182, 182), (6, 0, 0), (1, 0, 12)] := rfl
theorem rp_233 : qP (r_T 0) 233 = [(4, 182, 182), (5, 0, 0)] := rfl
theorem rr_233 : qR (r_T 0) 233 = [(1, (-1), 12)] := rfl
theorem ru_233 : qU (r_T 0) 233 = [(4, 182, 182), (5, 0, 0)] := rfl
theorem rp_234 : qP (r_T 0) 234 = [(4, 182, 182), (5, 0, 0)] := rfl
theorem rr_234 : qR (r_T 0) 234 = [(1, 0, 9999)] := rfl
theorem ru_234 : qU (r_T 0) 234 = [(4, 182, 182), (5, 0, 0)] := rfl
theorem rp_235 : qP (r_T 0) 235 = [(4, 182, 182), (1, (-2147483648), 2147483647)] := rfl
theorem rr_235 : qR (r_T 0) 235 = [(1, 0, 1)] := rfl
theorem ru_235 : qU (r_T 0) 235 = [(4, 182, 182), (5, 0, 0)] := rfl
theorem rp_236 : qP (r_T 0) 236 = [(4, 182, 182), (1, (-2147483648), 2147483647)] := rfl
theorem rr_236 : qR (r_T 0) 236 = [(1, 0, 1)] := rfl
theorem ru_236 : qU (r_T 0) 236 = [(4, 182, 182), (1, 0, 11)] := rfl
theorem rp_237 : qP (r_T 0) 237 = [(4, 182, 182), (1, (-2147483648), 2147483647)] := rfl
theorem rr_237 : qR (r_T 0) 237 = [(1, 0, 1)] := rfl
theorem ru_237 : qU (r_T 0) 237 = [(4, 182, 182), (1, 0, 3)] := rfl
theorem rp_238 : qP (r_T 0) 238 = [(4, 182, 182), (1, (-2147483648), 2147483647)] := rfl
theorem rr_238 : qR (r_T 0) 238 = [(1, 0, 1)] := rfl
theorem ru_238 : qU (r_T 0) 238 = [(4, 182, 182), (6, 0, 0)] := rfl
theorem rp_239 : qP (r_T 0) 239 = [(4, 182, 182), (1, (-2147483648), 2147483647), (1, (-2147483648), 2147483647)] := rfl
theorem rr_239 : qR (r_T 0) 239 = [(1, 0, 1)] := rfl
theorem ru_239 : qU (r_T 0) 239 = [(4, 182, 182), (5, 0, 0), (1, 0, 12)] := rfl
theorem rp_240 : qP (r_T 0) 240 = [(4, 182, 182), (3, 0, 0)] := rfl
theorem rr_240 : qR (r_T 0) 240 = [] := rfl
theorem ru_240 : qU (r_T 0) 240 = [(4, 182, 182), (3, 0, 0)] := rfl
theorem rp_242 : qP (r_T 0) 242 = [(4, 182, 182)] := rfl
theorem rr_242 : qR (r_T 0) 242 = [] := rfl
theorem ru_242 : qU (r_T 0) 242 = [(4, 182, 182)] := rfl
theorem rp_243 : qP (r_T 0) 243 = [(4, 182, 182), (3, 0, 0), (5, 0, 0), (1, 0, 12)] := rfl
theorem rr_243 : qR (r_T 0) 243 = [(1, (-1), 9999)] := rfl
theorem ru_243 : qU (r_T 0) 243 = [(4, 182, 182), (3, 0, 0), (5, 0, 0), (1, 0, 12)] := rfl
theorem rp_244 : qP (r_T 0) 244 = [(4, 182, 182), (3, 0, 0), (5, 0, 0), (1, (-1), 12)] := rfl
theorem rr_244 : qR (r_T 0) 244 = [(1, (-1), 12)] := rfl
theorem ru_244 : qU (r_T 0) 244 = [(4, 182, 182), (3, 0, 0), (5, 0, 0), (1, (-1), 12)] := rfl
theorem rp_245 : qP (r_T 0) 245 = [(4, 182, 182), (3, 0, 0), (5, 0, 0), (1, 0, 12)] := rfl
theorem rr_245 : qR (r_T 0) 245 = [(1, (-1), 12)] := rfl
theorem ru_245 : qU (r_T 0) 245 = [(4, 182, 182), (3, 0, 0), (5, 0, 0), (1, 0, 12)] := rfl
theorem rp_246 : qP (r_T 0) 246 = [(1, (-2147483648), 2147483647), (1, (-2147483648), 2147483647), (1, 1, 2147483647)] := rfl
theorem rr_246 : qR (r_T 0) 246 = [(1, (-2147483648), 2147483647)] := rfl
theorem ru_246 : qU (r_T 0) 246 = [(1, (-2147483648), 2147483647), (1, (-2147483648), 2147483647), (1, 1, 2147483647)] := rfl
theorem rp_247 : qP (r_T 0) 247 = [(4, 182, 182), (6, 0, 0), (1, 0, 12), (1, 0, 13), (1, 0, 12)] := rfl
theorem rr_247 : qR (r_T 0) 247 = [(1, (-2147483648), 2147483647)] := rfl
theorem ru_247 : qU (r_T 0) 247 = [(4, 182, 182), (6, 0, 0), (1, 0, 12), (1, 0, 13), (1, 0, 12)] := rfl
theorem rp_249 : qP (r_T 0) 249 = [(4, 182, 182), (3, 0, 0), (5, 0, 0), (1, 0, 11)] := rfl
theorem rr_249 : qR (r_T 0) 249 = [(1, (-2147483648), 2147483647)] := rfl
theorem ru_249 : qU (r_T 0) 249 = [(4, 182, 182), (3, 0, 0), (5, 0, 0), (1, 0, 11)] := rfl
theorem rp_250 : qP (r_T 0) 250 = [(4, 182, 182), (3, 0, 0), (5, 0, 0), (1, 0, 11)] := rfl
theorem rr_250 : qR (r_T 0) 250 = [(1, (-2147483648), 2147483647)] := rfl
theorem ru_250 : qU (r_T 0) 250 = [(4, 182, 182), (3, 0, 0), (5, 0, 0), (1, 0, 11)] := rfl
theorem rp_251 : qP (r_T 0) 251 = [(4, 182, 182), (1, (-2147483648), 2147483647), (1, 0, 6)] := rfl
theorem rr_251 : qR (r_T 0) 251 = [] := rfl
theorem ru_251 : qU (r_T 0) 251 = [(4, 182, 182), (1, (-2147483648), 2147483647), (1, 0, 6)] := rfl
theorem rp_252 : qP (r_T 0) 252 = [(4, 182, 182), (1, (-2147483648), 2147483647)] := rfl
theorem rr_252 : qR (r_T 0) 252 = [(1, (-2147483648), 2147483647)] := rfl
theorem ru_252 : qU (r_T 0) 252 = [(4, 182, 182), (1, (-2147483648), 2147483647)] := rfl
theorem rp_253 : qP (r_T 0) 253 = [(4, 182, 182), (6, 0, 0), (1, 0, 11)] := rfl
theorem rr_253 : qR (r_T 0) 253 = [(1, (-2147483648), 2147483647)] := rfl
theorem ru_253 : qU (r_T 0) 253 = [(4, 182, 182), (6, 0, 0), (1, 0, 11)] := rfl
theorem rp_254 : qP (r_T 0) 254 = [(4, 182, 182), (3, 0, 0), (1, 0, 11)] := rfl
theorem rr_254 : qR (r_T 0) 254 = [] := rfl
theorem ru_254 : qU (r_T 0) 254 = [(4, 182, 182), (3, 0, 0), (1, 0, 11)] := rfl
theorem rp_255 : qP (r_T 0) 255 = [(4, 182, 182), (6, 0, 0)] := rfl
theorem rr_255 : qR (r_T 0) 255 = [] := rfl
theorem ru_255 : qU (r_T 0) 255 = [(4, 182, 182), (6, 0, 0)] := rfl
theorem rp_256 : qP (r_T 0) 256 = [(4, 182, 182), (3, 0, 0), (5, 0, 0), (1, 0, 11)] := rfl
theorem rr_256 : qR (r_T 0) 256 = [(1, 0, 3)] := rfl
theorem ru_256 : qU (r_T 0) 256 = [(4, 182, 182), (3, 0, 0), (5, 0, 0), (1, 0, 11)] := rfl
theorem rp_257 : qP (r_T 0) 257 = [(4, 182, 182), (3, 0, 0), (1, (-2147483648), 2147483647), (1, 0, 11)] := rfl
theorem rr_257 : qR (r_T 0) 257 = [(1, (-2147483648), 2147483647)] := rfl
theorem ru_257 : qU (r_T 0) 257 = [(4, 182, 182), (3, 0, 0), (1, (-2147483648), 2147483647), (1, 0, 11)] := rfl
theorem rp_258 : qP (r_T 0) 258 = [(4, 182, 182), (3, 0, 0), (1, (-2147483648), 2147483647)] := rfl
theorem rr_258 : qR (r_T 0) 258 = [(1, (-2147483648), 2147483647)] := rfl
theorem ru_258 : qU (r_T 0) 258 = [(4, 182, 182), (3, 0, 0), (1, (-2147483648), 2147483647)] := rfl
theorem rp_259 : qP (r_T 0) 259 = [(4, 182, 182), (3, 0, 0)] := rfl
theorem rr_259 : qR (r_T 0) 259 = [(1, (-2147483648), 2147483647)] := rfl
theorem ru_259 : qU (r_T 0) 259 = [(4, 182, 182), (3, 0, 0)] := rfl
theorem rp_260 : qP (r_T 0) 260 = [(4, 182, 182), (5, 0, 0)] := rfl
theorem rr_260 : qR (r_T 0) 260 = [(1, (-2147483648), 2147483647)] := rfl
theorem ru_260 : qU (r_T 0) 260 = [(4, 182, 182), (5, 0, 0)] := rfl
theorem rp_261 : qP (r_T 0) 261 = [(4, 182, 182), (1, (-2147483648), 2147483647), (1, (-2147483648), 2147483647)] := rfl
theorem rr_261 : qR (r_T 0) 261 = [(1, (-2147483648), 2147483647)] := rfl
theorem ru_261 : qU (r_T 0) 261 = [(4, 182, 182), (1, (-2147483648), 2147483647), (1, (-2147483648), 2147483647)] := rfl
theorem rp_262 : qP (r_T 0) 262 = [(4, 182, 182), (1, (-2147483648), 2147483647), (1, (-2147483648), 2147483647)] := rfl
theorem rr_262 : qR (r_T 0) 262 = [(1, (-2147483648), 2147483647)] := rfl
theorem ru_262 : qU (r_T 0) 262 = [(4, 182, 182), (1, (-2147483648), 2147483647), (1, (-2147483648), 2147483647)] := rfl
theorem rp_263 : qP (r_T 0) 263 = [(4, 182, 182), (1, (-2147483648), 2147483647), (1, (-2147483648), 2147483647)] := rfl
theorem rr_263 : qR (r_T 0) 263 = [(1, (-2147483648), 2147483647)] := rfl
theorem ru_263 : qU (r_T 0) 263 = [(4, 182, 182), (1, (-2147483648), 2147483647), (1, (-2147483648), 2147483647)] := rfl
theorem rp_264 : qP (r_T 0) 264 = [(4, 182, 182), (3, 0, 0), (5, 0, 0), (1, 0, 12), (1, (-1), 9999)] := rfl
theorem rr_264 : qR (r_T 0) 264 = [] := rfl
theorem ru_264 : qU (r_T 0) 264 = [(4, 182, 182), (3, 0, 0), (5, 0, 0), (1, 0, 12), (1, (-1), 9999)] := rfl
theorem rp_265 : qP (r_T 0) 265 = [(4, 182, 182), (1, (-2147483648), 2147483647), (1, (-2147483648), 2147483647), (1, (-2147483648), 2147483647)] := rfl
theorem rr_265 : qR (r_T 0) 265 = [(1, (-2147483648), 2147483647)] := rfl
theorem ru_265 : qU (r_T 0) 265 = [(4, 182, 182), (1, (-2147483648), 2147483647), (1, (-2147483648), 2147483647), (1, (-2147483648), 2147483647)] := rfl
theorem rp_266 : qP (r_T 0) 266 = [(4, 182, 182), (3, 0, 0), (5, 0, 0), (1, 0, 3), (1, 0, 12)] := rfl
theorem rr_266 : qR (r_T 0) 266 = [] := rfl
theorem ru_266 : qU (r_T 0) 266 = [(4, 182, 182), (3, 0, 0), (5, 0, 0), (1, 0, 3), (1, 0, 12)] := rfl
theorem rp_267 : qP (r_T 0) 267 = [(4, 182, 182), (1, (-2147483648), 2147483647), (1, (-2147483648), 2147483647), (1, (-2147483648), 2147483647)] := rfl
theorem rr_267 : qR (r_T 0) 267 = [(1, (-2147483648), 2147483647)] := rfl
theorem ru_267 : qU (r_T 0) 267 = [(4, 182, 182), (1, (-2147483648), 2147483647), (1, (-2147483648), 2147483647), (1, (-2147483648), 2147483647)] := rfl
theorem rp_268 : qP (r_T 0) 268 = [(4, 182, 182), (1, (-2147483648), 2147483647), (1, (-2147483648), 2147483647)] := rfl
theorem rr_268 : qR (r_T 0) 268 = [(1, (-2147483648), 2147483647)] := rfl
theorem ru_268 : qU (r_T 0) 268 = [(4, 182, 182), (1, (-2147483648), 2147483647), (1, (-2147483648), 2147483647)] := rfl
theorem rp_271 : qP (r_T 0) 271 = [(4, 182, 182)] := rfl
theorem rr_271 : qR (r_T 0) 271 = [(1, (-2147483648), 2147483647)] := rfl
theorem ru_271 : qU (r_T 0) 271 = [(4, 182, 182)] := rfl
theorem rp_272 : qP (r_T 0) 272 = [(4, 182, 182)] := rfl
theorem rr_272 : qR (r_T 0) 272 = [(1, 0, 1)] := rfl
theorem ru_272 : qU (r_T 0) 272 = [(4, 182, 182)] := rfl
theorem rp_273 : qP (r_T 0) 273 = [(4, 182, 182), (1, (-2147483648), 2147483647)] := rfl
theorem rr_273 : qR (r_T 0) 273 = [(1, (-2147483648), 2147483647)] := rfl
theorem ru_273 : qU (r_T 0) 273 = [(4, 182, 182), (1, (-2147483648), 2147483647)] := rfl
theorem rp_275 : qP (r_T 0) 275 = [(4, 182, 182), (1, (-2147483648), 2147483647), (1, (-2147483648), 2147483647)] := rfl
theorem rr_275 : qR (r_T 0) 275 = [(1, (-2147483648), 2147483647)] := rfl
theorem ru_275 : qU (r_T 0) 275 = [(4, 182, 182), (1, (-2147483648), 2147483647), (1, (-2147483648), 2147483647)] := rfl
theorem rp_276 : qP (r_T 0) 276 = [(4, 182, 182), (1, (-2147483648), 2147483647), (1, (-2147483648), 2147483647)] := rfl
theorem rr_276 : qR (r_T 0) 276 = [(1, (-2147483648), 2147483647)] := rfl
theorem ru_276 : qU (r_T 0) 276 = [(4, 182, 182), (1, (-2147483648), 2147483647), (1, (-2147483648), 2147483647)] := rfl
theorem rp_277 : qP (r_T 0) 277 = [(4, 182, 182), (1, (-2147483648), 2147483647), (1, (-2147483648), 2147483647)] := rfl
theorem rr_277 : qR (r_T 0) 277 = [(1, (-2147483648), 2147483647)] := rfl
theorem ru_277 : qU (r_T 0) 277 = [(4, 182, 182), (1, (-2147483648), 2147483647), (1, (-2147483648), 2147483647)] := rfl
theorem rp_278 : qP (r_T 0) 278 = [(4, 182, 182), (1, (-2147483648), 2147483647)] := rfl
theorem rr_278 : qR (r_T 0) 278 = [(1, (-2147483648), 2147483647)] := rfl
theorem ru_278 : qU (r_T 0) 278 = [(4, 182, 182), (1, (-2147483648), 2147483647)] := rfl
theorem rp_279 : qP (r_T 0) 279 = [(4, 182, 182), (1, (-2147483648), 2147483647), (1, (-2147483648), 2147483647)] := rfl
theorem rr_279 : qR (r_T 0) 279 = [(1, (-2147483648), 2147483647)] := rfl
theorem ru_279 : qU (r_T 0) 279 = [(4, 182, 182), (1, (-2147483648), 2147483647), (1, (-2147483648), 2147483647)] := rfl
theorem rp_280 : qP (r_T 0) 280 = [(4, 182, 182), (1, (-2147483648), 2147483647), (1, (-2147483648), 2147483647)] := rfl
theorem rr_280 : qR (r_T 0) 280 = [(1, (-2147483648), 2147483647)] := rfl
theorem ru_280 : qU (r_T 0) 280 = [(4, 182, 182), (1, (-2147483648), 2147483647), (1, (-2147483648), 2147483647)] := rfl
theorem rp_281 : qP (r_T 0) 281 = [(4, 182, 182), (1, (-2147483648), 2147483647), (1, (-2147483648), 2147483647)] := rfl
theorem rr_281 : qR (r_T 0) 281 = [(1, (-2147483648), 2147483647)] := rfl
theorem ru_281 : qU (r_T 0) 281 = [(4, 182, 182), (1, (-2147483648), 2147483647), (1, (-2147483648), 2147483647)] := rfl
theorem rp_282 : qP (r_T 0) 282 = [(4, 182, 182), (1, (-2147483648), 2147483647)] := rfl
theorem rr_282 : qR (r_T 0) 282 = [(1, (-2147483648), 2147483647)] := rfl
theorem ru_282 : qU (r_T 0) 282 = [(4, 182, 182), (1, (-2147483648), 2147483647)] := rfl
theorem rp_283 : qP (r_T 0) 283 = [(4, 182, 182), (1, (-2147483648), 2147483647)] := rfl
theorem rr_283 : qR (r_T 0) 283 = [(1, (-2147483648), 2147483647)] := rfl
theorem ru_283 : qU (r_T 0) 283 = [(4, 182, 182), (1, (-2147483648), 2147483647)] := rfl
theorem rp_284 : qP (r_T 0) 284 = [(4, 182, 182), (1, (-2147483648), 2147483647), (1, (-2147483648), 2147483647)] := rfl
theorem rr_284 : qR (r_T 0) 284 = [(1, (-2147483648), 2147483647)] := rfl
theorem ru_284 : qU (r_T 0) 284 = [(4, 182, 182), (1, (-2147483648), 2147483647), (1, (-2147483648), 2147483647)] := rfl
theorem rp_285 : qP (r_T 0) 285 = [(4, 182, 182), (3, 0, 0), (1, 0, 11)] := rfl
theorem rr_285 : qR (r_T 0) 285 = [(1, (-2147483648), 2147483647)] := rfl
theorem ru_285 : qU (r_T 0) 285 = [(4, 182, 182), (3, 0, 0), (1, 0, 11)] := rfl
theorem rp_286 : qP (r_T 0) 286 = [(4, 182, 182), (1, (-2147483648), 2147483647)] := rfl
theorem rr_286 : qR (r_T 0) 286 = [(1, (-2147483648), 2147483647)] := rfl
theorem ru_286 : qU (r_T 0) 286 = [(4, 182, 182), (1, (-2147483648), 2147483647)] := rfl
theorem rp_287 : qP (r_T 0) 287 = [(4, 182, 182), (3, 0, 0)] := rfl
theorem rr_287 : qR (r_T 0) 287 = [(1, (-2147483648), 2147483647)] := rfl
theorem ru_287 : qU (r_T 0) 287 = [(4, 182, 182), (3, 0, 0)] := rfl
theorem rp_288 : qP (r_T 0) 288 = [(4, 182, 182)] := rfl
theorem rr_288 : qR (r_T 0) 288 = [(1, (-2147483648), 2147483647)] := rfl
theorem ru_288 : qU (r_T 0) 288 = [(4, 182, 182)] := rfl
theorem rp_289 : qP (r_T 0) 289 = [(4, 182, 182)] := rfl
theorem rr_289 : qR (r_T 0) 289 = [(1, (-2147483648), 2147483647)] := rfl
theorem ru_289 : qU (r_T 0) 289 = [(4, 182, 182)] := rfl
theorem rp_290 : qP (r_T 0) 290 = [(4, 182, 182), (1, 0, 3), (1, 0, 3), (1, 0, 11)] := rfl
theorem rr_290 : qR (r_T 0) 290 = [(1, (-2147483648), 2147483647)] := rfl
theorem ru_290 : qU (r_T 0) 290 = [(4, 182, 182), (1, 0, 3), (1, 0, 3), (1, 0, 11)] := rfl
theorem rp_291 : qP (r_T 0) 291 = [(4, 182, 182), (1, (-2147483648), 2147483647)] := rfl
theorem rr_291 : qR (r_T 0) 291 = [(1, 0, 1)] := rfl
theorem ru_291 : qU (r_T 0) 291 = [(4, 182, 182), (1, 0, 3)] := rfl
theorem rp_292 : qP (r_T 0) 292 = [(4, 182, 182), (1, (-2147483648), 2147483647), (1, (-2147483648), 2147483647), (1, (-2147483648), 2147483647)] := rfl
theorem rr_292 : qR (r_T 0) 292 = [(1, (-2147483648), 2147483647)] := rfl
theorem ru_292 : qU (r_T 0) 292 = [(4, 182, 182), (1, (-2147483648), 2147483647), (1, (-2147483648), 2147483647), (1, (-2147483648), 2147483647)] := rfl
theorem rp_293 : qP (r_T 0) 293 = [(4, 182, 182), (1, (-2147483648), 2147483647), (1, (-2147483648), 2147483647), (1, (-2147483648), 2147483647)] := rfl
theorem rr_293 : qR (r_T 0) 293 = [(1, (-2147483648), 2147483647)] := rfl
theorem ru_293 : qU (r_T 0) 293 = [(4, 182, 182), (1, (-2147483648), 2147483647), (1, (-2147483648), 2147483647), (1, (-2147483648), 2147483647)] := rfl
theorem rp_294 : qP (r_T 0) 294 = [(4, 182, 182), (1, (-2147483648), 2147483647)] := rfl
theorem rr_294 : qR (r_T 0) 294 = [(1, (-2147483648), 2147483647)] := rfl
theorem ru_294 : qU (r_T 0) 294 = [(4, 182, 182), (1, (-2147483648), 2147483647)] := rfl
theorem rp_295 : qP (r_T 0) 295 = [(4, 182, 182)] := rfl
theorem rr_295 : qR (r_T 0) 295 = [(1, (-2147483648), 2147483647)] := rfl
theorem ru_295 : qU (r_T 0) 295 = [(4, 182, 182)] := rfl
theorem rp_296 : qP (r_T 0) 296 = [(4, 182, 182), (1, (-2147483648), 2147483647), (1, (-2147483648), 2147483647)] := rfl
theorem rr_296 : qR (r_T 0) 296 = [(1, (-2147483648), 2147483647)] := rfl
theorem ru_296 : qU (r_T 0) 296 = [(4, 182, 182), (1, (-2147483648), 2147483647), (1, (-2147483648), 2147483647)] := rfl
theorem rp_297 : qP (r_T 0) 297 = [(4, 182, 182), (1, (-2147483648), 2147483647), (1, (-2147483648), 2147483647)] := rfl
theorem rr_297 : qR (r_T 0) 297 = [(1, (-2147483648), 2147483647)] := rfl
theorem ru_297 : qU (r_T 0) 297 = [(4, 182, 182), (1, (-2147483648), 2147483647), (1, (-2147483648), 2147483647)] := rfl
theorem rp_298 : qP (r_T 0) 298 = [(4, 182, 182)] := rfl
theorem rr_298 : qR (r_T 0) 298 = [] := rfl
theorem ru_298 : qU (r_T 0) 298 = [(4, 182, 182)] := rfl
theorem rp_299 : qP (r_T 0) 299 = [(4, 182, 182), (1, (-2147483648), 2147483647), (1, (-2147483648), 2147483647), (1, (-2147483648), 2147483647), (1, (-2147483648), 2147483647)] := rfl
theorem rr_299 : qR (r_T 0) 299 = [(1, (-2147483648), 2147483647)] := rfl
theorem ru_299 : qU (r_T 0) 299 = [(4, 182, 182), (1, (-2147483648), 2147483647), (1, (-2147483648), 2147483647), (1, (-2147483648), 2147483647), (1, (-2147483648), 2147483647)] := rfl
theorem rp_300 : qP (r_T 0) 300 = [(4, 182, 182), (1, (-2147483648), 2147483647), (1, (-2147483648), 2147483647)] := rfl
theorem rr_300 : qR (r_T 0) 300 = [(1, (-2147483648), 2147483647)] := rfl
theorem ru_300 : qU (r_T 0) 300 = [(4, 182, 182), (1, (-2147483648), 2147483647), (1, (-2147483648), 2147483647)] := rfl
theorem rp_301 : qP (r_T 0) 301 = [(4, 182, 182), (5, 0, 0)] := rfl
theorem rr_301 : qR (r_T 0) 301 = [(1, (-2147483648), 2147483647)] := rfl
theorem ru_301 : qU (r_T 0) 301 = [(4, 182, 182), (5, 0, 0)] := rfl
theorem rp_302 : qP (r_T 0) 302 = [(4, 182, 182), (1, (-2147483648), 2147483647)] := rfl
theorem rr_302 : qR (r_T 0) 302 = [(1, (-2147483648), 2147483647)] := rfl
theorem ru_302 : qU (r_T 0) 302 = [(4, 182, 182), (1, (-2147483648), 2147483647)] := rfl
theorem rp_303 : qP (r_T 0) 303 = [(4, 182, 182)] := rfl
theorem rr_303 : qR (r_T 0) 303 = [(1, (-2147483648), 2147483647)] := rfl
theorem ru_303 : qU (r_T 0) 303 = [(4, 182, 182)] := rfl
theorem rp_304 : qP (r_T 0) 304 = [(4, 182, 182), (1, (-2147483648), 2147483647), (1, (-2147483648), 2147483647), (1, 0, 1)] := rfl
theorem rr_304 : qR (r_T 0) 304 = [(1, 0, 1)] := rfl
theorem ru_304 : qU (r_T 0) 304 = [(4, 182, 182), (1, (-2147483648), 2147483647), (1, (-2147483648), 2147483647), (1, 0, 1)] := rfl
theorem rp_305 : qP (r_T 0) 305 = [(4, 182, 182)] := rfl
theorem rr_305 : qR (r_T 0) 305 = [(1, (-2147483648), 2147483647)] := rfl
theorem ru_305 : qU (r_T 0) 305 = [(4, 182, 182)] := rfl
theorem rp_306 : qP (r_T 0) 306 = [(4, 182, 182)] := rfl
theorem rr_306 : qR (r_T 0) 306 = [(1, (-2147483648), 2147483647)] := rfl
theorem ru_306 : qU (r_T 0) 306 = [(4, 182, 182)] := rfl
theorem rp_307 : qP (r_T 0) 307 = [(4, 182, 182)] := rfl
theorem rr_307 : qR (r_T 0) 307 = [(1, (-2147483648), 2147483647)] := rfl
theorem ru_307 : qU (r_T 0) 307 = [(4, 182, 182)] := rfl
theorem rp_308 : qP (r_T 0) 308 = [(4, 182, 182), (1, (-2147483648), 2147483647), (1, 0, 11)] := rfl
theorem rr_308 : qR (r_T 0) 308 = [(1, (-2147483648), 2147483647)] := rfl
theorem ru_308 : qU (r_T 0) 308 = [(4, 182, 182), (1, (-2147483648), 2147483647), (1, 0, 11)] := rfl
theorem rp_309 : qP (r_T 0) 309 = [(4, 182, 182), (1, 1, 200)] := rfl
theorem rr_309 : qR (r_T 0) 309 = [(1, 0, 199)] := rfl
theorem ru_309 : qU (r_T 0) 309 = [(4, 182, 182), (1, 1, 200)] := rfl
theorem rp_310 : qP (r_T 0) 310 = [(4, 182, 182), (1, (-2147483648), 2147483647), (1, (-2147483648), 2147483647), (1, (-2147483648), 2147483647)] := rfl
theorem rr_310 : qR (r_T 0) 310 = [(1, (-2147483648), 2147483647)] := rfl
theorem ru_310 : qU (r_T 0) 310 = [(4, 182, 182), (1, (-2147483648), 2147483647), (1, (-2147483648), 2147483647), (1, (-2147483648), 2147483647)] := rfl
theorem rp_311 : qP (r_T 0) 311 = [(4, 182, 182), (1, (-2147483648), 2147483647), (1, 0, 1)] := rfl
theorem rr_311 : qR (r_T 0) 311 = [(1, 0, 1)] := rfl
theorem ru_311 : qU (r_T 0) 311 = [(4, 182, 182), (1, (-2147483648), 2147483647), (1, 0, 1)] := rfl
theorem rp_312 : qP (r_T 0) 312 = [(4, 182, 182)] := rfl
theorem rr_312 : qR (r_T 0) 312 = [(1, (-2147483648), 2147483647)] := rfl
theorem ru_312 : qU (r_T 0) 312 = [(4, 182, 182)] := rfl
theorem rp_313 : qP (r_T 0) 313 = [(4, 182, 182), (1, (-2147483648), 2147483647)] := rfl
theorem rr_313 : qR (r_T 0) 313 = [(1, (-2147483648), 2147483647)] := rfl
theorem ru_313 : qU (r_T 0) 313 = [(4, 182, 182), (1, (-2147483648), 2147483647)] := rfl
