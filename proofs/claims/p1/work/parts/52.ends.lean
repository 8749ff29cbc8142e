/-! ===== every script of at most 7 ints (written by wip/tools/final.py) ===== -/
theorem sel_b (x : Int) : 0 ≤ j_iop 3 x 63 ∧ j_iop 3 x 63 < 64 := by
  have e : j_iop 3 x 63 = ((Int32.ofInt x).toBitVec &&& 63#32).toInt := rfl
  have h : ((Int32.ofInt x).toBitVec &&& 63#32).toNat ≤ 63 := by
    rw [BitVec.toNat_and]
    exact Nat.and_le_right
  rw [e, BitVec.toInt_eq_toNat_of_lt (by omega)]
  omega
theorem sat7 {xs : Nat → Int} {z a0 b0 a1 b1 a2 b2 a3 b3 a4 b4 a5 b5 a6 b6 : Int} (hz : j_iop 3 (xs 0) 63 = z) (h0 : a0 ≤ xs 0 ∧ xs 0 ≤ b0) (h1 : a1 ≤ xs 1 ∧ xs 1 ≤ b1) (h2 : a2 ≤ xs 2 ∧ xs 2 ≤ b2) (h3 : a3 ≤ xs 3 ∧ xs 3 ≤ b3) (h4 : a4 ≤ xs 4 ∧ xs 4 ≤ b4) (h5 : a5 ≤ xs 5 ∧ xs 5 ≤ b5) (h6 : a6 ≤ xs 6 ∧ xs 6 ≤ b6) :
    SatA xs ([(a0, b0), (a1, b1), (a2, b2), (a3, b3), (a4, b4), (a5, b5), (a6, b6)], some z) := by
  refine ⟨fun i lo hi h => ?_, fun v h => by cases h; exact hz⟩
  match i, h with
  | 0, h => cases h; exact h0
  | 1, h => cases h; exact h1
  | 2, h => cases h; exact h2
  | 3, h => cases h; exact h3
  | 4, h => cases h; exact h4
  | 5, h => cases h; exact h5
  | 6, h => cases h; exact h6
  | i + 7, h => cases h
section ENDS
variable {xs : Nat → Int}
theorem hb_of (hx : ∀ j, InI (xs j)) (j : Nat) : -2147483648 ≤ xs j ∧ xs j ≤ 2147483647 := by
  have h := hx j
  unfold InI at h
  omega
theorem ends_38 (hx : ∀ j, InI (xs j)) (hz : j_iop 3 (xs 0) 63 = 38) : EndsA xs 7 := by
  have hb := hb_of hx
  have b1 := hb 1
  have b2 := hb 2
  have b3 := hb 3
  have hc : (-2147483648 ≤ xs 1 ∧ xs 1 ≤ -1) ∨ (10000 ≤ xs 1 ∧ xs 1 ≤ 2147483647) ∨ (0 ≤ xs 1 ∧ xs 1 ≤ 9999 ∧ -2147483648 ≤ xs 2 ∧ xs 2 ≤ 0) ∨ (0 ≤ xs 1 ∧ xs 1 ≤ 9999 ∧ 61 ≤ xs 2 ∧ xs 2 ≤ 2147483647) ∨ (0 ≤ xs 1 ∧ xs 1 ≤ 9999 ∧ 1 ≤ xs 2 ∧ xs 2 ≤ 60 ∧ -2147483648 ≤ xs 3 ∧ xs 3 ≤ -1) ∨ (0 ≤ xs 1 ∧ xs 1 ≤ 9999 ∧ 1 ≤ xs 2 ∧ xs 2 ≤ 60 ∧ 3 ≤ xs 3 ∧ xs 3 ≤ 2147483647) ∨ (0 ≤ xs 1 ∧ xs 1 ≤ 9999 ∧ 1 ≤ xs 2 ∧ xs 2 ≤ 60 ∧ 0 ≤ xs 3 ∧ xs 3 ≤ 0) ∨ (0 ≤ xs 1 ∧ xs 1 ≤ 9999 ∧ 1 ≤ xs 2 ∧ xs 2 ≤ 60 ∧ 1 ≤ xs 3 ∧ xs 3 ≤ 1) ∨ (0 ≤ xs 1 ∧ xs 1 ≤ 9999 ∧ 1 ≤ xs 2 ∧ xs 2 ≤ 60 ∧ 2 ≤ xs 3 ∧ xs 3 ≤ 2) := by omega
  rcases hc with h | h | h | h | h | h | h | h | h
  · exact a_drv_ok (by decide) _ _ ar_38_0 (sat7 hz (hb 0) ⟨by omega, by omega⟩ (hb 2) (hb 3) (hb 4) (hb 5) (hb 6))
  · exact a_drv_ok (by decide) _ _ ar_38_1 (sat7 hz (hb 0) ⟨by omega, by omega⟩ (hb 2) (hb 3) (hb 4) (hb 5) (hb 6))
  · exact a_drv_ok (by decide) _ _ ar_38_2 (sat7 hz (hb 0) ⟨by omega, by omega⟩ ⟨by omega, by omega⟩ (hb 3) (hb 4) (hb 5) (hb 6))
  · exact a_drv_ok (by decide) _ _ ar_38_3 (sat7 hz (hb 0) ⟨by omega, by omega⟩ ⟨by omega, by omega⟩ (hb 3) (hb 4) (hb 5) (hb 6))
  · exact a_drv_ok (by decide) _ _ ar_38_4 (sat7 hz (hb 0) ⟨by omega, by omega⟩ ⟨by omega, by omega⟩ ⟨by omega, by omega⟩ (hb 4) (hb 5) (hb 6))
  · exact a_drv_ok (by decide) _ _ ar_38_5 (sat7 hz (hb 0) ⟨by omega, by omega⟩ ⟨by omega, by omega⟩ ⟨by omega, by omega⟩ (hb 4) (hb 5) (hb 6))
  · exact a_drv_ok (by decide) _ _ ar_38_6 (sat7 hz (hb 0) ⟨by omega, by omega⟩ ⟨by omega, by omega⟩ ⟨by omega, by omega⟩ (hb 4) (hb 5) (hb 6))
  · exact a_drv_ok (by decide) _ _ ar_38_7 (sat7 hz (hb 0) ⟨by omega, by omega⟩ ⟨by omega, by omega⟩ ⟨by omega, by omega⟩ (hb 4) (hb 5) (hb 6))
  · exact a_drv_ok (by decide) _ _ ar_38_8 (sat7 hz (hb 0) ⟨by omega, by omega⟩ ⟨by omega, by omega⟩ ⟨by omega, by omega⟩ (hb 4) (hb 5) (hb 6))
theorem ends_39 (hx : ∀ j, InI (xs j)) (hz : j_iop 3 (xs 0) 63 = 39) : EndsA xs 7 := by
  have hb := hb_of hx
  have b1 := hb 1
  have b2 := hb 2
  have b3 := hb 3
  have hc : (-2147483648 ≤ xs 1 ∧ xs 1 ≤ -1) ∨ (2 ≤ xs 1 ∧ xs 1 ≤ 2147483647) ∨ (0 ≤ xs 1 ∧ xs 1 ≤ 0 ∧ -2147483648 ≤ xs 2 ∧ xs 2 ≤ -1) ∨ (0 ≤ xs 1 ∧ xs 1 ≤ 0 ∧ 1 ≤ xs 2 ∧ xs 2 ≤ 2147483647) ∨ (0 ≤ xs 1 ∧ xs 1 ≤ 0 ∧ 0 ≤ xs 2 ∧ xs 2 ≤ 0) ∨ (1 ≤ xs 1 ∧ xs 1 ≤ 1 ∧ -2147483648 ≤ xs 2 ∧ xs 2 ≤ -1) ∨ (1 ≤ xs 1 ∧ xs 1 ≤ 1 ∧ 1 ≤ xs 2 ∧ xs 2 ≤ 2147483647) ∨ (1 ≤ xs 1 ∧ xs 1 ≤ 1 ∧ 0 ≤ xs 2 ∧ xs 2 ≤ 0) := by omega
  rcases hc with h | h | h | h | h | h | h | h
  · exact a_drv_ok (by decide) _ _ ar_39_0 (sat7 hz (hb 0) ⟨by omega, by omega⟩ (hb 2) (hb 3) (hb 4) (hb 5) (hb 6))
  · exact a_drv_ok (by decide) _ _ ar_39_1 (sat7 hz (hb 0) ⟨by omega, by omega⟩ (hb 2) (hb 3) (hb 4) (hb 5) (hb 6))
  · exact a_drv_ok (by decide) _ _ ar_39_2 (sat7 hz (hb 0) ⟨by omega, by omega⟩ ⟨by omega, by omega⟩ (hb 3) (hb 4) (hb 5) (hb 6))
  · exact a_drv_ok (by decide) _ _ ar_39_3 (sat7 hz (hb 0) ⟨by omega, by omega⟩ ⟨by omega, by omega⟩ (hb 3) (hb 4) (hb 5) (hb 6))
  · exact a_drv_ok (by decide) _ _ ar_39_4 (sat7 hz (hb 0) ⟨by omega, by omega⟩ ⟨by omega, by omega⟩ (hb 3) (hb 4) (hb 5) (hb 6))
  · exact a_drv_ok (by decide) _ _ ar_39_5 (sat7 hz (hb 0) ⟨by omega, by omega⟩ ⟨by omega, by omega⟩ (hb 3) (hb 4) (hb 5) (hb 6))
  · exact a_drv_ok (by decide) _ _ ar_39_6 (sat7 hz (hb 0) ⟨by omega, by omega⟩ ⟨by omega, by omega⟩ (hb 3) (hb 4) (hb 5) (hb 6))
  · exact a_drv_ok (by decide) _ _ ar_39_7 (sat7 hz (hb 0) ⟨by omega, by omega⟩ ⟨by omega, by omega⟩ (hb 3) (hb 4) (hb 5) (hb 6))
theorem ends_7 (hx : ∀ j, InI (xs j)) : EndsA xs 7 := by
  have hb := hb_of hx
  have hs := sel_b (xs 0)
  obtain ⟨n, hn⟩ : ∃ n : Nat, j_iop 3 (xs 0) 63 = (n : Int) := ⟨(j_iop 3 (xs 0) 63).toNat, by omega⟩
  have h64 : n < 64 := by omega
  have sat : ∀ z : Int, j_iop 3 (xs 0) 63 = z → SatA xs (a_c0, some z) := fun z hz => sat7 hz (hb 0) (hb 1) (hb 2) (hb 3) (hb 4) (hb 5) (hb 6)
  match n, hn, h64 with
  | 0, hn, _ => exact ends_0 hn
  | 1, hn, _ => exact a_drv_ok (by decide) _ _ ar_1 (sat _ hn)
  | 2, hn, _ => exact a_drv_ok (by decide) _ _ ar_2 (sat _ hn)
  | 3, hn, _ => exact a_drv_ok (by decide) _ _ ar_3 (sat _ hn)
  | 4, hn, _ => exact a_drv_ok (by decide) _ _ ar_4 (sat _ hn)
  | 5, hn, _ => exact a_drv_ok (by decide) _ _ ar_5 (sat _ hn)
  | 6, hn, _ => exact a_drv_ok (by decide) _ _ ar_6 (sat _ hn)
  | 7, hn, _ => exact a_drv_ok (by decide) _ _ ar_7 (sat _ hn)
  | 8, hn, _ => exact a_drv_ok (by decide) _ _ ar_8 (sat _ hn)
  | 9, hn, _ => exact a_drv_ok (by decide) _ _ ar_9 (sat _ hn)
  | 10, hn, _ => exact a_drv_ok (by decide) _ _ ar_10 (sat _ hn)
  | 11, hn, _ => exact a_drv_ok (by decide) _ _ ar_11 (sat _ hn)
  | 12, hn, _ => exact a_drv_ok (by decide) _ _ ar_12 (sat _ hn)
  | 13, hn, _ => exact a_drv_ok (by decide) _ _ ar_13 (sat _ hn)
  | 14, hn, _ => exact a_drv_ok (by decide) _ _ ar_14 (sat _ hn)
  | 15, hn, _ => exact a_drv_ok (by decide) _ _ ar_15 (sat _ hn)
  | 16, hn, _ => exact a_drv_ok (by decide) _ _ ar_16 (sat _ hn)
  | 17, hn, _ => exact a_drv_ok (by decide) _ _ ar_17 (sat _ hn)
  | 18, hn, _ => exact a_drv_ok (by decide) _ _ ar_18 (sat _ hn)
  | 19, hn, _ => exact a_drv_ok (by decide) _ _ ar_19 (sat _ hn)
  | 20, hn, _ => exact a_drv_ok (by decide) _ _ ar_20 (sat _ hn)
  | 21, hn, _ => exact a_drv_ok (by decide) _ _ ar_21 (sat _ hn)
  | 22, hn, _ => exact a_drv_ok (by decide) _ _ ar_22 (sat _ hn)
  | 23, hn, _ => exact a_drv_ok (by decide) _ _ ar_23 (sat _ hn)
  | 24, hn, _ => exact a_drv_ok (by decide) _ _ ar_24 (sat _ hn)
  | 25, hn, _ => exact a_drv_ok (by decide) _ _ ar_25 (sat _ hn)
  | 26, hn, _ => exact a_drv_ok (by decide) _ _ ar_26 (sat _ hn)
  | 27, hn, _ => exact a_drv_ok (by decide) _ _ ar_27 (sat _ hn)
  | 28, hn, _ => exact a_drv_ok (by decide) _ _ ar_28 (sat _ hn)
  | 29, hn, _ => exact a_drv_ok (by decide) _ _ ar_29 (sat _ hn)
  | 30, hn, _ => exact a_drv_ok (by decide) _ _ ar_30 (sat _ hn)
  | 31, hn, _ => exact a_drv_ok (by decide) _ _ ar_31 (sat _ hn)
  | 32, hn, _ => exact a_drv_ok (by decide) _ _ ar_32 (sat _ hn)
  | 33, hn, _ => exact a_drv_ok (by decide) _ _ ar_33 (sat _ hn)
  | 34, hn, _ => exact a_drv_ok (by decide) _ _ ar_34 (sat _ hn)
  | 35, hn, _ => exact a_drv_ok (by decide) _ _ ar_35 (sat _ hn)
  | 36, hn, _ => exact a_drv_ok (by decide) _ _ ar_36 (sat _ hn)
  | 37, hn, _ => exact a_drv_ok (by decide) _ _ ar_37 (sat _ hn)
  | 38, hn, _ => exact ends_38 hx hn
  | 39, hn, _ => exact ends_39 hx hn
  | 40, hn, _ => exact a_drv_ok (by decide) _ _ ar_40 (sat _ hn)
  | 41, hn, _ => exact a_drv_ok (by decide) _ _ ar_41 (sat _ hn)
  | 42, hn, _ => exact a_drv_ok (by decide) _ _ ar_42 (sat _ hn)
  | 43, hn, _ => exact a_drv_ok (by decide) _ _ ar_43 (sat _ hn)
  | 44, hn, _ => exact a_drv_ok (by decide) _ _ ar_44 (sat _ hn)
  | 45, hn, _ => exact a_drv_ok (by decide) _ _ ar_45 (sat _ hn)
  | 46, hn, _ => exact a_drv_ok (by decide) _ _ ar_46 (sat _ hn)
  | 47, hn, _ => exact a_drv_ok (by decide) _ _ ar_47 (sat _ hn)
  | 48, hn, _ => exact a_drv_ok (by decide) _ _ ar_48 (sat _ hn)
  | 49, hn, _ => exact a_drv_ok (by decide) _ _ ar_49 (sat _ hn)
  | 50, hn, _ => exact a_drv_ok (by decide) _ _ ar_50 (sat _ hn)
  | 51, hn, _ => exact a_drv_ok (by decide) _ _ ar_51 (sat _ hn)
  | 52, hn, _ => exact a_drv_ok (by decide) _ _ ar_52 (sat _ hn)
  | 53, hn, _ => exact a_drv_ok (by decide) _ _ ar_53 (sat _ hn)
  | 54, hn, _ => exact a_drv_ok (by decide) _ _ ar_54 (sat _ hn)
  | 55, hn, _ => exact a_drv_ok (by decide) _ _ ar_55 (sat _ hn)
  | 56, hn, _ => exact a_drv_ok (by decide) _ _ ar_56 (sat _ hn)
  | 57, hn, _ => exact a_drv_ok (by decide) _ _ ar_57 (sat _ hn)
  | 58, hn, _ => exact a_drv_ok (by decide) _ _ ar_58 (sat _ hn)
  | 59, hn, _ => exact a_drv_ok (by decide) _ _ ar_59 (sat _ hn)
  | 60, hn, _ => exact a_drv_ok (by decide) _ _ ar_60 (sat _ hn)
  | 61, hn, _ => exact a_drv_ok (by decide) _ _ ar_61 (sat _ hn)
  | 62, hn, _ => exact a_drv_ok (by decide) _ _ ar_62 (sat _ hn)
  | 63, hn, _ => exact a_drv_ok (by decide) _ _ ar_63 (sat _ hn)
  | n + 64, _, h => exact absurd h (by omega)
theorem ends_all (hx : ∀ j, InI (xs j)) : ∀ L, L ≤ 7 → EndsA xs L
  | 0, _ => a_drv_ok (by decide) _ _ as_0 ⟨fun i lo hi h => (by cases h), fun v h => (by cases h)⟩
  | 1, _ => a_drv_ok (by decide) _ _ as_1 ⟨fun i lo hi h => (by cases h), fun v h => (by cases h)⟩
  | 2, _ => a_drv_ok (by decide) _ _ as_2 ⟨fun i lo hi h => (by cases h), fun v h => (by cases h)⟩
  | 3, _ => a_drv_ok (by decide) _ _ as_3 ⟨fun i lo hi h => (by cases h), fun v h => (by cases h)⟩
  | 4, _ => a_drv_ok (by decide) _ _ as_4 ⟨fun i lo hi h => (by cases h), fun v h => (by cases h)⟩
  | 5, _ => a_drv_ok (by decide) _ _ as_5 ⟨fun i lo hi h => (by cases h), fun v h => (by cases h)⟩
  | 6, _ => a_drv_ok (by decide) _ _ as_6 ⟨fun i lo hi h => (by cases h), fun v h => (by cases h)⟩
  | 7, _ => ends_7 hx
  | L + 8, h => absurd h (by omega)
end ENDS
theorem no_traces {l : Launch} (h : l.flags = flags0) : l.stackTraces = false := by
  unfold Launch.stackTraces
  rw [h]
  decide +kernel
theorem whole_start {p : Program} {e : Env} {s : State} {m : MethodId} {below : List Frame} {meth : Method} {c : Code} (l : Launch) (hflags : l.flags = flags0) {b L : Nat} {xs : Nat → Int32} (hL : L ≤ 7) (C0 : lw_At p s m meth c b L xs) : W p l e room_1 s m #[Value.ref b] below meth c s.heap [] 0 0 (lw_Z below #[Value.ref b] s) (entryFrame m ([Value.ref b] : List Value).toArray 7) := by
  obtain ⟨en', st', h1, h2, h3⟩ := ends_all (xs := fun j => (xs j).toInt) (fun j => in_i32 _) L hL
  exact law_walk (no_traces hflags) (by omega) C0 (by decide) h1 h2 h3
