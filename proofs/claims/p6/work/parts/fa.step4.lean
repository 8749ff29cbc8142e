/-! ===== the steps_w of the law_w over Inv4 ===== -/
section STEPS4
variable {xs : Nat → Int} {L K n : Nat}
theorem feed_s4 (hK2 : 20000000000 ≤ K) (a b e : Int) : ∀ (c d : Nat) (h : XH), Inv4 h → ∃ (v1_w v2 : List Int) (h1 h2 : XH), evF xs L g_ck K g_cW g_M (n + 41) 1 [0, a, b, e] ((a_g3, c, d), h) = some (1, v1_w, ((a_g3, c, d), h1)) ∧ evF xs L g_ck K g_cW g_M (n + 41) 183 [182, a, b, e] ((a_g3, c, d), h1) = some (1, v2, ((a_g3, c, d), h2)) ∧ Inv4 h2 := fun c d h hI => by
  obtain ⟨v, h1, h2, e1_w, e2_w, e3_w, -⟩ := feed_i4 (xs := xs) (L := L) (K := K) (n := n + 39) (c := c) (d := d) (a := a) (b := b) (e := e) (by omega) hI
  exact ⟨[v], [v], h1, h2, e1_w, e2_w, e3_w⟩
theorem grid_s4 (hK2 : 20000000000 ≤ K) (hn : n + 41 < 99999) : ∀ (c d : Nat) (h : XH), Inv4 h → ∃ (v : Int) (h1 h2 : XH), evF xs L g_ck K g_cW g_M (n + 41) 2 [0] ((a_g3, c, d), h) = some (1, [v], ((a_g3, c, d), h1)) ∧ evF xs L g_ck K g_cW g_M (n + 41) 206 [182] ((a_g3, c, d), h1) = some (1, [v], ((a_g3, c, d), h2)) ∧ Inv4 h2 := fun c d h hI => grid_i4 hK2 hn hI
theorem work_s4 (hK2 : 20000000000 ≤ K) (hn : n + 41 < 99999) : ∀ (c d : Nat) (h : XH), Inv4 h → ∃ (v : Int) (h1 h2 : XH), evF xs L g_ck K g_cW g_M (n + 41) 4 [0] ((a_g3, c, d), h) = some (1, [v], ((a_g3, c, d), h1)) ∧ evF xs L g_ck K g_cW g_M (n + 41) 214 [182] ((a_g3, c, d), h1) = some (1, [v], ((a_g3, c, d), h2)) ∧ Inv4 h2 := fun c d h hI => work_i4 hK2 hn hI
theorem grid_w4 (hK2 : 20000000000 ≤ K) (hn : n + 41 < 99999) {c d : Nat} {h : XH} (hI : Inv4 h) : ∃ (v1_w v2 : List Int) (h1 h2 : XH), evF xs L g_ck K g_cW g_M (n + 41) 2 [0] ((a_g3, c, d), h) = some (1, v1_w, ((a_g3, c, d), h1)) ∧ evF xs L g_ck K g_cW g_M (n + 41) 206 [182] ((a_g3, c, d), h1) = some (1, v2, ((a_g3, c, d), h2)) ∧ Inv4 h2 := by
  obtain ⟨v, h1, h2, e1_w, e2_w, e3_w⟩ := grid_i4 (xs := xs) (L := L) (K := K) (n := n) (c := c) (d := d) hK2 hn hI
  exact ⟨[v], [v], h1, h2, e1_w, e2_w, e3_w⟩
theorem work_w4 (hK2 : 20000000000 ≤ K) (hn : n + 41 < 99999) {c d : Nat} {h : XH} (hI : Inv4 h) : ∃ (v1_w v2 : List Int) (h1 h2 : XH), evF xs L g_ck K g_cW g_M (n + 41) 4 [0] ((a_g3, c, d), h) = some (1, v1_w, ((a_g3, c, d), h1)) ∧ evF xs L g_ck K g_cW g_M (n + 41) 214 [182] ((a_g3, c, d), h1) = some (1, v2, ((a_g3, c, d), h2)) ∧ Inv4 h2 := by
  obtain ⟨v, h1, h2, e1_w, e2_w, e3_w⟩ := work_i4 (xs := xs) (L := L) (K := K) (n := n) (c := c) (d := d) hK2 hn hI
  exact ⟨[v], [v], h1, h2, e1_w, e2_w, e3_w⟩
end STEPS4
