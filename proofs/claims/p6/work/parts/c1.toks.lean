/-! ===== the class's tape stands at a cut_w sign ===== -/
def c5 : Nat → Int → Int
  | 0, _ => 0
  | k + 1, v => if v ≤ 0 then 0 else 32 * c5 k (v / 37) + v % 37
def d5 : Nat → Int → Int
  | 0, _ => 0
  | k + 1, c => if c ≤ 0 then 0 else 37 * d5 k (c / 32) + c % 32
/-- a word, as_w the reference_w packs it -/
def IsW (v : Int) : Prop := d5 9 (c5 9 v) = v
def RestT (b : Nat → Int) (n N : Nat) (S P V : Nat → Int) (i q : Nat) : Prop := i ≤ N ∧ q ≤ n ∧ S N = 0 ∧ P N = (n : Int) ∧ ∃ pos_w : Nat → Nat, pos_w i = q ∧ (∀ j, i ≤ j → j < N → TKN b n (pos_w j) (pos_w (j + 1)) (S j) (P j) (V j)) ∧ pos_w N ≤ n ∧ ∀ k, pos_w N ≤ k → k < n → isB (b k)
def TC (n N : Nat) (S P V : Nat → Int) (i : Nat) (h : XH) : Prop := BYT n h ∧ h 2 3 = S i ∧ (h 2 4 = P i ∧ 0 ≤ P i ∧ P i ≤ 1000) ∧ (S i = 1 → h 2 6 = c5 9 (V i) ∧ IsW (V i)) ∧ (S i = 2 ∨ S i = 3 → h 2 5 = V i) ∧ i ≤ N ∧ (i = N → S i = 0) ∧ (i < N → S i ≠ 0 ∧ 0 ≤ h 2 2 ∧ RestT (h 3) n N S P V (i + 1) (h 2 2).toNat)
section TCS
variable {b : Nat → Int} {n N i p a m : Nat} {S P V : Nat → Int} {h h' : XH}
theorem c5_w : ∀ (m k : Nat), m ≤ k → m ≤ 8 → (∀ q, a ≤ q → q < a + m → isL (b q)) → c5 k (w37 b a m) = w32 b a m
  | 0, 0, _, _, _ => rfl
  | 0, k + 1, _, _, _ => rfl
  | m + 1, 0, hk, _, _ => absurd hk (by omega)
  | m + 1, k + 1, hk, h8, hl => by
    have ih_w := c5_w m k (by omega) (by omega) (fun q z1 z2 => hl q z1 (by omega))
    have l := hl (a + m) (by omega) (by omega)
    have bd := w37_c (b := b) (a := a) (m := m) (by omega) (fun q z1 z2 => hl q z1 (by omega))
    rw [c5, w37, w32, if_neg (by omega)]
    have e1_w : (37 * w37 b a m + (b (a + m) - 96)) / 37 = w37 b a m := by omega
    have e2_w : (37 * w37 b a m + (b (a + m) - 96)) % 37 = b (a + m) - 96 := by omega
    rw [e1_w, e2_w, ih_w]
theorem d5_w : ∀ (m k : Nat), m ≤ k → m ≤ 8 → (∀ q, a ≤ q → q < a + m → isL (b q)) → d5 k (w32 b a m) = w37 b a m
  | 0, 0, _, _, _ => rfl
  | 0, k + 1, _, _, _ => rfl
  | m + 1, 0, hk, _, _ => absurd hk (by omega)
  | m + 1, k + 1, hk, h8, hl => by
    have ih_w := d5_w m k (by omega) (by omega) (fun q z1 z2 => hl q z1 (by omega))
    have l := hl (a + m) (by omega) (by omega)
    have bd := w32_c (b := b) (a := a) (m := m) (by omega) (fun q z1 z2 => hl q z1 (by omega))
    rw [d5, w37, w32, if_neg (by omega)]
    have e1_w : (32 * w32 b a m + (b (a + m) - 96)) / 32 = w32 b a m := by omega
    have e2_w : (32 * w32 b a m + (b (a + m) - 96)) % 32 = b (a + m) - 96 := by omega
    rw [e1_w, e2_w, ih_w]
theorem IsW.inj {u v : Int} (a : IsW u) (b : IsW v) (e : c5 9 u = c5 9 v) : u = v := by
  unfold IsW at a b
  rw [← a, ← b, e]
/-- two ways to an end are one -/
theorem run_eq {p : Int → Prop} {q q' : Nat} (a1_w : a < q) (a2 : q ≤ n) (a3 : ∀ k, a ≤ k → k < q → p (b k)) (a4 : q = n ∨ ¬ p (b q)) (b1 : a < q') (b2 : q' ≤ n) (b3 : ∀ k, a ≤ k → k < q' → p (b k)) (b4 : q' = n ∨ ¬ p (b q')) : q = q' := by
  rcases Nat.lt_trichotomy q q' with z | z | z
  · rcases a4 with y | y
    · omega
    · exact absurd (b3 q (by omega) z) y
  · exact z
  · rcases b4 with y | y
    · omega
    · exact absurd (a3 q' (by omega) z) y
theorem ADV.tc (r : RestT b n N S P V i p) (hb_w : BYT n h') (h3 : h' 3 = b) (ad : ADV b n p h') : TC n N S P V i h' := by
  obtain ⟨iN_w, pn, sN_w, pN, pos_w, p0, p1_w, p2_w, p3_w⟩ := r
  obtain ⟨a, a1_w, a2, a3, a4, ad⟩ := ad
  rcases Nat.lt_or_eq_of_le iN_w with lt | rfl
  · have t := p1_w i (Nat.le_refl _) lt
    rw [p0] at t
    obtain ⟨a0_w, t1_w, t2_w, t3_w, t4_w, t5_w, t6, t7⟩ := t
    have ea : a = a0_w := by
      rcases Nat.lt_trichotomy a a0_w with z | z | z
      · rcases ad with ⟨y, -⟩ | ⟨-, y, -⟩
        · omega
        · exact absurd (t4_w a a1_w z) y
      · exact z
      · exact absurd (a3 a0_w t1_w z) t5_w
    subst ea
    rcases ad with ⟨y, -⟩ | ⟨-, nb, q, q1_w, q2_w, q3_w, ad⟩
    · omega
    have rest : ∀ q', q' = pos_w (i + 1) → RestT (h' 3) n N S P V (i + 1) q' := fun q' e => by
      rw [h3]
      exact ⟨lt, by omega, sN_w, pN, pos_w, e.symm, fun j z1 z2 => p1_w j (by omega) z2, p2_w, p3_w⟩
    have fin_w : q = pos_w (i + 1) → S i ≠ 0 → h' 2 3 = S i → (S i = 1 → h' 2 6 = c5 9 (V i) ∧ IsW (V i)) → (S i = 2 ∨ S i = 3 → h' 2 5 = V i) → TC n N S P V i h' := fun eq s0 e1_w e2_w e3_w => ⟨hb_w, e1_w, ⟨a4.trans t6.symm, by omega, by have := hb_w.2.1; omega⟩, e2_w, e3_w, by omega, fun z => by omega, fun _ => ⟨s0, by omega, rest _ (by omega)⟩⟩
    rcases t7 with ⟨u1, u2_w, u3, u4_w, u5⟩ | ⟨u1, u2_w, u3, u4_w, u5⟩ | ⟨u1, u2_w, u3, u4_w, u5⟩
    · rcases ad with ⟨v1_w, v2, v3, v4_w, v5⟩ | ⟨v1_w, -⟩ | ⟨v1_w, -⟩
      · have eq := run_eq (p := isL) q1_w q2_w v2 v3 t2_w t3_w u2_w u3
        rw [eq] at v4_w v5
        refine fin_w eq (by rw [u4_w]; split <;> decide) (v4_w.trans u4_w.symm) (fun z => ?_) (fun z => ?_)
        · have h8 : pos_w (i + 1) - a ≤ 8 := by
            rw [u4_w] at z
            by_cases y : pos_w (i + 1) - a > 8
            · rw [if_pos y] at z; exact absurd z (by decide)
            · omega
          have hl : ∀ k, a ≤ k → k < a + (pos_w (i + 1) - a) → isL (b k) := fun k z1 z2 => u2_w k z1 (by omega)
          unfold IsW
          rw [v5 h8, u5 h8, c5_w _ _ (by omega) h8 hl, d5_w _ _ (by omega) h8 hl]
          exact ⟨rfl, rfl⟩
        · rw [u4_w] at z
          split at z <;> (rcases z with z | z <;> exact absurd z (by decide))
      · omega
      · exact absurd u1 v1_w
    · rcases ad with ⟨v1_w, -⟩ | ⟨v1_w, v2, v3, v4_w, v5⟩ | ⟨v1_w, v1', -⟩
      · omega
      · have eq := run_eq (p := isD) q1_w q2_w v2 v3 t2_w t3_w u2_w u3
        rw [eq] at v4_w v5
        refine fin_w eq (by rw [u4_w]; split <;> decide) (v4_w.trans u4_w.symm) (fun z => ?_) (fun z => ?_)
        · rw [u4_w] at z
          split at z <;> exact absurd z (by decide)
        · have h4 : pos_w (i + 1) - a ≤ 4 := by
            rw [u4_w] at z
            by_cases y : pos_w (i + 1) - a > 4
            · rw [if_pos y] at z
              rcases z with z | z <;> exact absurd z (by decide)
            · omega
          rw [v5 h4, u5 h4]
      · exact absurd u1 v1'
    · rcases ad with ⟨v1_w, -⟩ | ⟨v1_w, -⟩ | ⟨v1_w, v1', v3, v4_w, v5⟩
      · exact absurd v1_w u1
      · exact absurd v1_w u2_w
      · refine fin_w (v3.trans u3.symm) (by rw [u4_w]; split <;> decide) (v4_w.trans u4_w.symm) (fun z => ?_) (fun _ => v5.trans u5.symm)
        rw [u4_w] at z
        split at z <;> exact absurd z (by decide)
  · rcases ad with ⟨y1, y2, y3⟩ | ⟨y1, y2, -⟩
    · refine ⟨hb_w, y2.trans sN_w.symm, ⟨by rw [a4, pN, y1], by omega, by have := hb_w.2.1; omega⟩, fun z => ?_, fun z => ?_, Nat.le_refl _, fun _ => sN_w, fun z => absurd z (by omega)⟩
      · rw [sN_w] at z; exact absurd z (by decide)
      · rw [sN_w] at z
        rcases z with z | z <;> exact absurd z (by decide)
    · exact absurd (p3_w a (by omega) y1) y2
theorem TOK.rest (t : TOK b n N S P V) : RestT b n N S P V 0 0 := by
  obtain ⟨⟨pos_w, p0, p1_w, p2_w, p3_w⟩, s, p⟩ := t
  exact ⟨Nat.zero_le _, Nat.zero_le _, s, p, pos_w, p0, fun j _ z => p1_w j z, p2_w, p3_w⟩
theorem TC.ft (t : TC n N S P V i h) (f : ∀ o k : Nat, o = 2 ∨ o = 3 → h' o k = h o k) : TC n N S P V i h' := by
  obtain ⟨⟨b1, b2, b3⟩, t1_w, t2_w, t3_w, t4_w, t5_w, t6, t7⟩ := t
  have e3_w : h' 3 = h 3 := funext fun k => f 3 k (Or.inr rfl)
  have e : ∀ k, h' 2 k = h 2 k := fun k => f 2 k (Or.inl rfl)
  unfold TC BYT
  rw [e 1, e 2, e 3, e 4, e 5, e 6, e3_w]
  exact ⟨⟨b1, b2, b3⟩, t1_w, t2_w, t3_w, t4_w, t5_w, t6, t7⟩
theorem fsw_hit {c : Int} : ∀ (f k : Nat), (fsw c f k = 23 ∨ ∃ j : Nat, k ≤ j ∧ j < k + f ∧ fsw c f k = (j : Int) ∧ g_cW 0 j = c)
  | 0, _ => Or.inl rfl
  | f + 1, k => by
    rw [fsw]
    by_cases z : g_cW 0 k = c
    · rw [if_pos z]
      exact Or.inr ⟨k, Nat.le_refl _, by omega, rfl, z⟩
    · rw [if_neg z]
      rcases fsw_hit f (k + 1) with y | ⟨j, j1, j2_w, j3_w, j4_w⟩
      · exact Or.inl y
      · exact Or.inr ⟨j, by omega, by omega, j3_w, j4_w⟩
theorem fsw_own : (List.range 23).all (fun k => decide (fsw (g_cW 0 k) 24 0 = (k : Int))) = true := by decide +kernel
theorem fsw_iff {c : Int} {k : Nat} (hk : k < 23) : fsw c 24 0 = (k : Int) ↔ g_cW 0 k = c := by
  constructor
  · intro e
    rcases fsw_hit (c := c) 24 0 with y | ⟨j, j1, j2_w, j3_w, j4_w⟩
    · omega
    · have : j = k := by omega
      rw [← this]; exact j4_w
  · intro e
    rw [← e]
    exact of_decide_eq_true (List.all_eq_true.mp fsw_own k (List.mem_range.mpr hk))
/-- the reference's words -/
def wl (k : Nat) : Int := [36238189, 425693491, 6232410, 629093, 42328242873, 1858726030364, 24644941, 1178088, 1342154595, 918640, 679843, 38270444, 25433, 891704255789, 1722105685577, 320403, 392531318, 19741, 1891, 573, 628412, 629093, 979410, 660401].getD k 0
/-- the class's word for_w the reference's -/
def cw (w : Nat) : Nat := if w < 21 then w else if w = 21 then 3 else w - 1
theorem wl_ok : (List.range 24).all (fun w => decide (c5 9 (wl w) = g_cW 0 (cw w)) && decide (d5 9 (c5 9 (wl w)) = wl w) && decide (cw w < 23)) = true := by decide +kernel
theorem wl_at {w : Nat} (hw : w < 24) : c5 9 (wl w) = g_cW 0 (cw w) ∧ IsW (wl w) ∧ cw w < 23 := by
  have k := List.all_eq_true.mp wl_ok w (List.mem_range.mpr hw)
  rw [Bool.and_eq_true, Bool.and_eq_true] at k
  have e2_w : d5 9 (c5 9 (wl w)) = wl w := of_decide_eq_true k.1.2
  exact ⟨of_decide_eq_true k.1.1, e2_w, of_decide_eq_true k.2⟩
/-- a word here_w, in both_w -/
theorem TC.wd (t : TC n N S P V i h) {w : Nat} (hw : w < 24) : wrd (h 2 3) (h 2 6) = (cw w : Int) ↔ sWd S V wl w i := by
  obtain ⟨-, t1_w, -, t3_w, -⟩ := t
  obtain ⟨w1_w, w2_w, w3_w⟩ := wl_at hw
  unfold wrd
  rw [t1_w]
  by_cases z : S i = 1
  · obtain ⟨e, hi_w⟩ := t3_w z
    rw [if_pos z, e, fsw_iff w3_w]
    exact ⟨fun y => ⟨z, hi_w.inj w2_w (y.symm.trans w1_w.symm)⟩, fun y => by rw [y.2, w1_w]⟩
  · rw [if_neg z]
    exact ⟨fun y => by omega, fun y => absurd y.1 z⟩
theorem kept_ok : (List.range 24).all (fun o => decide (g_cW 1 o = 0) == decide (20 ≤ o)) = true := by decide +kernel
theorem wrd_b (s c : Int) : 0 ≤ wrd s c ∧ wrd s c < 24 := by
  unfold wrd
  split
  · rcases fsw_hit (c := c) 24 0 with y | ⟨j, j1, j2_w, j3_w, j4_w⟩
    · omega
    · omega
  · omega
/-- a name_w here_w, in both_w -/
theorem TC.nm (t : TC n N S P V i h) : (h 2 3 = 1 ∧ g_cW 1 (wrd (h 2 3) (h 2 6)).toNat = 0) ↔ isNm S V wl i := by
  obtain ⟨-, t1_w, -⟩ := id t
  have wb := wrd_b (h 2 3) (h 2 6)
  have k := List.all_eq_true.mp kept_ok (wrd (h 2 3) (h 2 6)).toNat (List.mem_range.mpr (by omega))
  rw [beq_iff_eq] at k
  have k1_w : g_cW 1 (wrd (h 2 3) (h 2 6)).toNat = 0 ↔ 20 ≤ (wrd (h 2 3) (h 2 6)).toNat := by
    constructor
    · intro z
      rw [decide_eq_true z] at k
      exact of_decide_eq_true k.symm
    · intro z
      rw [decide_eq_true z] at k
      exact of_decide_eq_true k
  rw [k1_w]
  have k2 : S i = 1 → (wHere S V wl 0 20 i < 0 ↔ 20 ≤ (wrd (h 2 3) (h 2 6)).toNat) := fun z => by
    constructor
    · intro y
      refine Nat.le_of_not_lt fun y2 => ?_
      have hw : (wrd (h 2 3) (h 2 6)).toNat < 24 := by omega
      have e : wrd (h 2 3) (h 2 6) = (cw (wrd (h 2 3) (h 2 6)).toNat : Int) := by
        unfold cw
        rw [if_pos (by omega)]
        omega
      have s := (t.wd hw).mp e
      have : 0 ≤ wHere S V wl 0 20 i := (lst_ge0 20).mpr ⟨(wrd (h 2 3) (h 2 6)).toNat, y2, decide_eq_true (by rw [Nat.zero_add]; exact s)⟩
      omega
    · intro y
      refine Int.not_le.mp fun y2 => ?_
      obtain ⟨w, w1_w, w2_w⟩ := (lst_ge0 20).mp y2
      have s : sWd S V wl (0 + w) i := of_decide_eq_true w2_w
      rw [Nat.zero_add] at s
      have e := (t.wd (w := w) (by omega)).mpr s
      have : cw w = w := by
        unfold cw
        rw [if_pos (by omega)]
      omega
  constructor
  · intro ⟨z1, z2⟩
    have z1' : S i = 1 := t1_w.symm.trans z1
    exact ⟨z1', (k2 z1').mpr z2⟩
  · intro ⟨z1, z2⟩
    exact ⟨t1_w.trans z1, (k2 z1).mp z2⟩
end TCS
