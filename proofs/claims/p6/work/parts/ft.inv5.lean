/-! ===== what lasts from call to call, the state_w told_w in both_w ===== -/
def J5 (h : XH) : Prop := ∃ D : DD, CDw 6 D h ∧ RF D h ∧ SM D h
def Inv5 (h : XH) : Prop := Inv3 h ∧ J5 h
section INV5
variable {xs : Nat → Int} {L K n : Nat} {c d : Nat} {h h' h1 h2 : XH} {D : DD}
theorem Inv5.four (i : Inv5 h) : Inv4 h := ⟨i.1, i.2.choose, i.2.choose_spec.1, i.2.choose_spec.2.1⟩
theorem inv5_i0 : Inv5 i0 := by
  obtain ⟨a, -⟩ := inv4_i0
  refine ⟨a, DD0, ?_, rf_i0, sm_i0⟩
  have p : ∀ k : Nat, k < 24 → i0 6 k = 0 ∧ i0 9 k = 0 ∧ i0 13 k = 0 := fun k z => by
    have t := List.all_eq_true.mp i_pl k (List.mem_range.mpr z)
    rw [Bool.and_eq_true, Bool.and_eq_true] at t
    exact ⟨of_decide_eq_true t.1.1, of_decide_eq_true t.1.2, of_decide_eq_true t.2⟩
  exact ⟨⟨⟨(p 10 (by decide)).1, (p 11 (by decide)).1, (p 12 (by decide)).1, by decide, by decide, by decide⟩, fun k v z => (by cases z), fun k v z => (by cases z), fun k v z => (by cases z), List.nodup_nil⟩, ⟨(p 9 (by decide)).1, by decide, by decide⟩, fun s z => (p s (by omega)).2.1, fun k x z => (by cases z), ⟨fun k x z => (by cases z), fun k z => (p k (by omega)).2.2⟩, fun z => absurd rfl z⟩
theorem feed_i5 (hK_w : 4294967300 ≤ K) {a b e : Int} (hI : Inv5 h) : ∃ (v : Int) (h1 h2 : XH), evF xs L g_ck K g_cW g_M (n + 2) 1 [0, a, b, e] ((a_g3, c, d), h) = some (1, [v], ((a_g3, c, d), h1)) ∧ evF xs L g_ck K g_cW g_M (n + 2) 183 [182, a, b, e] ((a_g3, c, d), h1) = some (1, [v], ((a_g3, c, d), h2)) ∧ Inv5 h2 := by
  obtain ⟨v, h1, h2, e1_w, e2_w, e3_w, e4_w⟩ := feed_i4 (xs := xs) (L := L) (K := K) (n := n) (c := c) (d := d) (a := a) (b := b) (e := e) hK_w hI.four
  obtain ⟨i3_w, D, cd, rf, sm_w⟩ := hI
  refine ⟨v, h1, h2, e1_w, e2_w, e3_w.1, D, cd.fr (fun o k a b => e4_w o k (by omega) (by omega) (by omega) (by omega)), rf.fr (funext fun k => e4_w 188 k (by decide) (by decide) (by decide) (by decide)) (funext fun k => e4_w 189 k (by decide) (by decide) (by decide) (by decide)) (funext fun k => e4_w 190 k (by decide) (by decide) (by decide) (by decide)), sm_w.fr ⟨e4_w 0 13 (by decide) (by decide) (by decide) (by decide), e4_w 0 14 (by decide) (by decide) (by decide) (by decide)⟩ (fun o k a b c => e4_w o k (by omega) (by omega) (by omega) (by omega)) (fun k z => e4_w 194 k (by decide) (by decide) (by decide) (by decide)) ?_ ⟨e4_w 195 0 (by decide) (by decide) (by decide) (by decide), e4_w 195 1 (by decide) (by decide) (by decide) (by decide)⟩⟩
  obtain ⟨-, fr⟩ := fr_all (n + 2) 183 [182, a, b, e] _ _ _ _ _ _ (by decide) rfl (Or.inr rfl) e2_w
  rw [fr 182 18 (fun _ => rfl) rfl]
  obtain ⟨hH, m0_w, m1_w, hm_w⟩ := i3_w.1.1
  obtain ⟨h1', e1', z1, e5_w⟩ := fqA (xs := xs) (L := L) (ck := g_ck) (cW := g_cW) (K := K) (n := n) (a := a) (b := b) (c := e) (g := (a_g3, c, d)) (h := h) (by omega) fg_1 fg_2 fg_3 fg_4 (by decide) rfl ⟨m0_w, m1_w⟩
  have u1 : h1' = h1 := by
    have t := e1'.symm.trans e1_w
    cases t
    rfl
  subst u1
  exact e5_w (fun x => x 182 18 = h 182 18) (fun x m s p => by
    unfold upA
    split
    · have t2_w : (2 : Int).toNat = 2 := rfl
      have t3_w : (3 : Int).toNat = 3 := rfl
      rw [up_ne (fun z => by have := z.1; omega), up_ne (fun z => by have := z.1; omega)]
      exact p
    · exact p) rfl
theorem grid_i5 (hK2 : 20000000000 ≤ K) (hn : n + 41 < 99999) (hI : Inv5 h) : ∃ (v : Int) (h1 h2 : XH), evF xs L g_ck K g_cW g_M (n + 41) 2 [0] ((a_g3, c, d), h) = some (1, [v], ((a_g3, c, d), h1)) ∧ evF xs L g_ck K g_cW g_M (n + 41) 206 [182] ((a_g3, c, d), h1) = some (1, [v], ((a_g3, c, d), h2)) ∧ Inv5 h2 := by
  obtain ⟨v, h1, h2, e1_w, e2_w, e3_w⟩ := grid_i3 (xs := xs) (L := L) (K := K) (c := c) (d := d) (n := n) hK2 hn hI.1
  refine ⟨v, h1, h2, e1_w, e2_w, e3_w, ?_⟩
  obtain ⟨⟨hI0, hS_w, hW⟩, D, cd, rf, sm_w⟩ := hI
  obtain ⟨hH, m0_w, m1_w, hm_w⟩ := hI0.1
  obtain ⟨v', h1', q1_w, q2_w, q3_w, q4_w⟩ := grid_ok (xs := xs) (L := L) (K := K) (c := c) (d := d) (n := n + 40) (by omega) (by omega) hH
  have u : h1' = h1 := by
    have t := q1_w.symm.trans e1_w
    cases t
    rfl
  subst u
  have hm2 : h1' 182 2 = (((h 2 1).toNat : Nat) : Int) := by rw [q4_w 182 2 (Nat.le_refl _), hm_w]; omega
  have hb1 : h 2 1 = (((h 2 1).toNat : Nat) : Int) := by omega
  have hb2 : (h 2 1).toNat ≤ 1000 := by omega
  have hb3 : ∀ k : Nat, k < (h 2 1).toNat → 0 ≤ h 3 k ∧ h 3 k ≤ 127 := fun k z => (hS_w k (by omega)).2
  have c206 : CS24 206 [182] h1' (fun k r h' => k = 1 → ∃ N S P V, TOK (h1' 183) (h 2 1).toNat N S P V ∧ ((∃ f, 0 < f ∧ sGrid S P V (h1' 187) 1001 DD0 0 = .error f ∧ KF h1' h' ∧ h' 194 = h1' 194 ∧ h' 195 = h1' 195 ∧ h' 182 18 = h1' 182 18) ∨ (∃ D, sGrid S P V (h1' 187) 1001 DD0 0 = .ok D ∧ RF D h' ∧ BGR D.2.2.2.2.1.length D.1.toNat h'))) := by
    rw [cs24_206, kk_206s]
    refine ⟨_, hm2, by omega, fun r h' ⟨N, S, P, V, a, b⟩ _ => ⟨N, S, P, V, a, ?_⟩⟩
    rcases b with ⟨f, f0_w, b1, -, b2, b3, -, b5, b6, -⟩ | ⟨D, b1, -, b2, b3⟩
    · exact Or.inl ⟨f, f0_w, b1, b2, b3, b5, b6⟩
    · exact Or.inr ⟨D, b1, b2, b3⟩
  obtain ⟨N, S, P, V, tok, er⟩ := (snd_24 (n + 41) _ _ _ _ _ c206 _ _ _ _ e2_w).2 rfl
  have eb : ∀ k : Nat, k < (h 2 1).toNat → h1' 183 k = h 3 k := fun k z => by
    rw [q4_w 183 k (by decide)]
    exact (hS_w k (by omega)).1.symm
  have tok2 : TOK (h 3) (h 2 1).toNat N S P V := tok.eq eb
  have ew : h1' 187 = wl := (funext fun k => q4_w 187 k (by decide)).trans hW
  rw [ew] at er
  have hE : ∀ f, sGrid S P V wl 1001 DD0 0 = .error f → f ≠ 0 := fun f z => by
    rcases er with ⟨f', f0_w, b1, -⟩ | ⟨D, b1, -⟩
    · rw [b1] at z
      cases z
      omega
    · rw [b1] at z
      cases z
  have c2 : CS24 2 [0] h (fun k r h' => k = 1 → ((∃ f, sGrid S P V wl 1001 DD0 0 = .error f ∧ (∀ o k : Nat, 3 ≤ o → ¬ (29 ≤ o ∧ o ≤ 51) → o ≠ 5 → h' o k = h o k) ∧ ∀ k : Nat, h' 0 k = h 0 k) ∨ (∃ D, sGrid S P V wl 1001 DD0 0 = .ok D ∧ CDw 6 D h' ∧ BGN D h'))) := by
    rw [cs24_2, kk_2s]
    refine ⟨((h 2 1).toNat, N, S, P, V), ?_, ⟨hb1, hb2, hb3⟩, tok2, tok.gd, hE, fun f h' z f1_w f0_w _ _ => Or.inl ⟨f, z, f1_w, f0_w⟩, fun D h' z _ _ cd' bg _ => Or.inr ⟨D, z, cd', bg⟩⟩
    have := tok.le
    show N ≤ 1000
    omega
  have ec := (snd_24 (n + 41) _ _ _ _ _ c2 _ _ _ _ e1_w).2 rfl
  obtain ⟨-, fr⟩ := fr_all (n + 41) 206 [182] _ _ _ _ _ _ (by decide) rfl (Or.inr rfl) e2_w
  have lo_w : ∀ o k : Nat, o < 182 → h2 o k = h1' o k := fun o k a => fr o k (fun z => by omega) (fr_lo (by decide) (by omega))
  rcases er with ⟨f, f0_w, b1, b2, b3, b4, b5⟩ | ⟨D', b1, b2, b3⟩
  · rcases ec with ⟨f', z1, z2, z3⟩ | ⟨D', z1, z2, z3⟩
    · have rf1 : RF D h1' := rf.fr (funext fun k => q4_w 188 k (by decide)) (funext fun k => q4_w 189 k (by decide)) (funext fun k => q4_w 190 k (by decide))
      have cl2 : ∀ o k : Nat, 52 ≤ o → o < 182 → h2 o k = h o k := fun o k a b => (lo_w o k b).trans (z2 o k (by omega) (by omega) (by omega))
      refine ⟨D, cd.fr (fun o k a b => (lo_w o k (by omega)).trans (z2 o k (by omega) (by omega) (by omega))), rf1.kf b2, sm_w.fr ⟨(lo_w 0 13 (by decide)).trans (z3 13), (lo_w 0 14 (by decide)).trans (z3 14)⟩ (fun o k a b c => cl2 o k (by omega) (by omega)) (fun k z => ?_) (b5.trans (q4_w 182 18 (by decide))) ⟨?_, ?_⟩⟩
      · rw [b3]
        exact q4_w 194 k (by decide)
      · rw [b4]
        exact q4_w 195 0 (by decide)
      · rw [b4]
        exact q4_w 195 1 (by decide)
    · rw [b1] at z1
      cases z1
  · rcases ec with ⟨f', z1, z2, -⟩ | ⟨D2, z1, z2, z3⟩
    · rw [b1] at z1
      cases z1
    · rw [b1] at z1
      cases z1
      obtain ⟨⟨l1, l2, l3, l4, l5⟩, -, n1_w, n2_w, n3_w, -⟩ := z3
      have cd2 : CDw 6 D' h2 := z2.fr (fun o k a b => lo_w o k (by omega))
      refine ⟨D', cd2, b2, SM.begin cd2 b2 ⟨fun k z => (lo_w _ _ (by decide)).trans (l1 k z), fun m x z s zs => (lo_w _ _ (by decide)).trans (l2 m x z s zs), fun s z => (lo_w _ _ (by decide)).trans ((l3 s z).trans (lo_w 9 s (by decide)).symm), (lo_w _ _ (by decide)).trans l4, (lo_w _ _ (by decide)).trans l5⟩ ((lo_w _ _ (by decide)).trans n1_w) ((lo_w _ _ (by decide)).trans n2_w) ((lo_w _ _ (by decide)).trans n3_w) b3⟩
end INV5
