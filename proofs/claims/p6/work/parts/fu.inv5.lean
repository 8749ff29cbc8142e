/-! ===== work over Inv5 ===== -/
section INV5B
variable {xs : Nat → Int} {L K n : Nat} {c d : Nat} {h h' h1 h2 : XH} {D : DD}
theorem work_i5 (hK2 : 20000000000 ≤ K) (hn : n + 41 < 99999) (hI : Inv5 h) : ∃ (v : Int) (h1 h2 : XH), evF xs L g_ck K g_cW g_M (n + 41) 4 [0] ((a_g3, c, d), h) = some (1, [v], ((a_g3, c, d), h1)) ∧ evF xs L g_ck K g_cW g_M (n + 41) 214 [182] ((a_g3, c, d), h1) = some (1, [v], ((a_g3, c, d), h2)) ∧ Inv5 h2 := by
  obtain ⟨v1_w, v2, h1, h2, e1_w, e2_w, e3_w⟩ := work_i3 (xs := xs) (L := L) (K := K) (c := c) (d := d) (n := n) hK2 hn hI.1
  obtain ⟨⟨hI0, hS_w, hW⟩, D, cd, rf, sm_w⟩ := hI
  obtain ⟨hH, m0_w, m1_w, hm_w⟩ := hI0.1
  obtain ⟨v, h1', q1_w, q2_w, q3_w, q4_w⟩ := work_ok (xs := xs) (L := L) (K := K) (c := c) (d := d) (n := n + 40) (by omega) (by omega) hH
  have u : v1_w = [v] ∧ h1' = h1 := by
    have t := q1_w.symm.trans e1_w
    cases t
    exact ⟨rfl, rfl⟩
  obtain ⟨rfl, u⟩ := u
  subst u
  have hm2 : h1' 182 2 = (((h 2 1).toNat : Nat) : Int) := by rw [q4_w 182 2 (Nat.le_refl _), hm_w]; omega
  have hb1 : h 2 1 = (((h 2 1).toNat : Nat) : Int) := by omega
  have hb2 : (h 2 1).toNat ≤ 1000 := by omega
  have hb3 : ∀ k : Nat, k < (h 2 1).toNat → 0 ≤ h 3 k ∧ h 3 k ≤ 127 := fun k z => (hS_w k (by omega)).2
  have rf1 : RF D h1' := rf.fr (funext fun k => q4_w 188 k (by decide)) (funext fun k => q4_w 189 k (by decide)) (funext fun k => q4_w 190 k (by decide))
  have c214 : CS28 214 [182] h1' (fun k r h' => k = 1 → Fr ([0, 2, 3, 7, 8], [184, 185, 186, 191]) h1' h' ∧ ∃ N S P V, TOK (h1' 183) (h 2 1).toNat N S P V ∧ ((∃ f, 0 < f ∧ sWork S P V (h1' 187) D 32 [] 0 = .error f ∧ r = [f]) ∨ (∃ L, sWork S P V (h1' 187) D 32 [] 0 = .ok L ∧ r = [0]))) := by
    rw [cs28_214, kk_214]
    refine ⟨_, D, hm2, by omega, rf1, fun r h' fr ⟨N, S, P, V, a, b⟩ _ => ⟨fr, N, S, P, V, a, ?_⟩⟩
    rcases b with ⟨f, f0_w, b1, b2, -⟩ | ⟨L, b1, b2, -⟩
    · exact Or.inl ⟨f, f0_w, b1, by rw [b2]⟩
    · exact Or.inr ⟨L, b1, by rw [b2]⟩
  obtain ⟨fr, N, S, P, V, tok, er⟩ := (snd_28 (n + 41) _ _ _ _ _ c214 _ _ _ _ e2_w).2 rfl
  have eb : ∀ k : Nat, k < (h 2 1).toNat → h1' 183 k = h 3 k := fun k z => by
    rw [q4_w 183 k (by decide)]
    exact (hS_w k (by omega)).1.symm
  have tok2 : TOK (h 3) (h 2 1).toNat N S P V := tok.eq eb
  have ew : h1' 187 = wl := (funext fun k => q4_w 187 k (by decide)).trans hW
  rw [ew] at er
  have hE : ∀ f, sWork S P V wl D 32 [] 0 = .error f → f ≠ 0 := fun f z => by
    rcases er with ⟨f', f0_w, b1, -⟩ | ⟨L, b1, -⟩
    · rw [b1] at z
      cases z
      omega
    · rw [b1] at z
      cases z
  have c4 : CS28 4 [0] h (fun k r h' => k = 1 → FWx h h' ∧ ((∃ f, sWork S P V wl D 32 [] 0 = .error f ∧ r = [f]) ∨ (∃ L, sWork S P V wl D 32 [] 0 = .ok L ∧ r = [0]))) := by
    rw [cs28_4, kk_4]
    refine ⟨((h 2 1).toNat, N, S, P, V), D, ?_, ⟨hb1, hb2, hb3⟩, tok2, cd, hE, fun f h' z f1_w _ _ _ _ => ⟨f1_w, Or.inl ⟨f, z, rfl⟩⟩, fun L h' z f1_w _ _ _ => ⟨f1_w, Or.inr ⟨L, z, rfl⟩⟩⟩
    have := tok.le
    show N ≤ 1000
    omega
  obtain ⟨fx, ec⟩ := (snd_28 (n + 41) _ _ _ _ _ c4 _ _ _ _ e1_w).2 rfl
  have ev_w : v2 = [v] := by
    rcases er with ⟨f, f0_w, b1, b2⟩ | ⟨L, b1, b2⟩
    · rcases ec with ⟨f', z1, z2⟩ | ⟨L', z1, z2⟩
      · rw [b1] at z1
        cases z1
        rw [b2, z2]
      · rw [b1] at z1
        cases z1
    · rcases ec with ⟨f', z1, z2⟩ | ⟨L', z1, z2⟩
      · rw [b1] at z1
        cases z1
      · rw [b2, z2]
  subst ev_w
  have lo_w : ∀ o k : Nat, o < 182 → h2 o k = h1' o k := fun o k a => fr o k (fun z => by omega) (by
    rw [List.contains_eq_mem, decide_eq_false_iff_not]
    simp only [List.mem_cons, List.not_mem_nil, or_false]
    omega)
  have lx : ∀ o k : Nat, (6 ≤ o ∧ o ≤ 24) ∨ (70 ≤ o ∧ o < 182) ∨ o = 0 → h2 o k = h o k := fun o k a => (lo_w o k (by omega)).trans (fx o k (by omega))
  exact ⟨v, h1', h2, e1_w, e2_w, e3_w, D, cd.fr (fun o k a b => lx o k (by omega)), rf1.fr (fr.row rfl (by decide)) (fr.row rfl (by decide)) (fr.row rfl (by decide)), sm_w.fr ⟨lx 0 13 (by omega), lx 0 14 (by omega)⟩ (fun o k a b c => lx o k (by omega)) (fun k z => (fr 194 k (fun y => absurd y (by decide)) rfl).trans (q4_w 194 k (by decide))) ((fr 182 18 (fun _ => rfl) rfl).trans (q4_w 182 18 (by decide))) ⟨(fr 195 0 (fun y => absurd y (by decide)) rfl).trans (q4_w 195 0 (by decide)), (fr 195 1 (fun y => absurd y (by decide)) rfl).trans (q4_w 195 1 (by decide))⟩⟩
end INV5B
