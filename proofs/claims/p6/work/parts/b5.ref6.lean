/-! ===== contracts: the reference_w reads_w a line ===== -/
/-- what a draft's law_w is_w -/
def LW (o : Option (List Int)) (h : XH) : Prop := match o with
  | none => h 188 99 = -1 ∧ h 182 12 = 0
  | some l => h 188 99 = 0 ∧ h 182 12 = (l.length : Int) + 1 ∧ h 182 12 ≤ 1100 ∧ ∀ k v, (l ++ [0])[k]? = some v → h 189 (1100 + k) = v
/-- what a draft says_w -/
def RD (D : DD) (h : XH) : Prop := RN D h ∧ (h 188 95 = D.1 ∧ 0 ≤ D.1 ∧ D.1 ≤ 12) ∧ h 188 186 = ob (decide (D.1 ≠ 0)) D.2.1.isSome D.2.2.2.2.2.isSome ∧ (∀ s, s < 12 → h 188 (100 + s) = (D.2.1.getD []).getD s 0) ∧
  (∀ c x, D.2.2.1[c]? = some x → h 188 (112 + 14 * c) = x.2.1 ∧ h 188 (113 + 14 * c) = (x.2.2.length : Int) ∧ x.2.2.length ≤ 12 ∧ ∀ k v, x.2.2[k]? = some v → h 188 (114 + 14 * c + k) = v) ∧
  (∀ m x, D.2.2.2.2.1[m]? = some x → h 188 (168 + 3 * m) = x.2.1 ∧ h 188 (169 + 3 * m) = x.2.2.1 ∧ h 188 (170 + 3 * m) = x.2.2.2) ∧
  LW D.2.2.2.2.2 h
/-- what is_w in force is_w kept -/
def KF (h h' : XH) : Prop := (∀ q, q < 95 → h' 188 q = h 188 q) ∧ (∀ q, q < 1100 → h' 189 q = h 189 q) ∧ ∀ q, q < 14 → h' 190 q = h 190 q
def kLN (sp_w : (S P V W : Nat → Int) → DD → Nat → XZ (DD × Nat)) : KT := fun av h Q => match av with
  | [t] => t = 182 ∧ ∃ (N i : Nat) (D : DD), TK N h ∧ St N (.ok i) h ∧ i < N ∧ RD D h ∧ ∀ h', Fr ([7, 8, 12], [188, 189, 190]) h h' → KF h h' → St N (nx (sp_w (h 184) (h 185) (h 186) (h 187) D i)) h' → (∀ D' j, sp_w (h 184) (h 185) (h 186) (h 187) D i = .ok (D', j) → RD D' h') → Q 1 [] h'
  | _ => False
def k212 : KT := kLN sClass
def k213 : KT := kLN sMeter
def k210 : KT := kLN sLine
section KK6
variable {h h1 h2 h' : XH} {Q : Nat → List Int → XH → Prop} {d : Int} {N : Nat} {x : XZ Nat} {D : DD}
theorem kk_LN {sp_w : (S P V W : Nat → Int) → DD → Nat → XZ (DD × Nat)} : kLN sp_w [182] h Q = ∃ (N i : Nat) (D : DD), TK N h ∧ St N (.ok i) h ∧ i < N ∧ RD D h ∧ ∀ h', Fr ([7, 8, 12], [188, 189, 190]) h h' → KF h h' → St N (nx (sp_w (h 184) (h 185) (h 186) (h 187) D i)) h' → (∀ D' j, sp_w (h 184) (h 185) (h 186) (h 187) D i = .ok (D', j) → RD D' h') → Q 1 [] h' := propext ⟨fun a => a.2, fun a => ⟨rfl, a⟩⟩
theorem kk_212 : k212 [182] h Q = ∃ (N i : Nat) (D : DD), TK N h ∧ St N (.ok i) h ∧ i < N ∧ RD D h ∧ ∀ h', Fr ([7, 8, 12], [188, 189, 190]) h h' → KF h h' → St N (nx (sClass (h 184) (h 185) (h 186) (h 187) D i)) h' → (∀ D' j, sClass (h 184) (h 185) (h 186) (h 187) D i = .ok (D', j) → RD D' h') → Q 1 [] h' := kk_LN
theorem kk_213 : k213 [182] h Q = ∃ (N i : Nat) (D : DD), TK N h ∧ St N (.ok i) h ∧ i < N ∧ RD D h ∧ ∀ h', Fr ([7, 8, 12], [188, 189, 190]) h h' → KF h h' → St N (nx (sMeter (h 184) (h 185) (h 186) (h 187) D i)) h' → (∀ D' j, sMeter (h 184) (h 185) (h 186) (h 187) D i = .ok (D', j) → RD D' h') → Q 1 [] h' := kk_LN
theorem kk_210 : k210 [182] h Q = ∃ (N i : Nat) (D : DD), TK N h ∧ St N (.ok i) h ∧ i < N ∧ RD D h ∧ ∀ h', Fr ([7, 8, 12], [188, 189, 190]) h h' → KF h h' → St N (nx (sLine (h 184) (h 185) (h 186) (h 187) D i)) h' → (∀ D' j, sLine (h 184) (h 185) (h 186) (h 187) D i = .ok (D', j) → RD D' h') → Q 1 [] h' := kk_LN
theorem eB_ok {α β : Type} {x : XZ α} {f : α → XZ β} {b : β} (e : eB x f = .ok b) : ∃ a, x = .ok a ∧ f a = .ok b := by
  match x, e with
  | .ok a, e => exact ⟨a, rfl, e⟩
theorem eB_as {α β γ : Type} {x : XZ α} {f : α → XZ β} {g : β → XZ γ} : eB (eB x f) g = eB x fun a => eB (f a) g := by
  match x with
  | .ok a => rfl
  | .error e => rfl
theorem eB_pu {α β : Type} {a : α} {f : α → XZ β} : eB (.ok a) f = f a := rfl
theorem St.er {α : Type} {y : XZ (α × Nat)} {f : Int} (a : St N (nx y) h) (e : y = .error f) : h 182 8 = f ∧ 0 < f := by
  subst e
  exact a
end KK6
section RDS
variable {h h' : XH} {D : DD}
theorem ap_some {α : Type} {l : List α} {x y : α} {k : Nat} (e : (l ++ [x])[k]? = some y) : (k < l.length ∧ l[k]? = some y) ∨ (k = l.length ∧ y = x) := by
  by_cases z : k < l.length
  · rw [List.getElem?_append_left z] at e
    exact Or.inl ⟨z, e⟩
  · have q := (List.getElem?_eq_some_iff.mp e).1
    rw [List.length_append, List.length_singleton] at q
    obtain rfl : k = l.length := by omega
    rw [List.getElem?_append_right (Nat.le_refl _), Nat.sub_self] at e
    exact Or.inr ⟨rfl, (Option.some.inj e).symm⟩
theorem lt_of_some {α : Type} {l : List α} {y : α} {k : Nat} (e : l[k]? = some y) : k < l.length := (List.getElem?_eq_some_iff.mp e).1
theorem law_kp {o : Option (List Int)} (e9_w : h' 188 99 = h 188 99) (g5_w : h' 182 12 = h 182 12) (g6 : ∀ q, h' 189 q = h 189 q) (a : LW o h) : LW o h' := by
  match o, a with
  | none, a => exact ⟨e9_w.trans a.1, g5_w.trans a.2⟩
  | some l, a => exact ⟨e9_w.trans a.1, g5_w.trans a.2.1, by rw [g5_w]; exact a.2.2.1, fun k v z => (g6 _).trans (a.2.2.2 k v z)⟩
theorem RD.cls (rd : RD D h) (hn : D.2.2.1.length < 4) {v loss : Int} {l : List Int} (hl : l.length ≤ 12) (n0_w : ∀ k, h' 190 k = if k = 14 + D.2.2.1.length then v else h 190 k) (g0 : h' 188 (112 + 14 * D.2.2.1.length) = loss) (g1 : h' 188 (113 + 14 * D.2.2.1.length) = (l.length : Int)) (g2 : ∀ k w, l[k]? = some w → h' 188 (114 + 14 * D.2.2.1.length + k) = w) (g3_w : h' 188 96 = ((D.2.2.1.length + 1 : Nat) : Int)) (g4 : ∀ q, q ≠ 96 → (q < 112 + 14 * D.2.2.1.length ∨ 114 + 14 * D.2.2.1.length + l.length ≤ q) → h' 188 q = h 188 q) (g5_w : h' 182 12 = h 182 12) (g6 : ∀ q, h' 189 q = h 189 q) : RD (D.1, D.2.1, D.2.2.1 ++ [(v, loss, l)], D.2.2.2) h' := by
  obtain ⟨⟨⟨c1_w, c2, c3, l1, l2, l3⟩, r1_w, r2, r3⟩, ⟨s1_w, s2_w, s3_w⟩, b1, f1_w, k1_w, m1_w, w1_w⟩ := rd
  have hm_w : ∀ (k : Nat) (y : Int), ((D.2.2.1 ++ [(v, loss, l)]).map (·.1))[k]? = some y → h' 190 (14 + k) = y := fun k y e => by
    rw [List.map_append] at e
    rcases ap_some (x := v) e with ⟨q1_w, q2_w⟩ | ⟨q1_w, q2_w⟩
    · rw [List.length_map] at q1_w
      rw [n0_w, if_neg (by omega)]
      exact r1_w k y q2_w
    · rw [List.length_map] at q1_w
      rw [n0_w, if_pos (by omega), q2_w]
  refine ⟨⟨⟨?_, ?_, ?_, ?_, l2, l3⟩, hm_w, fun k y e => ?_, fun k y e => ?_⟩, ⟨?_, s2_w, s3_w⟩, ?_, fun s hs => ?_, fun c x e => ?_, fun m x e => ?_, law_kp (g4 99 (by decide) (by omega)) g5_w g6 w1_w⟩
  · rw [g3_w, List.length_append]; rfl
  · exact (g4 97 (by decide) (by omega)).trans c2
  · exact (g4 98 (by decide) (by omega)).trans c3
  · show (D.2.2.1 ++ [(v, loss, l)]).length ≤ 4
    rw [List.length_append, List.length_singleton]; omega
  · rw [n0_w, if_neg (by omega)]
    exact r2 k y e
  · rw [n0_w, if_neg (by omega)]
    exact r3 k y e
  · exact (g4 95 (by decide) (by omega)).trans s1_w
  · exact (g4 186 (by decide) (by omega)).trans b1
  · exact (g4 _ (by omega) (by omega)).trans (f1_w s hs)
  · rcases ap_some e with ⟨q1_w, q2_w⟩ | ⟨q1_w, q2_w⟩
    · obtain ⟨x1_w, x2_w, x3, x4_w⟩ := k1_w c x q2_w
      refine ⟨(g4 _ (by omega) (by omega)).trans x1_w, (g4 _ (by omega) (by omega)).trans x2_w, x3, fun k y z => ?_⟩
      have := lt_of_some z
      exact (g4 _ (by omega) (by omega)).trans (x4_w k y z)
    · subst q1_w q2_w
      exact ⟨g0, g1, hl, g2⟩
  · obtain ⟨x1_w, x2_w, x3⟩ := m1_w m x e
    have := lt_of_some e
    dsimp only at this
    exact ⟨(g4 _ (by omega) (by omega)).trans x1_w, (g4 _ (by omega) (by omega)).trans x2_w, (g4 _ (by omega) (by omega)).trans x3⟩
theorem RD.met (rd : RD D h) (hn : D.2.2.2.2.1.length < 6) {v a b c : Int} (n0_w : ∀ k, h' 190 k = if k = 22 + D.2.2.2.2.1.length then v else h 190 k) (g0 : h' 188 (168 + 3 * D.2.2.2.2.1.length) = a) (g1 : h' 188 (169 + 3 * D.2.2.2.2.1.length) = b) (g2 : h' 188 (170 + 3 * D.2.2.2.2.1.length) = c) (g3_w : h' 188 98 = ((D.2.2.2.2.1.length + 1 : Nat) : Int)) (g4 : ∀ q, q ≠ 98 → (q < 168 + 3 * D.2.2.2.2.1.length ∨ 171 + 3 * D.2.2.2.2.1.length ≤ q) → h' 188 q = h 188 q) (g5_w : h' 182 12 = h 182 12) (g6 : ∀ q, h' 189 q = h 189 q) : RD (D.1, D.2.1, D.2.2.1, D.2.2.2.1, D.2.2.2.2.1 ++ [(v, a, b, c)], D.2.2.2.2.2) h' := by
  obtain ⟨⟨⟨c1_w, c2, c3, l1, l2, l3⟩, r1_w, r2, r3⟩, ⟨s1_w, s2_w, s3_w⟩, b1, f1_w, k1_w, m1_w, w1_w⟩ := rd
  have hm_w : ∀ (k : Nat) (y : Int), ((D.2.2.2.2.1 ++ [(v, a, b, c)]).map (·.1))[k]? = some y → h' 190 (22 + k) = y := fun k y e => by
    rw [List.map_append] at e
    rcases ap_some (x := v) e with ⟨q1_w, q2_w⟩ | ⟨q1_w, q2_w⟩
    · rw [List.length_map] at q1_w
      rw [n0_w, if_neg (by omega)]
      exact r3 k y q2_w
    · rw [List.length_map] at q1_w
      rw [n0_w, if_pos (by omega), q2_w]
  refine ⟨⟨⟨?_, ?_, ?_, l1, l2, ?_⟩, fun k y e => ?_, fun k y e => ?_, hm_w⟩, ⟨?_, s2_w, s3_w⟩, ?_, fun s hs => ?_, fun c x e => ?_, fun m x e => ?_, law_kp (g4 99 (by decide) (by omega)) g5_w g6 w1_w⟩
  · exact (g4 96 (by decide) (by omega)).trans c1_w
  · exact (g4 97 (by decide) (by omega)).trans c2
  · rw [g3_w, List.length_append]; rfl
  · show (D.2.2.2.2.1 ++ [(v, a, b, c)]).length ≤ 6
    rw [List.length_append, List.length_singleton]; omega
  · have := lt_of_some e
    rw [List.length_map] at this
    dsimp only at this
    rw [n0_w, if_neg (by omega)]
    exact r1_w k y e
  · have := lt_of_some e
    dsimp only at this
    rw [n0_w, if_neg (by omega)]
    exact r2 k y e
  · exact (g4 95 (by decide) (by omega)).trans s1_w
  · exact (g4 186 (by decide) (by omega)).trans b1
  · exact (g4 _ (by omega) (by omega)).trans (f1_w s hs)
  · have := lt_of_some e
    dsimp only at this
    obtain ⟨x1_w, x2_w, x3, x4_w⟩ := k1_w c x e
    refine ⟨(g4 _ (by omega) (by omega)).trans x1_w, (g4 _ (by omega) (by omega)).trans x2_w, x3, fun k y z => ?_⟩
    have := lt_of_some z
    exact (g4 _ (by omega) (by omega)).trans (x4_w k y z)
  · rcases ap_some e with ⟨q1_w, q2_w⟩ | ⟨q1_w, q2_w⟩
    · obtain ⟨x1_w, x2_w, x3⟩ := m1_w m x q2_w
      exact ⟨(g4 _ (by omega) (by omega)).trans x1_w, (g4 _ (by omega) (by omega)).trans x2_w, (g4 _ (by omega) (by omega)).trans x3⟩
    · subst q1_w q2_w
      exact ⟨g0, g1, g2⟩
theorem RD.sup (rd : RD D h) (hn : D.2.2.2.1.length < 4) {v : Int} (n0_w : ∀ k, h' 190 k = if k = 18 + D.2.2.2.1.length then v else h 190 k) (g3_w : h' 188 97 = ((D.2.2.2.1.length + 1 : Nat) : Int)) (g4 : ∀ q, q ≠ 97 → h' 188 q = h 188 q) (g5_w : h' 182 12 = h 182 12) (g6 : ∀ q, h' 189 q = h 189 q) : RD (D.1, D.2.1, D.2.2.1, D.2.2.2.1 ++ [v], D.2.2.2.2) h' := by
  obtain ⟨⟨⟨c1_w, c2, c3, l1, l2, l3⟩, r1_w, r2, r3⟩, ⟨s1_w, s2_w, s3_w⟩, b1, f1_w, k1_w, m1_w, w1_w⟩ := rd
  refine ⟨⟨⟨?_, ?_, ?_, l1, ?_, l3⟩, fun k y e => ?_, fun k y e => ?_, fun k y e => ?_⟩, ⟨?_, s2_w, s3_w⟩, ?_, fun s hs => ?_, fun c x e => ?_, fun m x e => ?_, law_kp (g4 99 (by decide)) g5_w g6 w1_w⟩
  · exact (g4 96 (by decide)).trans c1_w
  · rw [g3_w, List.length_append]; rfl
  · exact (g4 98 (by decide)).trans c3
  · show (D.2.2.2.1 ++ [v]).length ≤ 4
    rw [List.length_append, List.length_singleton]; omega
  · have := lt_of_some e
    rw [List.length_map] at this
    dsimp only at this
    rw [n0_w, if_neg (by omega)]
    exact r1_w k y e
  · rcases ap_some e with ⟨q1_w, q2_w⟩ | ⟨q1_w, q2_w⟩
    · rw [n0_w, if_neg (by omega)]
      exact r2 k y q2_w
    · rw [n0_w, if_pos (by omega), q2_w]
  · have := lt_of_some e
    dsimp only at this
    rw [n0_w, if_neg (by omega)]
    exact r3 k y e
  · exact (g4 95 (by decide)).trans s1_w
  · exact (g4 186 (by decide)).trans b1
  · exact (g4 _ (by omega)).trans (f1_w s hs)
  · obtain ⟨x1_w, x2_w, x3, x4_w⟩ := k1_w c x e
    exact ⟨(g4 _ (by omega)).trans x1_w, (g4 _ (by omega)).trans x2_w, x3, fun k y z => (g4 _ (by omega)).trans (x4_w k y z)⟩
  · obtain ⟨x1_w, x2_w, x3⟩ := m1_w m x e
    exact ⟨(g4 _ (by omega)).trans x1_w, (g4 _ (by omega)).trans x2_w, (g4 _ (by omega)).trans x3⟩
/-- the names_w as_w they were, the numbers_w but one -/
theorem RD.num (rd : RD D h) {D' : DD} (hD : D'.2.2.1 = D.2.2.1 ∧ D'.2.2.2.1 = D.2.2.2.1 ∧ D'.2.2.2.2.1 = D.2.2.2.2.1) (n0_w : ∀ k, h' 190 k = h 190 k) (hs : h' 188 95 = D'.1 ∧ 0 ≤ D'.1 ∧ D'.1 ≤ 12) (hb_w : h' 188 186 = ob (decide (D'.1 ≠ 0)) D'.2.1.isSome D'.2.2.2.2.2.isSome) (hf : ∀ s, s < 12 → h' 188 (100 + s) = (D'.2.1.getD []).getD s 0) (g4 : ∀ q, q ≠ 95 → q ≠ 186 → q ≠ 99 → (q < 100 ∨ 112 ≤ q) → h' 188 q = h 188 q) (hw : LW D'.2.2.2.2.2 h') : RD D' h' := by
  obtain ⟨⟨⟨c1_w, c2, c3, l1, l2, l3⟩, r1_w, r2, r3⟩, ⟨s1_w, s2_w, s3_w⟩, b1, f1_w, k1_w, m1_w, w1_w⟩ := rd
  obtain ⟨d1_w, d2_w, d3_w⟩ := hD
  refine ⟨⟨⟨?_, ?_, ?_, ?_, ?_, ?_⟩, fun k y e => ?_, fun k y e => ?_, fun k y e => ?_⟩, hs, hb_w, hf, fun c x e => ?_, fun m x e => ?_, hw⟩
  · rw [d1_w]; exact (g4 96 (by decide) (by decide) (by decide) (by decide)).trans c1_w
  · rw [d2_w]; exact (g4 97 (by decide) (by decide) (by decide) (by decide)).trans c2
  · rw [d3_w]; exact (g4 98 (by decide) (by decide) (by decide) (by decide)).trans c3
  · rw [d1_w]; exact l1
  · rw [d2_w]; exact l2
  · rw [d3_w]; exact l3
  · rw [d1_w] at e; exact (n0_w _).trans (r1_w k y e)
  · rw [d2_w] at e; exact (n0_w _).trans (r2 k y e)
  · rw [d3_w] at e; exact (n0_w _).trans (r3 k y e)
  · rw [d1_w] at e
    obtain ⟨x1_w, x2_w, x3, x4_w⟩ := k1_w c x e
    have := lt_of_some e
    refine ⟨(g4 _ (by omega) (by omega) (by omega) (by omega)).trans x1_w, (g4 _ (by omega) (by omega) (by omega) (by omega)).trans x2_w, x3, fun k y z => ?_⟩
    have := lt_of_some z
    exact (g4 _ (by omega) (by omega) (by omega) (by omega)).trans (x4_w k y z)
  · rw [d3_w] at e
    obtain ⟨x1_w, x2_w, x3⟩ := m1_w m x e
    have := lt_of_some e
    exact ⟨(g4 _ (by omega) (by omega) (by omega) (by omega)).trans x1_w, (g4 _ (by omega) (by omega) (by omega) (by omega)).trans x2_w, (g4 _ (by omega) (by omega) (by omega) (by omega)).trans x3⟩
end RDS
