/-! ===== the third reading: all statements ===== -/
def TotC (T : TT) (g : XS × Nat × Nat) (ro : Nat → Nat → Bool) (z : Nat → Int) (rt : List Nat) (thr : Bool) (τ : List Nat) (o : TO) (A : XR) : Prop :=
  ∀ (v : Int) (en : List Int) (h : XH), VL z g.1 τ en → HT T.1 g.1 h → ∃ c vals en' g' h', A (v :: en) (g, h) = some (c, vals, en', (g', h')) ∧ HT T.1 g.1 h' ∧ FR ro h h' ∧ OutS g g' z rt thr o c vals en'
section TYU
variable {xs : Nat → Int} {L K : Nat} {ck : Nat → List Nat} {F : XP} {cW : Nat → Nat → Int} {T : TT} {g : XS × Nat × Nat} {ro : Nat → Nat → Bool} {z : Nat → Int} {rt : List Nat} {thr : Bool} {τ : List Nat} {o q r : TO}
theorem st_skip : TotS T g ro z rt thr τ (some τ, none, none) (fun en st => some (0, [], en, st)) := fun en h hv hH => ⟨0, [], en, g, h, rfl, hH, FR.rf, Or.inl ⟨rfl, rfl, τ, rfl, hv⟩⟩
theorem st_mono {A : XR} (hle : leO o q) (hA : TotS T g ro z rt thr τ o A) : TotS T g ro z rt thr τ q A := fun en h hv hH => by
  obtain ⟨c, vals, en', g', h', e1, e2, e3, e4⟩ := hA en h hv hH
  exact ⟨c, vals, en', g', h', e1, e2, e3, e4.mono hle⟩
theorem st_seq {A B : XR} (hA : TotS T g ro z rt thr τ o A) (hB : ∀ τ1, o.1 = some τ1 → TotS T g ro z rt thr τ1 q B) (hl : leO (none, o.2) r) (hr : o.1 ≠ none → leO q r) : TotS T g ro z rt thr τ r (s_seq A B) := by
  intro en h hv hH
  obtain ⟨c, vals, en', g', h', e1, e2, e3, e4⟩ := hA en h hv hH
  unfold s_seq
  rw [e1, Option.bind_some]
  dsimp only
  rcases e4 with ⟨rfl, rfl, τ1, k1, k2⟩ | ⟨rfl, k⟩ | ⟨rfl, k⟩ | ⟨rfl, k⟩ | ⟨rfl, k⟩
  · rw [if_pos rfl]
    obtain ⟨c, vals, en2, g2, h2, f1, f2, f3, f4⟩ := hB τ1 k1 en' h' k2 e2
    exact ⟨c, vals, en2, g2, h2, f1, f2, e3.tr f3, f4.mono (hr (by rw [k1]; exact fun e => by cases e))⟩
  · exact ⟨1, vals, en', g', h', rfl, e2, e3, OutS.mono hl (Or.inr (Or.inl ⟨rfl, k⟩))⟩
  · exact ⟨2, vals, en', g', h', rfl, e2, e3, OutS.mono hl (Or.inr (Or.inr (Or.inl ⟨rfl, k⟩)))⟩
  · exact ⟨3, vals, en', g', h', rfl, e2, e3, OutS.mono hl (Or.inr (Or.inr (Or.inr (Or.inl ⟨rfl, k⟩))))⟩
  · exact ⟨4, vals, en', g', h', rfl, e2, e3, OutS.mono hl (Or.inr (Or.inr (Or.inr (Or.inr ⟨rfl, k⟩))))⟩
theorem st_if {A : XE} {B C : XR} {t : Nat} (hA : TotE T g ro z τ [t] A) (hB : TotS T g ro z rt thr τ o B) (hC : TotS T g ro z rt thr τ q C) (h1 : leO o r) (h2 : leO q r) : TotS T g ro z rt thr τ r (s_if A B C) := by
  intro en h hv hH
  obtain ⟨v, h', e1, e2, e3, e4⟩ := te_one hA hv hH
  unfold s_if
  rw [e1, Option.bind_some]
  dsimp only
  by_cases h0 : j_hd [v] = 0
  · rw [if_pos h0]
    obtain ⟨c, vals, en2, g2, h2', f1, f2, f3, f4⟩ := hC en h' hv e2
    exact ⟨c, vals, en2, g2, h2', f1, f2, e3.tr f3, f4.mono h2⟩
  · rw [if_neg h0]
    obtain ⟨c, vals, en2, g2, h2', f1, f2, f3, f4⟩ := hB en h' hv e2
    exact ⟨c, vals, en2, g2, h2', f1, f2, e3.tr f3, f4.mono h1⟩
theorem st_brk : TotS T g ro z rt thr τ (none, some τ, none) (fun en st => some (2, [], en, st)) := fun en h hv hH => ⟨2, [], en, g, h, rfl, hH, FR.rf, Or.inr (Or.inr (Or.inl ⟨rfl, rfl, τ, rfl, hv⟩))⟩
theorem st_cnt : TotS T g ro z rt thr τ (none, none, some τ) (fun en st => some (3, [], en, st)) := fun en h hv hH => ⟨3, [], en, g, h, rfl, hH, FR.rf, Or.inr (Or.inr (Or.inr (Or.inl ⟨rfl, rfl, τ, rfl, hv⟩)))⟩
theorem first_some {A : Option (List Nat)} {x : Option TO} (h : ty_first A x = some o) : A = some [t_one A] ∧ x = some o := by
  obtain ⟨h1, h2⟩ := j_ifx h
  exact ⟨t_one_some rfl (isI_0 h1), h2⟩
/-- where a number may be written -/
def WK (T : TT) (g : XS) (ro : Nat → Nat → Bool) : Prop := ∀ ci k, T.2.2.2.2 ci k = true → ∀ (o : Nat) (c : XC), g[o]? = some c → c.1 = 10 + ci → ro o k = false
theorem st_put {A B : XE} {ta tb k : Nat} (hW : WK T g.1 ro) (hA : TotE T g ro z τ [ta] A) (hB : TotE T g ro z τ [tb] B) (h1 : 10 ≤ ta) (h2 : ta < 100) (h3 : T.2.2.2.2 (ta - 10) k = true) (f : XT → Int → Int → Int)
    (hf : ∀ (st : XT) v w, TV z g.1 tb w → ((T.1 (ta - 10)).getD k 0 = 1 → InI (f st v w)) ∧ ((T.1 (ta - 10)).getD k 0 = 2 → InL (f st v w)) ∧ ((T.1 (ta - 10)).getD k 0 = 100 → f st v w = 0 ∨ f st v w = 1)) {S : XR}
    (hS : ∀ en (st st1 st2 : XT) v w, A en st = some ([v], st1) → B en st1 = some ([w], st2) → TV z g.1 tb w → S en st = some (0, [], en, (st2.1, j_up st2.2 v.toNat k (f st1 v w)))) : TotS T g ro z rt thr τ (some τ, none, none) S := by
  intro en h hv hH
  obtain ⟨v, ha, a1, a2, a3, a4⟩ := te_one hA hv hH
  obtain ⟨w, hb, b1, b2, b3, b4⟩ := te_one hB hv a2
  obtain ⟨v0, cc, hc, hk⟩ := a4.2.2.2.2.1 (by omega) h2
  have ht := o_ty (fk := T.1) (k := k) (ci := ta - 10) hc (by omega)
  obtain ⟨q1, q2, q3⟩ := hf (g, ha) v w b4
  refine ⟨0, [], en, g, _, hS en _ _ _ v w a1 b1 b4, ?_, (a3.tr b3).tr (FR.up (hW _ _ h3 _ cc hc (by omega))), Or.inl ⟨rfl, rfl, τ, rfl, hv⟩⟩
  exact b2.up (by rw [ht]; exact q1) (by rw [ht]; exact q2) (by rw [ht]; exact q3)
theorem st_sw {A : XE} {B : XR} {t : Nat} {e : Option (List Nat)} (hA : TotE T g ro z τ [t] A) (hB : TotC T g ro z rt thr τ o B) (hj : t_join o.1 o.2.1 = some e) : TotS T g ro z rt thr τ (e, none, o.2.2) (s_sw A B) := by
  intro en h hv hH
  obtain ⟨v, h', e1, e2, e3, e4⟩ := te_one hA hv hH
  obtain ⟨c, vals, en2, g2, h2, f1, f2, f3, f4⟩ := hB v en h' hv e2
  unfold s_sw
  rw [e1, Option.bind_some]
  dsimp only
  have f1' : B (j_hd [v] :: en) (g, h') = some (c, vals, en2, (g2, h2)) := f1
  rw [f1', Option.bind_some]
  dsimp only
  rcases f4 with ⟨rfl, rfl, τ1, k1, k2⟩ | ⟨rfl, k⟩ | ⟨rfl, rfl, τ1, k1, k2⟩ | ⟨rfl, k⟩ | ⟨rfl, k⟩
  · obtain ⟨τ2, j1, j2⟩ := join_l hj k1
    exact ⟨0, vals, en2, g2, h2, rfl, f2, e3.tr f3, Or.inl ⟨rfl, rfl, τ2, j1, VL.sub j2 k2⟩⟩
  · exact ⟨1, vals, en2, g2, h2, rfl, f2, e3.tr f3, Or.inr (Or.inl ⟨rfl, k⟩)⟩
  · obtain ⟨τ2, j1, j2⟩ := join_r hj k1
    exact ⟨0, vals, en2, g2, h2, rfl, f2, e3.tr f3, Or.inl ⟨rfl, rfl, τ2, j1, VL.sub j2 k2⟩⟩
  · exact ⟨3, vals, en2, g2, h2, rfl, f2, e3.tr f3, Or.inr (Or.inr (Or.inr (Or.inl ⟨rfl, k⟩)))⟩
  · exact ⟨4, vals, en2, g2, h2, rfl, f2, e3.tr f3, Or.inr (Or.inr (Or.inr (Or.inr ⟨rfl, k⟩)))⟩
theorem st_case {l : List Nat} {B C : XR} (hB : TotS T g ro z rt thr τ o B) (h0 : o.1 = none) (hC : TotC T g ro z rt thr τ q C) (h1 : leO o r) (h2 : leO q r) : TotC T g ro z rt thr τ r (fun en st => if l.any (fun n => decide (en.headD 0 = sx_z n)) then (B en.tail st).bind fun r => if r.1 = 0 then none else some r else C en st) := by
  intro v en h hv hH
  dsimp only
  split
  · obtain ⟨c, vals, en2, g2, h2', f1, f2, f3, f4⟩ := hB en h hv hH
    have hc : c ≠ 0 := by
      rintro rfl
      rcases f4 with ⟨-, -, τ1, k1, -⟩ | ⟨k, -⟩ | ⟨k, -⟩ | ⟨k, -⟩ | ⟨k, -⟩
      · rw [h0] at k1; cases k1
      · cases k
      · cases k
      · cases k
      · cases k
    refine ⟨c, vals, en2, g2, h2', ?_, f2, f3, f4.mono h1⟩
    show ((B en (g, h)).bind _) = _
    rw [f1, Option.bind_some]
    exact if_neg hc
  · obtain ⟨c, vals, en2, g2, h2', f1, f2, f3, f4⟩ := hC v en h hv hH
    exact ⟨c, vals, en2, g2, h2', f1, f2, f3, f4.mono h2⟩
theorem inc_ok {c : SX} {i : Nat} {u : Bool} (h : lp_inc c = some (i, u)) : ∀ en st, evS xs L ck F K cW c en st = some (0, [], en.set i (j32 (en.getD i 0 + dir u)), st) := by
  unfold lp_inc at h
  split at h
  · rename_i j k
    cases h
    intro en st
    show some (0, [], en.set i (j32 (en.getD i 0 + (if k = 0 then ((1 : Nat) : Int) else -((1 : Nat) : Int)))), st) = _
    unfold dir
    by_cases hk : k = 0
    · rw [if_pos hk, if_pos (by simpa using hk)]
      rfl
    · rw [if_neg hk, if_neg (by simpa using hk)]
      rfl
  · cases h
theorem step_ok {b c : SX} {i : Nat} {u c3 : Bool} (h : lp_step b c = some (i, u, c3)) : (c3 = true → ∀ en st, evS xs L ck F K cW c en st = some (0, [], en.set i (j32 (en.getD i 0 + dir u)), st)) ∧ (c3 = false → ∀ en st, evS xs L ck F K cW b en st = some (0, [], en.set i (j32 (en.getD i 0 + dir u)), st)) ∧ (c3 = false → ∀ en st, evS xs L ck F K cW c en st = some (0, [], en, st)) := by
  unfold lp_step at h
  split at h
  · rename_i i' u' hi
    cases h
    exact ⟨fun _ => inc_ok hi, fun e => (by cases e), fun e => (by cases e)⟩
  · split at h
    · split at h
      · rename_i b' _ _
        obtain ⟨q, hq, h⟩ := Option.map_eq_some_iff.mp h
        obtain ⟨i', u'⟩ := q
        cases h
        exact ⟨fun e => (by cases e), fun _ en st => show evS xs L ck F K cW b' en st = _ from inc_ok hq en st, fun _ _ _ => rfl⟩
      · cases h
    · cases h
end TYU
