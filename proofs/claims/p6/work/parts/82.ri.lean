/-! ===== the fourth reading_w: what the reference's cells_w hold ===== -/
/-- tables_w: fields_w of the reference_w; its arrays' objects by field_w; arrays_w by object; which objects are written_w; what methods take, give, what a true answer_w says_w of what they took; which may_w be called_w -/
abbrev QT : Type := (Nat → IT) × (Nat → Nat) × (Nat → RG) × (Nat → Bool) × (Nat → List IT) × (Nat → List IT) × (Nat → List IT) × (Nat → Bool)
abbrev qF (T : QT) : Nat → IT := T.1
abbrev qO (T : QT) : Nat → Nat := T.2.1
abbrev qA (T : QT) : Nat → RG := T.2.2.1
abbrev qW (T : QT) : Nat → Bool := T.2.2.2.1
abbrev qP (T : QT) : Nat → List IT := T.2.2.2.2.1
abbrev qR (T : QT) : Nat → List IT := T.2.2.2.2.2.1
abbrev qU (T : QT) : Nat → List IT := T.2.2.2.2.2.2.1
abbrev qC (T : QT) : Nat → Bool := T.2.2.2.2.2.2.2
/-- the kind of an array's cells_w -/
def r_kd (q : Nat) : Nat := bif q == 203 then 0 else match a_g3[q]? with
  | some (6, _) => 1
  | some (7, _) => 2
  | some (9, _) => 100
  | _ => 0
/-- the last_w of some numbers_w -/
def j_ls (r : List Int) : Int := r.getLastD 0
theorem j_ls1 {v : Int} : j_ls [v] = v := rfl
def RI (P : Int × Int) (T : QT) (J : XH → Prop) (h : XH) : Prop := (∀ k, IV P (qF T k) (h 182 k)) ∧ (∀ q, 183 ≤ q → AInv P (qA T q) (h q)) ∧ J h
/-- cells_w that are not written_w -/
def KR (T : QT) (h h' : XH) : Prop := ∀ o k, qW T o = false → h' o k = h o k
def JS (T : QT) (J : XH → Prop) : Prop := ∀ h h', KR T h h' → J h → J h'
/-- what is_w said_w of the tables_w by themselves -/
def RTab (T : QT) : Prop := (∀ k, ((qF T k).1 = 1 → c_ty g_fk a_g3 182 k = 1) ∧ ((qF T k).1 = 2 → c_ty g_fk a_g3 182 k = 2)) ∧ (∀ k, qO T k ≠ 0 → j_rf a_g3 182 k = some (qO T k : Int)) ∧
  (∀ q, 183 ≤ q → q ≤ 202 → j_len a_g3 q = ((qA T q).1 : Int) ∧ ar_cov (qA T q) = true ∧ ar_ok (qA T q) = true ∧ (∀ k, c_ty g_fk a_g3 q k = r_kd q)) ∧ qW T 182 = true
section RIS
variable {P : Int × Int} {T : QT} {J : XH → Prop}
theorem KR.rf {h : XH} : KR T h h := fun _ _ _ => rfl
theorem KR.tr {h h1 h2 : XH} (a : KR T h h1) (b : KR T h1 h2) : KR T h h2 := fun o k e => (b o k e).trans (a o k e)
theorem KR.up {h : XH} {o k : Nat} {v : Int} (e : qW T o = true) : KR T h (j_up h o k v) := fun a b ha_w => up_ne (fun z => by
  rw [z.1, e] at ha_w
  cases ha_w)
theorem RI.fld {h : XH} {k : Nat} {v : Int} (hJ : JS T J) (hw : qW T 182 = true) (a : RI P T J h) (b : IV P (qF T k) v) : RI P T J (j_up h 182 k v) := by
  refine ⟨fun k' => ?_, fun q hq => ?_, hJ _ _ (KR.up hw) a.2.2⟩
  · by_cases e : k' = k
    · subst e
      rw [up_eq]
      exact b
    · rw [up_ne (fun z => e z.2)]
      exact a.1 k'
  · have e : j_up h 182 k v q = h q := funext fun i => up_ne (fun z => by omega)
    rw [e]
    exact a.2.1 q hq
theorem RI.arr {h : XH} {q : Nat} {i x : Int} {t w : IT} (hJ : JS T J) (hw : qW T q = true) (a : RI P T J h) (hq : 183 ≤ q) (hok : ar_ok (qA T q) = true) (hs : ar_st (qA T q) t w = true) (hi_w : IV P t i) (hx : IV P w x) : RI P T J (j_up h q i.toNat x) := by
  refine ⟨fun k' => ?_, fun q' hq' => ?_, hJ _ _ (KR.up hw) a.2.2⟩
  · rw [up_ne (fun z => by omega)]
    exact a.1 k'
  · by_cases e : q' = q
    · subst e
      refine ar_st_ok (a.2.1 q' hq') hok hs hi_w hx (fun j => ?_)
      by_cases ej : j = i.toNat
      · rw [ej, up_eq, if_pos rfl]
      · rw [up_ne (fun z => ej z.2), if_neg ej]
    · have e2_w : j_up h q i.toNat x q' = h q' := funext fun j => up_ne (fun z => e z.1)
      rw [e2_w]
      exact a.2.1 q' hq'
end RIS
/-- all_w that is_w kept -/
def QK (P : Int × Int) (T : QT) (J : XH → Prop) (h : XH) : Prop := HT g_fk a_g3 h ∧ RI P T J h
/-- what a method_w of the reference_w is_w known_w to do -/
def TotR (P : Int × Int) (T : QT) (J : XH → Prop) (g : Nat × Nat) (F : XP) (f : Nat) : Prop :=
  ∀ (av : List Int) (h : XH), QK P T J h → IL P (qP T f) av → ∃ r h', F f av ((a_g3, g), h) = some (1, r, ((a_g3, g), h')) ∧ QK P T J h' ∧ KR T h h' ∧ IL P (qR T f) r ∧ (j_ls r ≠ 0 → IL P (qU T f) av)
/-- what an expression is_w known_w to do: with what is_w known_w of the locals when its (last_w) number_w is_w 0 or_w not -/
def TotI (P : Int × Int) (T : QT) (J : XH → Prop) (g : Nat × Nat) (τ us τt τf : List IT) (A : XE) : Prop :=
  ∀ (en : List Int) (h : XH), QK P T J h → IL P τ en → ∃ r h', A en ((a_g3, g), h) = some (r, ((a_g3, g), h')) ∧ QK P T J h' ∧ KR T h h' ∧ IL P us r ∧ (j_ls r ≠ 0 → IL P τt en) ∧ (j_ls r = 0 → IL P τf en)
/-- within_w and mustBe -/
def TotW (g : Nat × Nat) (F : XP) : Prop := ∀ (v l u : Int) (h : XH), F 198 [v, l, u] ((a_g3, g), h) = some (1, [j_b (decide (l ≤ v) && decide (v ≤ u))], ((a_g3, g), h))
def TotB (P : Int × Int) (T : QT) (J : XH → Prop) (g : Nat × Nat) (F : XP) : Prop := ∀ (v : Int) (h : XH), (v = 0 ∨ v = 1) → QK P T J h → ∃ h', F 274 [182, v] ((a_g3, g), h) = some (1, [v], ((a_g3, g), h')) ∧ QK P T J h' ∧ KR T h h'
