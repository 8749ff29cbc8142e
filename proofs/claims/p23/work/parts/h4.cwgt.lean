/-! ===== contracts: the class's law_w gives_w weights (written_w by wip/new_w/gen_h4.py) ===== -/
/-- codes_w that make_w one number_w -/
def LWK (l : List Int) : Prop := (∀ x ∈ l, gdX x) ∧ htO 0 l = some 1 ∧ l.length ≤ 1099
/-- a pile, its top first, in a row -/
def STK (o : Nat) (σ : List Int) (h : XH) : Prop := ∀ k v, σ[k]? = some v → h o (σ.length - 1 - k) = v
def CS50 : CSt := CS49
theorem snd_50 {xs : Nat → Int} {L K : Nat} : ∀ n, SndC CS50 (evF xs L g_ck K g_cW g_M n) := snd_49
section LAWS4
variable {fc_w : Nat → Int} {x v : Int} {l σ : List Int} {t u : Nat} {h h' : XH} {o : Nat}
theorem STK.push (s : STK o σ h) (z : ∀ k : Nat, k < σ.length → h' o k = h o k) (e : h' o σ.length = v) : STK o (v :: σ) h' := fun k w e2_w => by
  cases k with
  | zero =>
    cases e2_w
    exact e
  | succ j =>
    have e3_w : σ[j]? = some w := e2_w
    have hj : j < σ.length := (List.getElem?_eq_some_iff.mp e3_w).1
    have := s j w e3_w
    rw [show (v :: σ).length - 1 - (j + 1) = σ.length - 1 - j by rw [List.length_cons]; omega, z _ (by omega)]
    exact this
theorem STK.tail {a : Int} (s : STK o (a :: σ) h) : STK o σ h := fun k w e2_w => by
  have hj : k < σ.length := (List.getElem?_eq_some_iff.mp e2_w).1
  have := s (k + 1) w e2_w
  rw [show (a :: σ).length - 1 - (k + 1) = σ.length - 1 - k by rw [List.length_cons]; omega] at this
  exact this
theorem STK.top {a : Int} (s : STK o (a :: σ) h) : h o σ.length = a := s 0 a rfl
theorem STK.fr (s : STK o σ h) (z : ∀ k : Nat, k < σ.length → h' o k = h o k) : STK o σ h' := fun k w e2_w => by
  have hj : k < σ.length := (List.getElem?_eq_some_iff.mp e2_w).1
  rw [z _ (by omega)]
  exact s k w e2_w
end LAWS4
def CS51 : CSt := CS50
theorem snd_51 {xs : Nat → Int} {L K : Nat} : ∀ n, SndC CS51 (evF xs L g_ck K g_cW g_M n) := snd_50
