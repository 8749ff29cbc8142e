/-! ===== contracts: the class settles a slot_w (written_w by wip/new_w/gen_i2.py) ===== -/
/-- what a ledger can_w be, in the reference's order_w -/
def RGA (D : DD) (a : Nat → Int) : Prop := (∀ q : Nat, q < 13 * nM D → -1 ≤ a q ∧ a q ≤ 9999) ∧ (∀ q : Nat, 78 ≤ q → q < 78 + 12 * nM D → 0 ≤ a q ∧ a q ≤ 3) ∧ ∀ q : Nat, 150 ≤ q → q < 150 + nS D → 0 ≤ a q ∧ a q ≤ 9999
section SET2
variable {D : DD} {a : Nat → Int} {s m c : Nat} {r q : Nat → Int}
theorem cutS_cg {f : List Int} {i j k : Nat} (hi_w : r i = q i) (hj : r j = q j) : cutS f r i j k = cutS f q i j k := by
  unfold cutS
  rw [hi_w, hj]
end SET2
def CS59 : CSt := CS58
theorem snd_59 {xs : Nat → Int} {L K : Nat} : ∀ n, SndC CS59 (evF xs L g_ck K g_cW g_M n) := snd_58
