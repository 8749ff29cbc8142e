/-! ===== contracts: the class shares out by weights (written_w by wip/new_w/gen_h5.py) ===== -/
theorem mul_bd {a b A B : Int} (a0_w : 0 ≤ a) (a1_w : a ≤ A) (b0 : 0 ≤ b) (b1 : b ≤ B) : 0 ≤ a * b ∧ a * b ≤ A * B := ⟨Int.mul_nonneg a0_w b0, Int.mul_le_mul a1_w b1 b0 (by omega)⟩
def CS52 : CSt := CS51
theorem snd_52 {xs : Nat → Int} {L K : Nat} : ∀ n, SndC CS52 (evF xs L g_ck K g_cW g_M n) := snd_51
