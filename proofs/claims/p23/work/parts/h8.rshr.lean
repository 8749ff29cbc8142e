/-! ===== contracts: the reference_w shares out by weights ===== -/
def CS56 : CSt := CS55
theorem snd_56 {xs : Nat → Int} {L K : Nat} : ∀ n, SndC CS56 (evF xs L g_ck K g_cW g_M n) := snd_55
