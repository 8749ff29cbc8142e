/-! ===== contracts: the reference_w smears to meters, works a slot_w out ===== -/
def CS63 : CSt := CS62
theorem snd_63 {xs : Nat → Int} {L K : Nat} : ∀ n, SndC CS63 (evF xs L g_ck K g_cW g_M n) := snd_62
