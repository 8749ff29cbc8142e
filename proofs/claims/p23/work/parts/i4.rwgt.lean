/-! ===== contracts: the reference's law_w works, weights of classes ===== -/
def CS61 : CSt := CS60
theorem snd_61 {xs : Nat → Int} {L K : Nat} : ∀ n, SndC CS61 (evF xs L g_ck K g_cW g_M n) := snd_60
def CS62 : CSt := CS61
theorem snd_62 {xs : Nat → Int} {L K : Nat} : ∀ n, SndC CS62 (evF xs L g_ck K g_cW g_M n) := snd_61
