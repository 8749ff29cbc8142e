/-! ===== contracts: gaps (written_w by wip/new_w/gen_o0.py) ===== -/
def CS71 : CSt := CS70
theorem snd_71 {xs : Nat → Int} {L K : Nat} : ∀ n, SndC CS71 (evF xs L g_ck K g_cW g_M n) := snd_70
def CS72 : CSt := CS71
theorem snd_72 {xs : Nat → Int} {L K : Nat} : ∀ n, SndC CS72 (evF xs L g_ck K g_cW g_M n) := snd_71
