/-! ===== contracts: the class: meters weigh, what is_w left is_w smeared ===== -/
/-- a law_w in force -/
def LWC (D : DD) (h : XH) : Prop := LWK (lawL D) ∧ (lawL D).length ≤ 1000 ∧ h 22 3 = ((lawL D).length : Int) ∧ ∀ k v, (lawL D)[k]? = some v → h 24 k = cst v
def CS57 : CSt := CS56
theorem snd_57 {xs : Nat → Int} {L K : Nat} : ∀ n, SndC CS57 (evF xs L g_ck K g_cW g_M n) := snd_56
