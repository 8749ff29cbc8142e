/-! ===== contracts: the reference's law_w gives_w weights (written_w by wip/new_w/gen_i3.py) ===== -/
/-- a law_w in force, the reference's -/
def LWR (D : DD) (h : XH) : Prop := (∀ l, D.2.2.2.2.2 = some l → LWK l ∧ h 188 4 = 0 ∧ (∀ k v, (l ++ [0])[k]? = some v → h 189 k = v) ∧ ∀ x ∈ l, x ≤ 2147483647) ∧ (D.2.2.2.2.2 = none → h 188 4 = -1)
def CS60 : CSt := CS59
theorem snd_60 {xs : Nat → Int} {L K : Nat} : ∀ n, SndC CS60 (evF xs L g_ck K g_cW g_M n) := snd_59
