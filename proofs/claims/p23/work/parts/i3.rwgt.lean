/-! ===== contracts: the reference's law_w gives_w weights (written_w by wip/new_w/gen_i3.py) ===== -/
/-- a law_w in force, the reference's -/
def LWR (D : DD) (h : XH) : Prop := (∀ l, D.2.2.2.2.2 = some l → LWK l ∧ h 188 4 = 0 ∧ (∀ k v, (l ++ [0])[k]? = some v → h 189 k = v) ∧ ∀ x ∈ l, x ≤ 2147483647) ∧ (D.2.2.2.2.2 = none → h 188 4 = -1)
theorem RF.fr3 {D : DD} {h h' : XH} (r : RF D h) (z : ∀ x k : Nat, x = 188 ∨ x = 189 ∨ x = 190 → h' x k = h x k) : RF D h' := r.fr (funext fun k => z 188 k (Or.inl rfl)) (funext fun k => z 189 k (Or.inr (Or.inl rfl))) (funext fun k => z 190 k (Or.inr (Or.inr rfl)))
def CS60 : CSt := CS59
theorem snd_60 {xs : Nat → Int} {L K : Nat} : ∀ n, SndC CS60 (evF xs L g_ck K g_cW g_M n) := snd_59
