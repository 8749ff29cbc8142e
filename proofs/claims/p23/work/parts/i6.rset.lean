/-! ===== contracts: the reference_w works a slot_w out, shares ===== -/
theorem LWR.fr {D : DD} {h h' : XH} (l : LWR D h) (z : ∀ x k : Nat, x = 188 ∨ x = 189 → h' x k = h x k) : LWR D h' := ⟨fun q e => ⟨(l.1 q e).1, (z 188 4 (Or.inl rfl)).trans (l.1 q e).2.1, fun k v y => (z 189 k (Or.inr rfl)).trans ((l.1 q e).2.2.1 k v y), (l.1 q e).2.2.2⟩, fun e => (z 188 4 (Or.inl rfl)).trans (l.2 e)⟩
def CS64 : CSt := CS63
theorem snd_64 {xs : Nat → Int} {L K : Nat} : ∀ n, SndC CS64 (evF xs L g_ck K g_cW g_M n) := snd_63
