/-! ===== contracts: the class: what is_w left is_w smeared by class, by meter ===== -/
theorem LWC.fr {D : DD} {h h' : XH} (l : LWC D h) (e2_w : h' 22 3 = h 22 3) (e4_w : ∀ k, h' 24 k = h 24 k) : LWC D h' := ⟨l.1, l.2.1, e2_w.trans l.2.2.1, fun k v z => (e4_w k).trans (l.2.2.2 k v z)⟩
def CS58 : CSt := CS57
theorem snd_58 {xs : Nat → Int} {L K : Nat} : ∀ n, SndC CS58 (evF xs L g_ck K g_cW g_M n) := snd_57
