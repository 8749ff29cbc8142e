section
/-! ===== contracts: the class shares out by weights (written_w by wip/new_w/gen_h5.py) ===== -/
theorem updF_at {f : Nat → Int} {k : Nat} {v : Int} : updF f k v k = v := if_pos rfl
theorem updF_ne {f : Nat → Int} {k q : Nat} {v : Int} (z : q ≠ k) : updF f k v q = f q := if_neg z
end
section
/-! ===== a law_w that is_w told_w makes one number_w, in both_w ===== -/
def lawL (D : DD) : List Int := D.2.2.2.2.2.getD [2]
end
