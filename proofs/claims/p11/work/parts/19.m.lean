section
/-! ===== contracts: the class: meters weigh, what is_w left is_w smeared ===== -/
/-- a law_w in force -/
def LWC (D : DD) (h : XH) : Prop := LWK (lawL D) ∧ (lawL D).length ≤ 1000 ∧ h 22 3 = ((lawL D).length : Int) ∧ ∀ k v, (lawL D)[k]? = some v → h 24 k = cst v
def smW (p : Nat) : Prop := p = 28 ∨ p = 163 ∨ p = 167 ∨ p = 171 ∨ p = 173 ∨ p = 175 ∨ p = 177
end
section
/-! ===== contracts: the class: what is_w left is_w smeared by class, by meter ===== -/
theorem LWC.fr {D : DD} {h h' : XH} (l : LWC D h) (e2_w : h' 22 3 = h 22 3) (e4_w : ∀ k, h' 24 k = h 24 k) : LWC D h' := ⟨l.1, l.2.1, e2_w.trans l.2.2.1, fun k v z => (e4_w k).trans (l.2.2.2 k v z)⟩
end
section
/-! ===== contracts: the class settles a slot_w (written_w by wip/new_w/gen_i2.py) ===== -/
def stO (p : Nat) : Prop := smW p ∨ p = 159 ∨ p = 161 ∨ p = 165 ∨ p = 169
/-- what a ledger can_w be, in the reference's order_w -/
def RGA (D : DD) (a : Nat → Int) : Prop := (∀ q : Nat, q < 13 * nM D → -1 ≤ a q ∧ a q ≤ 9999) ∧ (∀ q : Nat, 78 ≤ q → q < 78 + 12 * nM D → 0 ≤ a q ∧ a q ≤ 3) ∧ ∀ q : Nat, 150 ≤ q → q < 150 + nS D → 0 ≤ a q ∧ a q ≤ 9999
end
section
/-! ===== contracts: the reference's law_w gives_w weights (written_w by wip/new_w/gen_i3.py) ===== -/
/-- a law_w in force, the reference's -/
def LWR (D : DD) (h : XH) : Prop := (∀ l, D.2.2.2.2.2 = some l → LWK l ∧ h 188 4 = 0 ∧ (∀ k v, (l ++ [0])[k]? = some v → h 189 k = v) ∧ ∀ x ∈ l, x ≤ 2147483647) ∧ (D.2.2.2.2.2 = none → h 188 4 = -1)
theorem RF.fr3 {D : DD} {h h' : XH} (r : RF D h) (z : ∀ x k : Nat, x = 188 ∨ x = 189 ∨ x = 190 → h' x k = h x k) : RF D h' := r.fr (funext fun k => z 188 k (Or.inl rfl)) (funext fun k => z 189 k (Or.inr (Or.inl rfl))) (funext fun k => z 190 k (Or.inr (Or.inr rfl)))
end
section
/-! ===== contracts: the reference_w smears to meters, works a slot_w out ===== -/
def wkW (x : Nat) : Prop := x = 192 ∨ x = 193 ∨ (196 ≤ x ∧ x ≤ 202)
end
section
/-! ===== contracts: the reference_w works a slot_w out, shares ===== -/
theorem LWR.fr {D : DD} {h h' : XH} (l : LWR D h) (z : ∀ x k : Nat, x = 188 ∨ x = 189 → h' x k = h x k) : LWR D h' := ⟨fun q e => ⟨(l.1 q e).1, (z 188 4 (Or.inl rfl)).trans (l.1 q e).2.1, fun k v y => (z 189 k (Or.inr rfl)).trans ((l.1 q e).2.2.1 k v y), (l.1 q e).2.2.2⟩, fun e => (z 188 4 (Or.inl rfl)).trans (l.2 e)⟩
end
section
/-! ===== contracts: use, gross, load_w, residual, smear, net, share (written_w by wip/new_w/gen_j0.py) ===== -/
def SETP (D : DD) (h : XH) : Prop := WFD D ∧ CDw 6 D h ∧ (0 < nC D → LWC D h) ∧ RGA D (cl 70 h)
def RSET (D : DD) (h : XH) : Prop := WFD D ∧ RF D h ∧ LWR D h ∧ RGA D (bl 0 h)
def okMS (D : DD) (x y : Int) : Prop := 0 ≤ x ∧ x < (nM D : Int) ∧ 0 ≤ y ∧ y < D.1
def kC2 (ok : DD → Int → Int → Prop) (v : DD → (Nat → Int) → Nat → Nat → Int) : KT := fun av h Q => match av with
  | [o, x, y] => o = 0 ∧ ∃ D : DD, SETP D h ∧ (¬ ok D x y → Q 4 [] h) ∧ (ok D x y → ∀ h', Q 1 [v D (cl 70 h) x.toNat y.toNat] h')
  | _ => False
def vGro (D : DD) (a : Nat → Int) (m s : Nat) : Int := gA D a s m
def k15 : KT := kC2 okMS vGro
theorem RSET.z {D : DD} {h : XH} {v : Int} (r : RSET D h) : RF D (j_up h 182 0 v) ∧ LWR D (j_up h 182 0 v) ∧ bl 0 (j_up h 182 0 v) = bl 0 h := ⟨r.2.1.fr3 (fun x k a => up_ne (by omega)), r.2.2.1.fr (fun x k a => up_ne (by omega)), funext fun q => up_ne (by omega)⟩
end
section
/-! ===== what a question_w of a settlement is_w asked_w of, on_w both_w sides ===== -/
section SETOF
variable {h h1 h2 : XH} {D : DD} {a b : Nat → Int} {x y : Int}
theorem RGA.cg (e : EqD D a b) (r : RGA D b) : RGA D a := ⟨fun q z => by rw [e q (Or.inl z)]; exact r.1 q z, fun q z1 z2 => by rw [e q (Or.inr (Or.inl ⟨z1, z2⟩))]; exact r.2.1 q z1 z2, fun q z1 z2 => by rw [e q (Or.inr (Or.inr (Or.inl ⟨z1, z2⟩)))]; exact r.2.2 q z1 z2⟩
end SETOF
end
section
/-! ===== contracts: sums over the slots_w: sum_w, worst, lost (written_w by wip/new_w/gen_m0.py) ===== -/
def lsD (D : DD) (a : Nat → Int) (s m : Nat) : Int := gA D a s m - useS D (rdA a m) m s
def lostA (D : DD) (a : Nat → Int) : Int := sumN (fun s => sumN (lsD D a s) (nM D)) (nS D)
/-- the first slot_w of which the residual is_w the greatest, and how great -/
def wstS (f : Nat → Int) : Nat → Int × Int
  | 0 => (-1, -1)
  | k + 1 => if (wstS f k).2 < absS (f k) then ((k : Int), absS (f k)) else wstS f k
def worstA (D : DD) (a : Nat → Int) : Int := (wstS (resA D a) (nS D)).1
def kC0 (v : DD → (Nat → Int) → Int) : KT := fun av h Q => match av with
  | [o] => o = 0 ∧ ∃ D : DD, SETP D h ∧ ∀ h', Q 1 [v D (cl 70 h)] h'
  | _ => False
def k25 : KT := kC0 worstA
def k26 : KT := kC0 lostA
end
section
/-! ===== questions of a settlement, compared ===== -/
theorem RSET.fr {D : DD} {h h1 : XH} (r : RSET D h) (z : ∀ o k : Nat, 188 ≤ o → o ≤ 194 → h1 o k = h o k) : RSET D h1 := by
  have e : bl 0 h1 = bl 0 h := funext fun q => z 194 _ (by decide) (by decide)
  refine ⟨r.1, r.2.1.fr3 (fun o k a => z o k (by omega) (by omega)), r.2.2.1.fr (fun o k a => z o k (by omega) (by omega)), ?_⟩
  rw [e]
  exact r.2.2.2
end
