section JWI
variable {l : Launch} 
  {cc : ByteArray} {nL : Nat} {own : String} {Ts : List Cond} {D : va_G} {cl : List vw_C} {cA : Nat → ClassId} {A : Nat → Prop} {adW : Nat → Nat} {aT aS : Nat} {ck : Nat → List Nat} {c0 d0 n0 : Nat} {ad0 : Nat → Nat} {dec : XD} {lk lp : XK} {Zs : String → String → String → Value → Prop} {cW : Nat → Nat → Int} {xs : Nat → Int} {L K : Nat}
  {Y : Nat → MethodName} {CC : Nat → ByteArray} {RT : Nat → XRt} {M : Nat → XM} {THR RZ : Nat → Bool} {LK LP : Nat → XK} {DE : Nat → XD} {HND : Nat → Nat → Option (Nat × Nat)}
/-- what is to be shown of each method by itself -/
def GD (Ts : List Cond) (cl : List vw_C) (ck : Nat → List Nat) (adW : Nat → Nat) (aT : Nat) (Zs : String → String → String → Value → Prop) (Y : Nat → MethodName) (CC : Nat → ByteArray) (RT : Nat → XRt) (M : Nat → XM) (THR RZ : Nat → Bool) (LK LP : Nat → XK) (DE : Nat → XD) (HND : Nat → Nat → Option (Nat × Nat)) (f : Nat) : Prop :=
  (FA Ts cl ck adW aT Zs Y CC RT M THR RZ LK LP DE HND f ∧ THR f = false ∧ (RT f).2 = [] ∧ ∀ pc, HND f pc = none) ∨
  (FA Ts cl ck adW aT Zs Y CC RT M THR RZ LK LP DE HND f ∧ THR f = false ∧ (RT f).2 ≠ [] ∧ HX Ts (Y f).cls (DE f) (RT f).2 (HND f) ∧ ∀ i g how z, LK f i = some (6, g, how, z) → THR g = true → how = 0) ∨
  (FA Ts cl ck adW aT Zs Y CC RT M THR RZ LK LP DE HND f ∧ THR f = true ∧ (RT f).2 = [] ∧ LT Ts (Y f).cls (LK f) ∧ ∀ pc, HND f pc = none) ∨
  (m_B M f = .var 0 ∧ THR f = true)
theorem GD.chk {f : Nat} (h : GD Ts cl ck adW aT Zs Y CC RT M THR RZ LK LP DE HND f) : CK M DE LK LP THR RZ HND f ∨ m_B M f = .var 0 := by
  rcases h with h | h | h | h
  · exact Or.inl h.1.2.2.2.2.2
  · exact Or.inl h.1.2.2.2.2.2
  · exact Or.inl h.1.2.2.2.2.2
  · exact Or.inr h.1
theorem GD.mf {f : Nat} (h : GD Ts cl ck adW aT Zs Y CC RT M THR RZ LK LP DE HND f) : MF Ts Y CC (m_L M) RT (m_R M) f ∨ THR f = true := by
  rcases h with h | h | h | h
  · exact Or.inl h.1.1
  · exact Or.inl h.1.1
  · exact Or.inl h.1.1
  · exact Or.inr h.2
theorem GD.mx {f : Nat} (h : GD Ts cl ck adW aT Zs Y CC RT M THR RZ LK LP DE HND f) (_ : THR f = true) : MF Ts Y CC (m_L M) RT (m_R M) f ∨ m_B M f = .var 0 := by
  rcases h with h | h | h | h
  · exact Or.inl h.1.1
  · exact Or.inl h.1.1
  · exact Or.inl h.1.1
  · exact Or.inr h.1
theorem all_ok (hl : l.stackTraces = false) (hnice : ∀ w ∈ Ts, niceW w = true) (hCF : CF Ts cl ck) (hWi : ∀ i j : Nat, i < 24 → j < 24 → adW i = adW j → i = j) (hTa : ∀ ty, (ty = .int ∨ ty = .long ∨ ty = .byte ∨ ty = .boolean) → Cond.arrayClass ty ∈ Ts) (hG : ∀ f, GD Ts cl ck adW aT Zs Y CC RT M THR RZ LK LP DE HND f) :
    ∀ n f, (THR f = false → CTm l Ts D cl cA A adW aT aS ck Zs cW xs L Y CC (m_L M) RT (m_P M) (m_R M) (evF xs L ck K cW M n) n f) ∧ (THR f = true → CTx l Ts D cl cA A adW aT aS ck Zs cW xs L Y CC (m_L M) RT (m_P M) (m_R M) (evF xs L ck K cW M n) n f)
  | 0, _ => ⟨fun _ _ _ _ _ _ h => (by cases h), fun _ _ _ _ _ _ _ h => (by cases h)⟩
  | n + 1, f => by
    have ih := all_ok hl hnice hCF hWi hTa hG n
    have hMF := fun f => GD.mf (hG f)
    have hCK := fun f => GD.chk (hG f)
    rcases hG f with ⟨h, h1, h2, h3⟩ | ⟨h, h1, h2, h3, h4⟩ | ⟨h, h1, h2, h3, h4⟩ | ⟨h, h1⟩
    · exact ⟨fun _ => meth_ok hnice hCF hWi hTa hMF hCK h2 h h3 (fun g hg => (ih g).1 hg), fun e => (by rw [h1] at e; cases e)⟩
    · exact ⟨fun _ => methh_ok hnice hCF hWi hTa hMF hCK h2 h h3 (fun g hg => GD.mx (hG g) hg) h4 (fun g hg => (ih g).2 hg) (fun g hg => (ih g).1 hg), fun e => (by rw [h1] at e; cases e)⟩
    · exact ⟨fun e => (by rw [h1] at e; cases e), fun _ => methx_ok hl hnice hCF hWi hTa hMF hCK h2 h h3 h4 (fun g hg => (ih g).1 hg)⟩
    · refine ⟨fun e => (by rw [h1] at e; cases e), fun _ av st k r st' ad hF => ?_⟩
      rw [evF_non h] at hF
      cases hF
end JWI
