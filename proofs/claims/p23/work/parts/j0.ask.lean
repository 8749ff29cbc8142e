/-! ===== contracts: use, gross, load_w, residual, smear, net, share (written_w by wip/new_w/gen_j0.py) ===== -/
def SETP (D : DD) (h : XH) : Prop := WFD D ∧ CDw 6 D h ∧ (0 < nC D → LWC D h) ∧ RGA D (cl 70 h)
def RSET (D : DD) (h : XH) : Prop := WFD D ∧ RF D h ∧ LWR D h ∧ RGA D (bl 0 h)
def okMS (D : DD) (x y : Int) : Prop := 0 ≤ x ∧ x < (nM D : Int) ∧ 0 ≤ y ∧ y < D.1
def kC2 (ok : DD → Int → Int → Prop) (v : DD → (Nat → Int) → Nat → Nat → Int) : KT := fun av h Q => match av with
  | [o, x, y] => o = 0 ∧ ∃ D : DD, SETP D h ∧ (¬ ok D x y → Q 4 [] h) ∧ (ok D x y → ∀ h', Q 1 [v D (cl 70 h) x.toNat y.toNat] h')
  | _ => False
def vGro (D : DD) (a : Nat → Int) (m s : Nat) : Int := gA D a s m
def k15 : KT := kC2 okMS vGro
def CS65 : CSt := CS64
theorem snd_65 {xs : Nat → Int} {L K : Nat} : ∀ n, SndC CS65 (evF xs L g_ck K g_cW g_M n) := snd_64
theorem RSET.z {D : DD} {h : XH} {v : Int} (r : RSET D h) : RF D (j_up h 182 0 v) ∧ LWR D (j_up h 182 0 v) ∧ bl 0 (j_up h 182 0 v) = bl 0 h := ⟨r.2.1.fr3 (fun x k a => up_ne (by omega)), r.2.2.1.fr (fun x k a => up_ne (by omega)), funext fun q => up_ne (by omega)⟩
def CS66 : CSt := CS65
theorem snd_66 {xs : Nat → Int} {L K : Nat} : ∀ n, SndC CS66 (evF xs L g_ck K g_cW g_M n) := snd_65
