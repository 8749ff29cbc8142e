/-! ===== contracts: sums over the slots_w: sum_w, worst, lost (written_w by wip/new_w/gen_m0.py) ===== -/
def lsD (D : DD) (a : Nat → Int) (s m : Nat) : Int := gA D a s m - useS D (rdA a m) m s
def lostA (D : DD) (a : Nat → Int) : Int := sumN (fun s => sumN (lsD D a s) (nM D)) (nS D)
/-- the first slot_w of which the residual is_w the greatest, and how great -/
def wstS (f : Nat → Int) : Nat → Int × Int
  | 0 => (-1, -1)
  | k + 1 => if (wstS f k).2 < absS (f k) then ((k : Int), absS (f k)) else wstS f k
def worstA (D : DD) (a : Nat → Int) : Int := (wstS (resA D a) (nS D)).1
def CS67 : CSt := CS66
theorem snd_67 {xs : Nat → Int} {L K : Nat} : ∀ n, SndC CS67 (evF xs L g_ck K g_cW g_M n) := snd_66
def kC0 (v : DD → (Nat → Int) → Int) : KT := fun av h Q => match av with
  | [o] => o = 0 ∧ ∃ D : DD, SETP D h ∧ ∀ h', Q 1 [v D (cl 70 h)] h'
  | _ => False
def k25 : KT := kC0 worstA
def k26 : KT := kC0 lostA
def CS68 : CSt := CS67
theorem snd_68 {xs : Nat → Int} {L K : Nat} : ∀ n, SndC CS68 (evF xs L g_ck K g_cW g_M n) := snd_67
def CS69 : CSt := CS68
theorem snd_69 {xs : Nat → Int} {L K : Nat} : ∀ n, SndC CS69 (evF xs L g_ck K g_cW g_M n) := snd_68
def CS70 : CSt := CS69
theorem snd_70 {xs : Nat → Int} {L K : Nat} : ∀ n, SndC CS70 (evF xs L g_ck K g_cW g_M n) := snd_69
