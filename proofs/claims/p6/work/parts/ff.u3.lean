/-! ===== what a run calls: what it may_w write_w (written_w by wip/tools/places_w.py) ===== -/
def u3_t : List (List (Option (List AVs × Option AVs))) := [[none, none, none, none, none, none, none, none, none, none, none, none, none, none, none, none],
  [none, none, none, none, none, none, none, none, none, none, none, none, none, none, none, none],
  [none, none, none, none, none, none, none, none, none, none, none, none, none, none, none, none],
  [none, none, none, none, none, none, some ([some [0, 10, 12, 14, 16, 18, 19, 20, 23, 27, 71, 73, 75, 79, 81, 83, 85, 160, 162, 164, 166, 168, 170, 172, 174, 176], none], some (none)), some ([some [27, 77, 79, 81, 83, 158, 160, 162, 166, 170, 172, 174, 176], none, none], none), some ([some [81, 83, 162, 164, 166, 168, 174], none, none], none), some ([some [164, 168], none], none), none, none, none, none, none, none],
  [none, none, none, none, none, none, none, none, none, none, none, none, none, none, none, none],
  [none, none, none, none, none, none, none, none, none, none, none, none, some ([some [22], none, none, none, none], some (none)), some ([none, none, none, none, none], some (none)), some ([none, none, none], some (none)), none],
  [none, none, none, none, none, none, none, none, none, none, none, none, none, none, none, none],
  [none, none, none, none, none, none, none, none, none, none, none, none, none, none, none, none],
  [none, none, none, none, none, none, none, none, none, none, none, none, none, none, none, none],
  [none, none, some ([some [70], none, none], some (none)), none, none, none, some ([some [70], none, none], some (none)), some ([some [70], none, none, none], some (none)), none, some ([some [70], some [6], none, none], some (none)), some ([some [70], some [6], none, none, none, none], some (none)), some ([some [70], none, none], some (none)), none, none, none, none],
  [some ([some [70], none, none, none, none], none), none, some ([some [70], none, none, none], some (none)), some ([some [70], some [6], none], none), some ([some [70], none, none, none], none), none, none, none, none, none, none, none, some ([some [157], some [6], some [70], none], none), some ([some [157], some [6], none], none), some ([some [157], some [6], none], none), some ([some [157], none, some [170, 172], none, some [166, 174]], none)],
  [none, none, none, none, none, none, none, none, none, none, none, none, none, none, none, none],
  [none, none, none, none, none, none, none, none, none, none, none, none, none, none, none, none],
  [none, none, none, none, none, none, none, none, none, none, none, none, none, none, none, none],
  [none, none, none, none, none, none, none, none, none, none, none, none, none, none, none, none],
  [none, none, none, none, none, none, none, none, none, none, none, none, none, none, none, none],
  [none, none, none, none, none, none, none, none, none, none, none, none, none, none, none, none],
  [none, none, none, none, none, none, none, none, none, none, none, none, none, none, none, none],
  [none, none, none, none, none, none, none, none, none, none, none, none, none, none, none, none],
  [none, none, none, none, none, none, none, none, none, none, none, none, none, none, none, none],
  [none, none, none, none, none, none, none, none, none, none, none, none, none, none, none, some ([none], some (none))],
  [some ([none, none], some (none)), some ([none, none], some (none))]]
def u3_T : AT := fun f => (u3_t.getD (f / 16) []).getD (f % 16) none
def u3_v : List (List (List AVs)) := [[[], [], [], [], [], [], [], [], [], [], [], [], [], [], [], []],
  [[], [], [], [], [], [], [], [], [], [], [], [], [], [], [], []],
  [[], [], [], [], [], [], [], [], [], [], [], [], [], [], [], []],
  [[], [], [], [], [], [], [some [0, 10, 12, 14, 16, 18, 19, 20, 23, 27, 71, 73, 75, 79, 81, 83, 85, 160, 162, 164, 166, 168, 170, 172, 174, 176], none], [some [27, 77, 79, 81, 83, 158, 160, 162, 166, 170, 172, 174, 176], none, none], [some [81, 83, 162, 164, 166, 168, 174], none, none], [some [164, 168], none, none], [], [], [], [], [], []],
  [[], [], [], [], [], [], [], [], [], [], [], [], [], [], [], []],
  [[], [], [], [], [], [], [], [], [], [], [], [], [some [22], none, none, none, none, none, none, none], [none, none, none, none, none], [none, none, none], []],
  [[], [], [], [], [], [], [], [], [], [], [], [], [], [], [], []],
  [[], [], [], [], [], [], [], [], [], [], [], [], [], [], [], []],
  [[], [], [], [], [], [], [], [], [], [], [], [], [], [], [], []],
  [[], [], [some [70], none, none], [], [], [], [some [70], none, none, none], [some [70], none, none, none, none], [], [some [70], some [6], none, none, none, none, none], [some [70], some [6], none, none, none, none, none, none, some [0, 14], none, none, none], [some [70], none, none], [], [], [], []],
  [[some [70], none, none, none, none], [], [some [70], none, none, none, none, none, none], [some [70], some [6], none, none, none, none], [some [70], none, none, none, none], [], [], [], [], [], [], [], [some [157], some [6], some [70], none, none, none, none, none], [some [157], some [6], none, none, none, none], [some [157], some [6], none, none, none, none], [some [157], none, some [170, 172], none, some [166, 174], none, none, none, none, none, none, none, none]],
  [[], [], [], [], [], [], [], [], [], [], [], [], [], [], [], []],
  [[], [], [], [], [], [], [], [], [], [], [], [], [], [], [], []],
  [[], [], [], [], [], [], [], [], [], [], [], [], [], [], [], []],
  [[], [], [], [], [], [], [], [], [], [], [], [], [], [], [], []],
  [[], [], [], [], [], [], [], [], [], [], [], [], [], [], [], []],
  [[], [], [], [], [], [], [], [], [], [], [], [], [], [], [], []],
  [[], [], [], [], [], [], [], [], [], [], [], [], [], [], [], []],
  [[], [], [], [], [], [], [], [], [], [], [], [], [], [], [], []],
  [[], [], [], [], [], [], [], [], [], [], [], [], [], [], [], []],
  [[], [], [], [], [], [], [], [], [], [], [], [], [], [], [], [none]],
  [[none, none], [none, none]]]
def u3_V : AL := fun f => (u3_v.getD (f / 16) []).getD (f % 16) []
def u3_W : AW := ([28, 78, 80, 82, 84, 159, 161, 163, 165, 167, 169, 171, 173, 175, 177], [(157, 10)])
def u3_k (i : Nat) : Bool := (List.range 16).all fun j => (u3_T (16 * i + j)).isNone || aM u3_T u3_V u3_W g_M (16 * i + j)
theorem u3_k0 : u3_k 0 = true := by decide +kernel
theorem u3_k1 : u3_k 1 = true := by decide +kernel
theorem u3_k2 : u3_k 2 = true := by decide +kernel
theorem u3_k3 : u3_k 3 = true := by decide +kernel
theorem u3_k4 : u3_k 4 = true := by decide +kernel
theorem u3_k5 : u3_k 5 = true := by decide +kernel
theorem u3_k6 : u3_k 6 = true := by decide +kernel
theorem u3_k7 : u3_k 7 = true := by decide +kernel
theorem u3_k8 : u3_k 8 = true := by decide +kernel
theorem u3_k9 : u3_k 9 = true := by decide +kernel
theorem u3_k10 : u3_k 10 = true := by decide +kernel
theorem u3_k11 : u3_k 11 = true := by decide +kernel
theorem u3_k12 : u3_k 12 = true := by decide +kernel
theorem u3_k13 : u3_k 13 = true := by decide +kernel
theorem u3_k14 : u3_k 14 = true := by decide +kernel
theorem u3_k15 : u3_k 15 = true := by decide +kernel
theorem u3_k16 : u3_k 16 = true := by decide +kernel
theorem u3_k17 : u3_k 17 = true := by decide +kernel
theorem u3_k18 : u3_k 18 = true := by decide +kernel
theorem u3_k19 : u3_k 19 = true := by decide +kernel
theorem u3_k20 : u3_k 20 = true := by decide +kernel
theorem u3_k21 : u3_k 21 = true := by decide +kernel
theorem u3_len : u3_t.length = 22 := by decide +kernel
theorem u3_all (f : Nat) {p : List AVs × Option AVs} (e : u3_T f = some p) : aM u3_T u3_V u3_W g_M f = true := by
  have hi_w : f / 16 < 22 := by
    refine Nat.lt_of_not_le fun z => ?_
    have k : u3_T f = none := by
      unfold u3_T
      rw [List.getD_eq_getElem?_getD (l := u3_t), List.getElem?_eq_none (by rw [u3_len]; exact z)]
      rfl
    rw [k] at e
    cases e
  have key_w : u3_k (f / 16) = true := by
    generalize f / 16 = i at hi_w ⊢
    match i, hi_w with
    | 0, _ => exact u3_k0
    | 1, _ => exact u3_k1
    | 2, _ => exact u3_k2
    | 3, _ => exact u3_k3
    | 4, _ => exact u3_k4
    | 5, _ => exact u3_k5
    | 6, _ => exact u3_k6
    | 7, _ => exact u3_k7
    | 8, _ => exact u3_k8
    | 9, _ => exact u3_k9
    | 10, _ => exact u3_k10
    | 11, _ => exact u3_k11
    | 12, _ => exact u3_k12
    | 13, _ => exact u3_k13
    | 14, _ => exact u3_k14
    | 15, _ => exact u3_k15
    | 16, _ => exact u3_k16
    | 17, _ => exact u3_k17
    | 18, _ => exact u3_k18
    | 19, _ => exact u3_k19
    | 20, _ => exact u3_k20
    | 21, _ => exact u3_k21
    | i + 22, hi_w => omega
  have k := List.all_eq_true.mp key_w (f % 16) (List.mem_range.mpr (Nat.mod_lt _ (by decide)))
  rw [show 16 * (f / 16) + f % 16 = f from Nat.div_add_mod f 16, e] at k
  exact k
theorem snd_u3 {xs : Nat → Int} {L K : Nat} : ∀ n, SndC (aK u3_T u3_W) (evF xs L g_ck K g_cW g_M n) := snd_all snd_none (fun f av h Q hQ => Or.inr (aM_ok (fun _ _ _ _ z => z) (u3_all f hQ.choose_spec.1)))
