/-! ===== all_w questions of the class: what they may_w write_w (written_w by wip/tools/places_w.py) ===== -/
def u2_t : List (List (Option (List AVs × Option AVs))) := [[none, none, none, none, none, some ([some [0], none, none], some (none)), some ([some [0], none, none], some (none)), some ([some [0], none, none], some (none)), none, none, none, none, none, some ([some [0], none], some (none)), some ([some [0], none, none], some (none)), some ([some [0], none, none], some (none))],
  [some ([some [0], none, none], some (none)), some ([some [0], none], some (none)), some ([some [0], none, none], some (none)), some ([some [0], none, none], some (none)), some ([some [0], none, none], some (none)), some ([some [0], none], some (none)), some ([some [0], none], some (none)), some ([some [0], none, none], some (none)), some ([some [0], none], some (none)), some ([some [0]], some (none)), some ([some [0]], some (none)), some ([some [0], none, none, none], some (none)), some ([some [0], none, none, none], some (none)), some ([some [0], none], some (none)), some ([some [0]], some (none)), some ([some [0], none, none], some (none))],
  [some ([some [0], none, none], some (none)), some ([some [0], none, none, none, none], some (none)), some ([some [0], none, none], some (none)), some ([some [0], none], some (none)), some ([some [0]], some (none)), some ([some [0]], none), some ([some [0], none], some (none)), some ([some [0], none], some (none)), none, some ([some [0]], some (none)), some ([some [0]], some (none)), some ([some [0], none, none, none], some (none)), some ([some [0], none, none], none), some ([none], some (none)), some ([none, none], some (none)), some ([some [0]], some (none))],
  [none, none, none, some ([some [0], none], some (none)), some ([some [0]], some (none)), none, some ([some [0, 10, 12, 14, 16, 18, 20, 23, 27, 53, 55, 57, 59, 71, 73, 75, 77, 79, 81, 83, 85, 87, 89, 92, 94, 96, 158, 160, 162, 164, 166, 168, 170, 172, 174, 176, 178, 180], none], some (none)), some ([some [27, 92, 94, 96, 158, 160, 162, 166, 170, 172, 174, 176], none, none], none), some ([some [162, 164, 166, 168, 174, 178, 180], none, none], none), some ([some [92, 164, 168, 178, 180], none], none), some ([some [92, 94, 96, 98, 100, 102, 104, 106, 108, 110], some [8, 71, 73, 75, 77, 79, 81, 83, 85, 87, 89]], none), none, none, none, none, none],
  [none, none, none, none, none, none, none, none, none, none, none, none, none, none, none, none],
  [none, none, none, none, none, none, none, none, none, none, none, none, some ([some [22], none, none, none, none], some (none)), some ([none, none, none, none, none], some (none)), some ([none, none, none], some (none)), none],
  [none, none, none, none, none, none, none, none, none, none, none, some ([some [6], none], some (none)), some ([some [6], none], some (none)), some ([some [6], none], some (none)), some ([some [6], none], some (none)), some ([some [6], none, none], some (none))],
  [some ([some [6], none, none, none], some (none)), some ([some [6], none], some (none)), some ([some [6], none], some (none)), none, none, none, none, none, none, none, none, none, none, none, none, none],
  [none, none, none, none, none, none, none, none, none, none, none, none, none, none, some ([some [91], some [6]], none), some ([some [91], some [70]], none)],
  [some ([some [91], some [52], none], some (none)), some ([some [91]], some (none)), some ([some [70, 91], none, none], some (none)), some ([some [91], none, none, none], none), some ([some [91], none], none), some ([some [70], none], some (none)), some ([some [70, 91], none, none], some (none)), some ([some [70, 91], none, none, none], some (none)), some ([some [70], some [6], none, none], some (none)), some ([some [70, 91], some [6], none, none], some (none)), some ([some [70, 91], some [6], none, none, none, none], some (none)), some ([some [70, 91], none, none], some (none)), some ([some [91], none, none, none], none), none, some ([some [70], none], some (none)), some ([some [70], none, none, none], some (none))],
  [none, some ([some [70]], some (none)), some ([some [70], none, none, none], some (none)), none, none, none, some ([some [70], none, none], some (none)), none, none, none, none, none, some ([some [157], some [6], some [70, 91], none], none), some ([some [157], some [6], none], none), some ([some [157], some [6], none], none), some ([some [157], none, some [170, 172], none, some [166, 174]], none)],
  [some ([some [157], some [6], some [70, 91], some [178, 180]], none), some ([some [157], some [6], some [91]], some (none)), some ([some [157], some [6], some [70, 91], none], some (none)), some ([some [157], some [6], some [70, 91]], some (none)), some ([some [157], some [6], none], some (none)), none, none, none, none, none, none, none, none, none, none, none],
  [none, none, none, none, none, none, none, none, none, none, none, none, none, none, none, none],
  [none, none, none, none, none, none, none, none, none, none, none, none, none, none, none, none],
  [none, none, none, none, none, none, none, none, none, none, none, none, none, none, none, none],
  [none, none, none, none, none, none, none, none, none, none, none, none, none, none, none, none],
  [none, none, none, none, none, none, none, none, none, none, none, none, none, none, none, none],
  [none, none, none, none, none, none, none, none, none, none, none, none, none, none, none, none],
  [none, none, none, none, none, none, none, none, none, none, none, none, none, none, none, none],
  [none, none, none, none, none, none, none, none, none, none, none, none, none, none, none, none],
  [none, none, none, none, none, none, none, none, none, none, none, none, none, none, some ([none], some (none)), some ([none], some (none))],
  [some ([none, none], some (none)), some ([none, none], some (none))]]
def u2_T : AT := fun f => (u2_t.getD (f / 16) []).getD (f % 16) none
def u2_v : List (List (List AVs)) := [[[], [], [], [], [], [some [0], none, none], [some [0], none, none], [some [0], none, none], [], [], [], [], [], [some [0], none, none, none], [some [0], none, none], [some [0], none, none]],
  [[some [0], none, none], [some [0], none], [some [0], none, none], [some [0], none, none], [some [0], none, none], [some [0], none], [some [0], none, none, none], [some [0], none, none, none, none, none, none], [some [0], none], [some [0]], [some [0], none, none, none], [some [0], none, none, none], [some [0], none, none, none, none], [some [0], none, none, none], [some [0]], [some [0], none, none, none, none]],
  [[some [0], none, none, none], [some [0], none, none, none, none], [some [0], none, none], [some [0], none], [some [0], none, none, none, none], [some [0]], [some [0], none], [some [0], none, none, none], [], [some [0], none, none, none], [some [0], none, none, none, none, none], [some [0], none, none, none], [some [0], none, none, none, none, none, none, none], [none, none], [none, none, none], [some [0], none, none]],
  [[], [], [], [some [0], none], [some [0], none, none], [], [some [0, 10, 12, 14, 16, 18, 20, 23, 27, 53, 55, 57, 59, 71, 73, 75, 77, 79, 81, 83, 85, 87, 89, 92, 94, 96, 158, 160, 162, 164, 166, 168, 170, 172, 174, 176, 178, 180], none], [some [27, 92, 94, 96, 158, 160, 162, 166, 170, 172, 174, 176], none, none], [some [162, 164, 166, 168, 174, 178, 180], none, none], [some [92, 164, 168, 178, 180], none, none], [some [92, 94, 96, 98, 100, 102, 104, 106, 108, 110], some [8, 71, 73, 75, 77, 79, 81, 83, 85, 87, 89], none], [], [], [], [], []],
  [[], [], [], [], [], [], [], [], [], [], [], [], [], [], [], []],
  [[], [], [], [], [], [], [], [], [], [], [], [], [some [22], none, none, none, none, none, none, none], [none, none, none, none, none], [none, none, none], []],
  [[], [], [], [], [], [], [], [], [], [], [], [some [6], none], [some [6], none], [some [6], none], [some [6], none], [some [6], none, none]],
  [[some [6], none, none, none], [some [6], none], [some [6], none], [], [], [], [], [], [], [], [], [], [], [], [], []],
  [[], [], [], [], [], [], [], [], [], [], [], [], [], [], [some [91], some [6], none], [some [91], some [70]]],
  [[some [91], some [52], none, none, none, none], [some [91]], [some [70, 91], none, none], [some [91], none, none, none], [some [91], none, none], [some [70], none, none, none], [some [70, 91], none, none, none], [some [70, 91], none, none, none, none], [some [70], some [6], none, none], [some [70, 91], some [6], none, none, none, none, none], [some [70, 91], some [6], none, none, none, none, none, none, some [0, 14], none, none, none], [some [70, 91], none, none], [some [91], none, none, none, none], [], [some [70], none], [some [70], none, none, none]],
  [[], [some [70]], [some [70], none, none, none, none, none, none], [], [], [], [some [70], none, none, none], [], [], [], [], [], [some [157], some [6], some [70, 91], none, none, none, none, none], [some [157], some [6], none, none, none, none], [some [157], some [6], none, none, none, none], [some [157], none, some [170, 172], none, some [166, 174], none, none, none, none, none, none, none, none]],
  [[some [157], some [6], some [70, 91], some [178, 180], none, none], [some [157], some [6], some [91], none, none], [some [157], some [6], some [70, 91], none, none, none], [some [157], some [6], some [70, 91], none, none, none], [some [157], some [6], none, none, none, none, none, none], [], [], [], [], [], [], [], [], [], [], []],
  [[], [], [], [], [], [], [], [], [], [], [], [], [], [], [], []],
  [[], [], [], [], [], [], [], [], [], [], [], [], [], [], [], []],
  [[], [], [], [], [], [], [], [], [], [], [], [], [], [], [], []],
  [[], [], [], [], [], [], [], [], [], [], [], [], [], [], [], []],
  [[], [], [], [], [], [], [], [], [], [], [], [], [], [], [], []],
  [[], [], [], [], [], [], [], [], [], [], [], [], [], [], [], []],
  [[], [], [], [], [], [], [], [], [], [], [], [], [], [], [], []],
  [[], [], [], [], [], [], [], [], [], [], [], [], [], [], [], []],
  [[], [], [], [], [], [], [], [], [], [], [], [], [], [], [none], [none]],
  [[none, none], [none, none]]]
def u2_V : AL := fun f => (u2_v.getD (f / 16) []).getD (f % 16) []
def u2_W : AW := ([28, 93, 95, 97, 99, 101, 103, 105, 107, 109, 111, 159, 161, 163, 165, 167, 169, 171, 173, 175, 177, 179, 181], [(0, 15), (91, 10), (91, 11), (157, 10)])
def u2_k (i : Nat) : Bool := (List.range 16).all fun j => (u2_T (16 * i + j)).isNone || aM u2_T u2_V u2_W g_M (16 * i + j)
theorem u2_k0 : u2_k 0 = true := by decide +kernel
theorem u2_k1 : u2_k 1 = true := by decide +kernel
theorem u2_k2 : u2_k 2 = true := by decide +kernel
theorem u2_k3 : u2_k 3 = true := by decide +kernel
theorem u2_k4 : u2_k 4 = true := by decide +kernel
theorem u2_k5 : u2_k 5 = true := by decide +kernel
theorem u2_k6 : u2_k 6 = true := by decide +kernel
theorem u2_k7 : u2_k 7 = true := by decide +kernel
theorem u2_k8 : u2_k 8 = true := by decide +kernel
theorem u2_k9 : u2_k 9 = true := by decide +kernel
theorem u2_k10 : u2_k 10 = true := by decide +kernel
theorem u2_k11 : u2_k 11 = true := by decide +kernel
theorem u2_k12 : u2_k 12 = true := by decide +kernel
theorem u2_k13 : u2_k 13 = true := by decide +kernel
theorem u2_k14 : u2_k 14 = true := by decide +kernel
theorem u2_k15 : u2_k 15 = true := by decide +kernel
theorem u2_k16 : u2_k 16 = true := by decide +kernel
theorem u2_k17 : u2_k 17 = true := by decide +kernel
theorem u2_k18 : u2_k 18 = true := by decide +kernel
theorem u2_k19 : u2_k 19 = true := by decide +kernel
theorem u2_k20 : u2_k 20 = true := by decide +kernel
theorem u2_k21 : u2_k 21 = true := by decide +kernel
theorem u2_len : u2_t.length = 22 := by decide +kernel
theorem u2_all (f : Nat) {p : List AVs × Option AVs} (e : u2_T f = some p) : aM u2_T u2_V u2_W g_M f = true := by
  have hi_w : f / 16 < 22 := by
    refine Nat.lt_of_not_le fun z => ?_
    have k : u2_T f = none := by
      unfold u2_T
      rw [List.getD_eq_getElem?_getD (l := u2_t), List.getElem?_eq_none (by rw [u2_len]; exact z)]
      rfl
    rw [k] at e
    cases e
  have key_w : u2_k (f / 16) = true := by
    generalize f / 16 = i at hi_w ⊢
    match i, hi_w with
    | 0, _ => exact u2_k0
    | 1, _ => exact u2_k1
    | 2, _ => exact u2_k2
    | 3, _ => exact u2_k3
    | 4, _ => exact u2_k4
    | 5, _ => exact u2_k5
    | 6, _ => exact u2_k6
    | 7, _ => exact u2_k7
    | 8, _ => exact u2_k8
    | 9, _ => exact u2_k9
    | 10, _ => exact u2_k10
    | 11, _ => exact u2_k11
    | 12, _ => exact u2_k12
    | 13, _ => exact u2_k13
    | 14, _ => exact u2_k14
    | 15, _ => exact u2_k15
    | 16, _ => exact u2_k16
    | 17, _ => exact u2_k17
    | 18, _ => exact u2_k18
    | 19, _ => exact u2_k19
    | 20, _ => exact u2_k20
    | 21, _ => exact u2_k21
    | i + 22, hi_w => omega
  have k := List.all_eq_true.mp key_w (f % 16) (List.mem_range.mpr (Nat.mod_lt _ (by decide)))
  rw [show 16 * (f / 16) + f % 16 = f from Nat.div_add_mod f 16, e] at k
  exact k
theorem snd_u2 {xs : Nat → Int} {L K : Nat} : ∀ n, SndC (aK u2_T u2_W) (evF xs L g_ck K g_cW g_M n) := snd_all snd_none (fun f av h Q hQ => Or.inr (aM_ok (fun _ _ _ _ z => z) (u2_all f hQ.choose_spec.1)))
