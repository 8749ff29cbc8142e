/-! ===== all_w of the class but feed and grid: what it may_w write_w (written_w by wip/tools/places_w.py) ===== -/
def u1_t : List (List (Option (List AVs × Option AVs))) := [[none, none, none, none, some ([some [0]], some (none)), some ([some [0], none, none], some (none)), some ([some [0], none, none], some (none)), some ([some [0], none, none], some (none)), some ([some [0], none, none, none], some (none)), some ([some [0], none, none, none], some (none)), some ([some [0], none, none], some (none)), some ([some [0]], some (none)), some ([some [0]], some (none)), some ([some [0], none], some (none)), some ([some [0], none, none], some (none)), some ([some [0], none, none], some (none))],
  [some ([some [0], none, none], some (none)), some ([some [0], none], some (none)), some ([some [0], none, none], some (none)), some ([some [0], none, none], some (none)), some ([some [0], none, none], some (none)), some ([some [0], none], some (none)), some ([some [0], none], some (none)), some ([some [0], none, none], some (none)), some ([some [0], none], some (none)), some ([some [0]], some (none)), some ([some [0]], some (none)), some ([some [0], none, none, none], some (none)), some ([some [0], none, none, none], some (none)), some ([some [0], none], some (none)), some ([some [0]], some (none)), some ([some [0], none, none], some (none))],
  [some ([some [0], none, none], some (none)), some ([some [0], none, none, none, none], some (none)), some ([some [0], none, none], some (none)), some ([some [0], none], some (none)), some ([some [0]], some (none)), some ([some [0]], none), some ([some [0], none], some (none)), some ([some [0], none], some (none)), some ([some [0], none, none, none], some (none)), some ([some [0]], some (none)), some ([some [0]], some (none)), some ([some [0], none, none, none], some (none)), some ([some [0], none, none], none), some ([none], some (none)), some ([none, none], some (none)), some ([some [0]], some (none))],
  [some ([some [0], none, none], some (none)), some ([some [0], none], some (none)), some ([some [0], none], some (none)), some ([some [0], none], some (none)), some ([some [0]], some (none)), none, some ([some [0, 10, 12, 14, 16, 18, 20, 23, 27, 53, 55, 57, 59, 71, 73, 75, 77, 79, 81, 83, 85, 87, 89, 92, 94, 96, 155, 158, 160, 162, 164, 166, 168, 170, 172, 174, 176, 178, 180], none], some (none)), some ([some [27, 62, 64, 66, 68, 71, 73, 75, 77, 79, 81, 83, 85, 87, 89, 92, 94, 96, 155, 158, 160, 162, 166, 170, 172, 174, 176], none, none], none), some ([some [81, 83, 162, 164, 166, 168, 174, 178, 180], none, none], none), some ([some [92, 164, 168, 178, 180], none], none), some ([some [53, 55, 57, 59, 71, 73, 75, 77, 79, 81, 83, 85, 87, 89, 92, 94, 96, 98, 100, 102, 104, 106, 108, 110, 113, 115, 117, 119, 121, 123, 125, 127, 129, 131, 134, 136, 138, 140, 142, 144, 146, 148, 150, 152], some [8, 62, 64, 66, 68, 71, 73, 75, 77, 79, 81, 83, 85, 87, 89, 113, 115, 117, 119, 121, 123, 125, 127, 129, 131, 134, 136, 138, 140, 142, 144, 146, 148, 150, 152]], none), some ([some [155], none], none), none, some ([some [2]], none), none, some ([some [2]], none)],
  [some ([some [2]], none), some ([some [2]], none), some ([some [2]], none), some ([some [2], none], some (none)), some ([some [2], none], some (none)), some ([none], some (none)), some ([none], some (none)), some ([none], some (none)), some ([some [2]], some (none)), some ([some [2]], some (none)), some ([some [2], none], some (none)), none, some ([some [2]], some (none)), some ([some [2]], some (none)), none, none],
  [none, none, none, none, none, none, none, none, none, none, none, none, some ([some [22], none, none, none, none], some (none)), some ([none, none, none, none, none], some (none)), some ([none, none, none], some (none)), none],
  [none, none, none, none, none, none, none, some ([some [6], none], some (none)), some ([some [6], none], some (none)), some ([some [6], none, none, none], some (none)), none, some ([some [6], none], some (none)), some ([some [6], none], some (none)), some ([some [6], none], some (none)), some ([some [6], none], some (none)), some ([some [6], none, none], some (none))],
  [some ([some [6], none, none, none], some (none)), some ([some [6], none], some (none)), some ([some [6], none], some (none)), none, some ([some [61], none, none, none, none], none), some ([some [52], some [61]], none), none, none, some ([some [1], some [6], some [61]], some (none)), some ([none], some (none)), none, none, none, none, none, none],
  [none, some ([some [1], some [6], some [61]], some (none)), some ([some [1], some [6], some [61]], some (none)), some ([some [1], some [6], some [61]], some (none)), some ([some [1], some [61]], some (none)), some ([some [1], none], some (none)), some ([some [1]], some (none)), none, some ([some [1], none, none], some (none)), none, some ([some [1]], some (none)), some ([some [1], none], some (none)), none, none, some ([some [91], some [6]], none), some ([some [70, 91, 112, 133], some [70, 112, 133]], none)],
  [some ([some [91], some [52], none], some (none)), some ([some [91]], some (none)), some ([some [70, 91], none, none], some (none)), some ([some [70, 91], none, none, none], none), some ([some [91], none], none), some ([some [70], none], some (none)), some ([some [70, 91], none, none], some (none)), some ([some [70, 91], none, none, none], some (none)), some ([some [70], some [6], none, none], some (none)), some ([some [70, 91], some [6], none, none], some (none)), some ([some [70, 91], some [6], none, none, none, none], some (none)), some ([some [70, 91], none, none], some (none)), some ([some [70, 91], none, none, none], none), some ([some [70], none, none, none], none), some ([some [70], none], some (none)), some ([some [70], none, none, none], some (none))],
  [some ([some [70], none, none, none, none], none), some ([some [70]], some (none)), some ([some [70], none, none, none], some (none)), some ([some [70], some [6], none], none), some ([some [70], none, none, none], none), some ([some [70], none, none, none], some (none)), some ([some [70], none, none], some (none)), none, some ([some [154], some [70], none, none, none], none), some ([some [154], some [70]], some (none)), some ([some [154], some [70], none, none], none), none, some ([some [157], some [6], some [70, 91], none], none), some ([some [157], some [6], none], none), some ([some [157], some [6], none], none), some ([some [157], none, some [170, 172], none, some [166, 174]], none)],
  [some ([some [157], some [6], some [70, 91], some [178, 180]], none), some ([some [157], some [6], some [91]], some (none)), some ([some [157], some [6], some [70, 91], none], some (none)), some ([some [157], some [6], some [70, 91]], some (none)), some ([some [157], some [6], none], some (none)), some ([some [157], some [6], some [70]], none), none, none, none, none, none, none, none, none, none, none],
  [none, none, none, none, none, none, none, none, none, none, none, none, none, none, none, none],
  [none, none, none, none, none, none, none, none, none, none, none, none, none, none, none, none],
  [none, none, none, none, none, none, none, none, none, none, none, none, none, none, none, none],
  [none, none, none, none, none, none, none, none, none, none, none, none, none, none, none, none],
  [none, none, none, none, none, none, none, none, none, none, none, none, none, none, none, none],
  [none, none, none, none, none, none, none, none, none, none, none, none, none, none, none, none],
  [none, none, none, none, none, none, none, none, none, none, none, none, none, none, none, none],
  [none, none, none, none, none, none, none, none, none, none, none, none, none, none, none, none],
  [none, none, none, none, none, none, none, none, none, none, none, none, none, some ([none, none], some (none)), some ([none], some (none)), some ([none], some (none))],
  [some ([none, none], some (none)), some ([none, none], some (none))]]
def u1_T : AT := fun f => (u1_t.getD (f / 16) []).getD (f % 16) none
def u1_v : List (List (List AVs)) := [[[], [], [], [], [some [0], none], [some [0], none, none], [some [0], none, none], [some [0], none, none], [some [0], none, none, none, none], [some [0], none, none, none, none], [some [0], none, none, none], [some [0]], [some [0]], [some [0], none, none, none], [some [0], none, none], [some [0], none, none]],
  [[some [0], none, none], [some [0], none], [some [0], none, none], [some [0], none, none], [some [0], none, none], [some [0], none], [some [0], none, none, none], [some [0], none, none, none, none, none, none], [some [0], none], [some [0]], [some [0], none, none, none], [some [0], none, none, none], [some [0], none, none, none, none], [some [0], none, none, none], [some [0]], [some [0], none, none, none, none]],
  [[some [0], none, none, none], [some [0], none, none, none, none], [some [0], none, none], [some [0], none], [some [0], none, none, none, none], [some [0]], [some [0], none], [some [0], none, none, none], [some [0], none, none, none], [some [0], none, none, none], [some [0], none, none, none, none, none], [some [0], none, none, none], [some [0], none, none, none, none, none, none, none], [none, none], [none, none, none], [some [0], none, none]],
  [[some [0], none, none], [some [0], none], [some [0], none], [some [0], none], [some [0], none, none], [], [some [0, 10, 12, 14, 16, 18, 20, 23, 27, 53, 55, 57, 59, 71, 73, 75, 77, 79, 81, 83, 85, 87, 89, 92, 94, 96, 155, 158, 160, 162, 164, 166, 168, 170, 172, 174, 176, 178, 180], none], [some [27, 62, 64, 66, 68, 71, 73, 75, 77, 79, 81, 83, 85, 87, 89, 92, 94, 96, 155, 158, 160, 162, 166, 170, 172, 174, 176], none, none], [some [81, 83, 162, 164, 166, 168, 174, 178, 180], none, none], [some [92, 164, 168, 178, 180], none, none], [some [53, 55, 57, 59, 71, 73, 75, 77, 79, 81, 83, 85, 87, 89, 92, 94, 96, 98, 100, 102, 104, 106, 108, 110, 113, 115, 117, 119, 121, 123, 125, 127, 129, 131, 134, 136, 138, 140, 142, 144, 146, 148, 150, 152], some [8, 62, 64, 66, 68, 71, 73, 75, 77, 79, 81, 83, 85, 87, 89, 113, 115, 117, 119, 121, 123, 125, 127, 129, 131, 134, 136, 138, 140, 142, 144, 146, 148, 150, 152], none], [some [155], none, none], [], [some [2]], [], [some [2]]],
  [[some [2], none], [some [2], none, none], [some [2], none, none], [some [2], none, none], [some [2], none], [none], [none], [none], [some [2]], [some [2]], [some [2], none], [], [some [2]], [some [2], none], [], []],
  [[], [], [], [], [], [], [], [], [], [], [], [], [some [22], none, none, none, none, none, none, none], [none, none, none, none, none], [none, none, none], []],
  [[], [], [], [], [], [], [], [some [6], none, none], [some [6], none, none], [some [6], none, none, none, none, none], [], [some [6], none], [some [6], none], [some [6], none], [some [6], none], [some [6], none, none]],
  [[some [6], none, none, none], [some [6], none], [some [6], none], [], [some [61], none, none, none, none], [some [52], some [61]], [], [], [some [1], some [6], some [61], none, none, none], [none], [], [], [], [], [], []],
  [[], [some [1], some [6], some [61], none, none], [some [1], some [6], some [61], none], [some [1], some [6], some [61], none], [some [1], some [61]], [some [1], none], [some [1]], [], [some [1], none, none], [], [some [1]], [some [1], none], [], [], [some [91], some [6], none], [some [70, 91, 112, 133], some [70, 112, 133]]],
  [[some [91], some [52], none, none, none, none], [some [91]], [some [70, 91], none, none], [some [70, 91], none, none, none], [some [91], none, none], [some [70], none, none, none], [some [70, 91], none, none, none], [some [70, 91], none, none, none, none], [some [70], some [6], none, none], [some [70, 91], some [6], none, none, none, none, none], [some [70, 91], some [6], none, none, none, none, none, none, some [0, 14], none, none, none], [some [70, 91], none, none], [some [70, 91], none, none, none, none], [some [70], none, none, none], [some [70], none], [some [70], none, none, none]],
  [[some [70], none, none, none, none], [some [70]], [some [70], none, none, none, none, none, none], [some [70], some [6], none, none, none, none], [some [70], none, none, none, none], [some [70], none, none, none], [some [70], none, none, none], [], [some [154], some [70], none, none, none, none, none, none], [some [154], some [70], none, none, none], [some [154], some [70], none, none, none], [], [some [157], some [6], some [70, 91], none, none, none, none, none], [some [157], some [6], none, none, none, none], [some [157], some [6], none, none, none, none], [some [157], none, some [170, 172], none, some [166, 174], none, none, none, none, none, none, none, none]],
  [[some [157], some [6], some [70, 91], some [178, 180], none, none], [some [157], some [6], some [91], none, none], [some [157], some [6], some [70, 91], none, none, none], [some [157], some [6], some [70, 91], none, none, none], [some [157], some [6], none, none, none, none, none, none], [some [157], some [6], some [70], none, none, none, none, none], [], [], [], [], [], [], [], [], [], []],
  [[], [], [], [], [], [], [], [], [], [], [], [], [], [], [], []],
  [[], [], [], [], [], [], [], [], [], [], [], [], [], [], [], []],
  [[], [], [], [], [], [], [], [], [], [], [], [], [], [], [], []],
  [[], [], [], [], [], [], [], [], [], [], [], [], [], [], [], []],
  [[], [], [], [], [], [], [], [], [], [], [], [], [], [], [], []],
  [[], [], [], [], [], [], [], [], [], [], [], [], [], [], [], []],
  [[], [], [], [], [], [], [], [], [], [], [], [], [], [], [], []],
  [[], [], [], [], [], [], [], [], [], [], [], [], [], [], [], []],
  [[], [], [], [], [], [], [], [], [], [], [], [], [], [none, none, none], [none], [none]],
  [[none, none], [none, none]]]
def u1_V : AL := fun f => (u1_v.getD (f / 16) []).getD (f % 16) []
def u1_W : AW := ([28, 54, 56, 58, 60, 63, 65, 67, 69, 72, 74, 76, 78, 80, 82, 84, 86, 88, 90, 93, 95, 97, 99, 101, 103, 105, 107, 109, 111, 114, 116, 118, 120, 122, 124, 126, 128, 130, 132, 135, 137, 139, 141, 143, 145, 147, 149, 151, 153, 156, 159, 161, 163, 165, 167, 169, 171, 173, 175, 177, 179, 181], [(0, 13), (0, 14), (0, 15), (1, 3), (1, 4), (1, 5), (1, 6), (2, 1), (2, 2), (2, 3), (2, 4), (2, 5), (2, 6), (52, 4), (61, 4), (70, 10), (70, 11), (91, 10), (91, 11), (112, 10), (112, 11), (133, 10), (133, 11), (154, 1), (157, 10)])
def u1_k (i : Nat) : Bool := (List.range 16).all fun j => (u1_T (16 * i + j)).isNone || aM u1_T u1_V u1_W g_M (16 * i + j)
theorem u1_k0 : u1_k 0 = true := by decide +kernel
theorem u1_k1 : u1_k 1 = true := by decide +kernel
theorem u1_k2 : u1_k 2 = true := by decide +kernel
theorem u1_k3 : u1_k 3 = true := by decide +kernel
theorem u1_k4 : u1_k 4 = true := by decide +kernel
theorem u1_k5 : u1_k 5 = true := by decide +kernel
theorem u1_k6 : u1_k 6 = true := by decide +kernel
theorem u1_k7 : u1_k 7 = true := by decide +kernel
theorem u1_k8 : u1_k 8 = true := by decide +kernel
theorem u1_k9 : u1_k 9 = true := by decide +kernel
theorem u1_k10 : u1_k 10 = true := by decide +kernel
theorem u1_k11 : u1_k 11 = true := by decide +kernel
theorem u1_k12 : u1_k 12 = true := by decide +kernel
theorem u1_k13 : u1_k 13 = true := by decide +kernel
theorem u1_k14 : u1_k 14 = true := by decide +kernel
theorem u1_k15 : u1_k 15 = true := by decide +kernel
theorem u1_k16 : u1_k 16 = true := by decide +kernel
theorem u1_k17 : u1_k 17 = true := by decide +kernel
theorem u1_k18 : u1_k 18 = true := by decide +kernel
theorem u1_k19 : u1_k 19 = true := by decide +kernel
theorem u1_k20 : u1_k 20 = true := by decide +kernel
theorem u1_k21 : u1_k 21 = true := by decide +kernel
theorem u1_len : u1_t.length = 22 := by decide +kernel
theorem u1_all (f : Nat) {p : List AVs × Option AVs} (e : u1_T f = some p) : aM u1_T u1_V u1_W g_M f = true := by
  have hi_w : f / 16 < 22 := by
    refine Nat.lt_of_not_le fun z => ?_
    have k : u1_T f = none := by
      unfold u1_T
      rw [List.getD_eq_getElem?_getD (l := u1_t), List.getElem?_eq_none (by rw [u1_len]; exact z)]
      rfl
    rw [k] at e
    cases e
  have key_w : u1_k (f / 16) = true := by
    generalize f / 16 = i at hi_w ⊢
    match i, hi_w with
    | 0, _ => exact u1_k0
    | 1, _ => exact u1_k1
    | 2, _ => exact u1_k2
    | 3, _ => exact u1_k3
    | 4, _ => exact u1_k4
    | 5, _ => exact u1_k5
    | 6, _ => exact u1_k6
    | 7, _ => exact u1_k7
    | 8, _ => exact u1_k8
    | 9, _ => exact u1_k9
    | 10, _ => exact u1_k10
    | 11, _ => exact u1_k11
    | 12, _ => exact u1_k12
    | 13, _ => exact u1_k13
    | 14, _ => exact u1_k14
    | 15, _ => exact u1_k15
    | 16, _ => exact u1_k16
    | 17, _ => exact u1_k17
    | 18, _ => exact u1_k18
    | 19, _ => exact u1_k19
    | 20, _ => exact u1_k20
    | 21, _ => exact u1_k21
    | i + 22, hi_w => omega
  have k := List.all_eq_true.mp key_w (f % 16) (List.mem_range.mpr (Nat.mod_lt _ (by decide)))
  rw [show 16 * (f / 16) + f % 16 = f from Nat.div_add_mod f 16, e] at k
  exact k
theorem snd_u1 {xs : Nat → Int} {L K : Nat} : ∀ n, SndC (aK u1_T u1_W) (evF xs L g_ck K g_cW g_M n) := snd_all snd_none (fun f av h Q hQ => Or.inr (aM_ok (fun _ _ _ _ z => z) (u1_all f hQ.choose_spec.1)))
