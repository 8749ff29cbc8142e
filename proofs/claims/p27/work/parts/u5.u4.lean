/-! ===== all calls of the class but feed, grid, work, run, mark_w: what they may_w write_w (written_w by wip/tools/places_w.py) ===== -/
def u4_t : List (List (Option (List AVs × Option AVs))) := [[none, none, none, none, none, some ([some [0], none, none], some (none)), some ([some [0], none, none], some (none)), some ([some [0], none, none], some (none)), some ([some [0], none, none, none], some (none)), some ([some [0], none, none, none], some (none)), some ([some [0], none, none], some (none)), none, some ([some [0]], some (none)), some ([some [0], none], some (none)), some ([some [0], none, none], some (none)), some ([some [0], none, none], some (none))],
  [some ([some [0], none, none], some (none)), some ([some [0], none], some (none)), some ([some [0], none, none], some (none)), some ([some [0], none, none], some (none)), some ([some [0], none, none], some (none)), some ([some [0], none], some (none)), some ([some [0], none], some (none)), some ([some [0], none, none], some (none)), some ([some [0], none], some (none)), some ([some [0]], some (none)), some ([some [0]], some (none)), some ([some [0], none, none, none], some (none)), some ([some [0], none, none, none], some (none)), some ([some [0], none], some (none)), some ([some [0]], some (none)), some ([some [0], none, none], some (none))],
  [some ([some [0], none, none], some (none)), some ([some [0], none, none, none, none], some (none)), some ([some [0], none, none], some (none)), some ([some [0], none], some (none)), some ([some [0]], some (none)), some ([some [0]], none), some ([some [0], none], some (none)), some ([some [0], none], some (none)), some ([some [0], none, none, none], some (none)), some ([some [0]], some (none)), some ([some [0]], some (none)), some ([some [0], none, none, none], some (none)), some ([some [0], none, none], none), some ([none], some (none)), some ([none, none], some (none)), some ([some [0]], some (none))],
  [none, none, none, some ([some [0], none], some (none)), some ([some [0]], some (none)), none, some ([some [0, 10, 12, 14, 16, 18, 20, 23, 27, 53, 55, 57, 59, 71, 73, 75, 77, 79, 81, 83, 85, 87, 89, 92, 94, 96, 155, 158, 160, 162, 164, 166, 168, 170, 172, 174, 176, 178, 180], none], some (none)), some ([some [27, 71, 73, 75, 85, 87, 89, 92, 94, 96, 155, 158, 160, 162, 166, 170, 172, 174, 176], none, none], none), some ([some [162, 164, 166, 168, 174, 178, 180], none, none], none), some ([some [92, 164, 168, 178, 180], none], none), some ([some [92, 94, 96, 98, 100, 102, 104, 106, 108, 110], some [8, 71, 73, 75, 77, 79, 81, 83, 85, 87, 89]], none), some ([some [155], none], none), none, none, none, none],
  [none, none, none, none, none, none, none, none, none, none, none, none, none, none, none, none],
  [none, none, none, none, none, none, none, none, none, none, none, none, some ([some [22], none, none, none, none], some (none)), some ([none, none, none, none, none], some (none)), some ([none, none, none], some (none)), none],
  [none, none, none, none, none, none, none, none, none, none, none, some ([some [6], none], some (none)), some ([some [6], none], some (none)), some ([some [6], none], some (none)), some ([some [6], none], some (none)), some ([some [6], none, none], some (none))],
  [some ([some [6], none, none, none], some (none)), some ([some [6], none], some (none)), some ([some [6], none], some (none)), none, none, none, none, none, none, none, none, none, none, none, none, none],
  [none, none, none, none, none, none, none, none, none, none, none, none, none, none, some ([some [91], some [6]], none), some ([some [91], some [70]], none)],
  [some ([some [91], some [52], none], some (none)), some ([some [91]], some (none)), some ([some [70, 91], none, none], some (none)), some ([some [70, 91], none, none, none], none), some ([some [91], none], none), some ([some [70], none], some (none)), some ([some [70, 91], none, none], some (none)), some ([some [70, 91], none, none, none], some (none)), some ([some [70], some [6], none, none], some (none)), some ([some [70, 91], some [6], none, none], some (none)), some ([some [70, 91], some [6], none, none, none, none], some (none)), some ([some [70, 91], none, none], some (none)), some ([some [70, 91], none, none, none], none), some ([some [70], none, none, none], none), some ([some [70], none], some (none)), some ([some [70], none, none, none], some (none))],
  [none, some ([some [70]], some (none)), some ([some [70], none, none, none], some (none)), none, none, some ([some [70], none, none, none], some (none)), some ([some [70], none, none], some (none)), none, some ([some [154], some [70], none, none, none], none), some ([some [154], some [70]], some (none)), some ([some [154], some [70], none, none], none), none, some ([some [157], some [6], some [70, 91], none], none), some ([some [157], some [6], none], none), some ([some [157], some [6], none], none), some ([some [157], none, some [170, 172], none, some [166, 174]], none)],
  [some ([some [157], some [6], some [70, 91], some [178, 180]], none), some ([some [157], some [6], some [91]], some (none)), some ([some [157], some [6], some [70, 91], none], some (none)), some ([some [157], some [6], some [70, 91]], some (none)), some ([some [157], some [6], none], some (none)), none, none, none, none, none, none, none, none, none, none, none],
  [none, none, none, none, none, none, none, none, none, none, none, none, none, none, none, none],
  [none, none, none, none, none, none, none, none, none, none, none, none, none, none, none, none],
  [none, none, none, none, none, none, none, none, none, none, none, none, none, none, none, none],
  [none, none, none, none, none, none, none, none, none, none, none, none, none, none, none, none],
  [none, none, none, none, none, none, none, none, none, none, none, none, none, none, none, none],
  [none, none, none, none, none, none, none, none, none, none, none, none, none, none, none, none],
  [none, none, none, none, none, none, none, none, none, none, none, none, none, none, none, none],
  [none, none, none, none, none, none, none, none, none, none, none, none, none, none, none, none],
  [none, none, none, none, none, none, none, none, none, none, none, none, none, none, some ([none], some (none)), some ([none], some (none))],
  [some ([none, none], some (none)), some ([none, none], some (none))]]
def u4_T : AT := fun f => (u4_t.getD (f / 16) []).getD (f % 16) none
def u4_v : List (List (List AVs)) := [[[], [], [], [], [], [some [0], none, none], [some [0], none, none], [some [0], none, none], [some [0], none, none, none, none], [some [0], none, none, none, none], [some [0], none, none, none], [], [some [0]], [some [0], none, none, none], [some [0], none, none], [some [0], none, none]],
  [[some [0], none, none], [some [0], none], [some [0], none, none], [some [0], none, none], [some [0], none, none], [some [0], none], [some [0], none, none, none], [some [0], none, none, none, none, none, none], [some [0], none], [some [0]], [some [0], none, none, none], [some [0], none, none, none], [some [0], none, none, none, none], [some [0], none, none, none], [some [0]], [some [0], none, none, none, none]],
  [[some [0], none, none, none], [some [0], none, none, none, none], [some [0], none, none], [some [0], none], [some [0], none, none, none, none], [some [0]], [some [0], none], [some [0], none, none, none], [some [0], none, none, none], [some [0], none, none, none], [some [0], none, none, none, none, none], [some [0], none, none, none], [some [0], none, none, none, none, none, none, none], [none, none], [none, none, none], [some [0], none, none]],
  [[], [], [], [some [0], none], [some [0], none, none], [], [some [0, 10, 12, 14, 16, 18, 20, 23, 27, 53, 55, 57, 59, 71, 73, 75, 77, 79, 81, 83, 85, 87, 89, 92, 94, 96, 155, 158, 160, 162, 164, 166, 168, 170, 172, 174, 176, 178, 180], none], [some [27, 71, 73, 75, 85, 87, 89, 92, 94, 96, 155, 158, 160, 162, 166, 170, 172, 174, 176], none, none], [some [162, 164, 166, 168, 174, 178, 180], none, none], [some [92, 164, 168, 178, 180], none, none], [some [92, 94, 96, 98, 100, 102, 104, 106, 108, 110], some [8, 71, 73, 75, 77, 79, 81, 83, 85, 87, 89], none], [some [155], none, none], [], [], [], []],
  [[], [], [], [], [], [], [], [], [], [], [], [], [], [], [], []],
  [[], [], [], [], [], [], [], [], [], [], [], [], [some [22], none, none, none, none, none, none, none], [none, none, none, none, none], [none, none, none], []],
  [[], [], [], [], [], [], [], [], [], [], [], [some [6], none], [some [6], none], [some [6], none], [some [6], none], [some [6], none, none]],
  [[some [6], none, none, none], [some [6], none], [some [6], none], [], [], [], [], [], [], [], [], [], [], [], [], []],
  [[], [], [], [], [], [], [], [], [], [], [], [], [], [], [some [91], some [6], none], [some [91], some [70]]],
  [[some [91], some [52], none, none, none, none], [some [91]], [some [70, 91], none, none], [some [70, 91], none, none, none], [some [91], none, none], [some [70], none, none, none], [some [70, 91], none, none, none], [some [70, 91], none, none, none, none], [some [70], some [6], none, none], [some [70, 91], some [6], none, none, none, none, none], [some [70, 91], some [6], none, none, none, none, none, none, some [0, 14], none, none, none], [some [70, 91], none, none], [some [70, 91], none, none, none, none], [some [70], none, none, none], [some [70], none], [some [70], none, none, none]],
  [[], [some [70]], [some [70], none, none, none, none, none, none], [], [], [some [70], none, none, none], [some [70], none, none, none], [], [some [154], some [70], none, none, none, none, none, none], [some [154], some [70], none, none, none], [some [154], some [70], none, none, none], [], [some [157], some [6], some [70, 91], none, none, none, none, none], [some [157], some [6], none, none, none, none], [some [157], some [6], none, none, none, none], [some [157], none, some [170, 172], none, some [166, 174], none, none, none, none, none, none, none, none]],
  [[some [157], some [6], some [70, 91], some [178, 180], none, none], [some [157], some [6], some [91], none, none], [some [157], some [6], some [70, 91], none, none, none], [some [157], some [6], some [70, 91], none, none, none], [some [157], some [6], none, none, none, none, none, none], [], [], [], [], [], [], [], [], [], [], []],
  [[], [], [], [], [], [], [], [], [], [], [], [], [], [], [], []],
  [[], [], [], [], [], [], [], [], [], [], [], [], [], [], [], []],
  [[], [], [], [], [], [], [], [], [], [], [], [], [], [], [], []],
  [[], [], [], [], [], [], [], [], [], [], [], [], [], [], [], []],
  [[], [], [], [], [], [], [], [], [], [], [], [], [], [], [], []],
  [[], [], [], [], [], [], [], [], [], [], [], [], [], [], [], []],
  [[], [], [], [], [], [], [], [], [], [], [], [], [], [], [], []],
  [[], [], [], [], [], [], [], [], [], [], [], [], [], [], [], []],
  [[], [], [], [], [], [], [], [], [], [], [], [], [], [], [none], [none]],
  [[none, none], [none, none]]]
def u4_V : AL := fun f => (u4_v.getD (f / 16) []).getD (f % 16) []
def u4_W : AW := ([28, 72, 74, 76, 86, 88, 90, 93, 95, 97, 99, 101, 103, 105, 107, 109, 111, 156, 159, 161, 163, 165, 167, 169, 171, 173, 175, 177, 179, 181], [(0, 15), (70, 10), (70, 11), (91, 10), (91, 11), (154, 1), (157, 10)])
def u4_k (i : Nat) : Bool := (List.range 16).all fun j => (u4_T (16 * i + j)).isNone || aM u4_T u4_V u4_W g_M (16 * i + j)
theorem u4_k0 : u4_k 0 = true := by decide +kernel
theorem u4_k1 : u4_k 1 = true := by decide +kernel
theorem u4_k2 : u4_k 2 = true := by decide +kernel
theorem u4_k3 : u4_k 3 = true := by decide +kernel
theorem u4_k4 : u4_k 4 = true := by decide +kernel
theorem u4_k5 : u4_k 5 = true := by decide +kernel
theorem u4_k6 : u4_k 6 = true := by decide +kernel
theorem u4_k7 : u4_k 7 = true := by decide +kernel
theorem u4_k8 : u4_k 8 = true := by decide +kernel
theorem u4_k9 : u4_k 9 = true := by decide +kernel
theorem u4_k10 : u4_k 10 = true := by decide +kernel
theorem u4_k11 : u4_k 11 = true := by decide +kernel
theorem u4_k12 : u4_k 12 = true := by decide +kernel
theorem u4_k13 : u4_k 13 = true := by decide +kernel
theorem u4_k14 : u4_k 14 = true := by decide +kernel
theorem u4_k15 : u4_k 15 = true := by decide +kernel
theorem u4_k16 : u4_k 16 = true := by decide +kernel
theorem u4_k17 : u4_k 17 = true := by decide +kernel
theorem u4_k18 : u4_k 18 = true := by decide +kernel
theorem u4_k19 : u4_k 19 = true := by decide +kernel
theorem u4_k20 : u4_k 20 = true := by decide +kernel
theorem u4_k21 : u4_k 21 = true := by decide +kernel
theorem u4_len : u4_t.length = 22 := by decide +kernel
theorem u4_all (f : Nat) {p : List AVs × Option AVs} (e : u4_T f = some p) : aM u4_T u4_V u4_W g_M f = true := by
  have hi_w : f / 16 < 22 := by
    refine Nat.lt_of_not_le fun z => ?_
    have k : u4_T f = none := by
      unfold u4_T
      rw [List.getD_eq_getElem?_getD (l := u4_t), List.getElem?_eq_none (by rw [u4_len]; exact z)]
      rfl
    rw [k] at e
    cases e
  have key : u4_k (f / 16) = true := by
    generalize f / 16 = i at hi_w ⊢
    match i, hi_w with
    | 0, _ => exact u4_k0
    | 1, _ => exact u4_k1
    | 2, _ => exact u4_k2
    | 3, _ => exact u4_k3
    | 4, _ => exact u4_k4
    | 5, _ => exact u4_k5
    | 6, _ => exact u4_k6
    | 7, _ => exact u4_k7
    | 8, _ => exact u4_k8
    | 9, _ => exact u4_k9
    | 10, _ => exact u4_k10
    | 11, _ => exact u4_k11
    | 12, _ => exact u4_k12
    | 13, _ => exact u4_k13
    | 14, _ => exact u4_k14
    | 15, _ => exact u4_k15
    | 16, _ => exact u4_k16
    | 17, _ => exact u4_k17
    | 18, _ => exact u4_k18
    | 19, _ => exact u4_k19
    | 20, _ => exact u4_k20
    | 21, _ => exact u4_k21
    | i + 22, hi_w => omega
  have k := List.all_eq_true.mp key (f % 16) (List.mem_range.mpr (Nat.mod_lt _ (by decide)))
  rw [show 16 * (f / 16) + f % 16 = f from Nat.div_add_mod f 16, e] at k
  exact k
theorem snd_u4 {xs : Nat → Int} {L K : Nat} : ∀ n, SndC (aK u4_T u4_W) (evF xs L g_ck K g_cW g_M n) := snd_all snd_none (fun f av h Q hQ => Or.inr (aM_ok (fun _ _ _ _ z => z) (u4_all f hQ.choose_spec.1)))
