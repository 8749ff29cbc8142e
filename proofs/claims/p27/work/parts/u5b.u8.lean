/-! ===== grid and work of the class: what they may_w write_w (written_w by wip/tools/places_w.py) ===== -/
def u8_t : List (List (Option (List AVs × Option AVs))) := [[none, none, some ([some [0]], some (none)), some ([some [0]], none), some ([some [0]], some (none)), none, none, none, none, none, none, none, none, none, none, none],
  [none, none, none, none, none, none, none, none, none, none, none, none, none, none, none, none],
  [none, none, none, none, none, none, none, none, none, none, none, none, none, none, none, none],
  [none, none, none, none, none, none, some ([some [4, 16, 20, 48], none], some (none)), some ([some [4, 31, 33, 37, 39, 41, 43, 46, 48, 62, 64, 66, 68, 73], none, none], none), some ([some [35], none, none], none), some ([some [31, 35, 71], none], none), some ([some [8, 10, 12, 14, 16, 18, 20, 23, 53, 55, 57, 59, 75], some [8, 31, 33, 35, 37, 39, 41, 43, 46, 62, 64, 66, 68]], none), none, none, some ([some [2]], none), none, some ([some [2]], none)],
  [some ([some [2]], none), some ([some [2]], none), some ([some [2]], none), some ([some [2], none], some (none)), some ([some [2], none], some (none)), some ([none], some (none)), some ([none], some (none)), some ([none], some (none)), some ([some [2]], some (none)), some ([some [2]], some (none)), some ([some [2], none], some (none)), some ([some [2]], some (none)), some ([some [2]], some (none)), some ([some [2]], some (none)), none, some ([some [45]], none)],
  [some ([some [22], some [45]], none), some ([some [45], some [2]], some (none)), some ([some [2]], some (none)), some ([some [2]], some (none)), some ([none], some (none)), some ([some [45], none], some (none)), some ([some [45], none], some (none)), some ([some [45], none], some (none)), some ([some [45]], some (none)), some ([some [45], none], none), some ([some [45]], none), some ([some [45], none], none), none, none, none, none],
  [some ([some [29]], none), some ([some [6], some [29]], none), some ([some [29], none, none, some [4], none], none), some ([some [29], none], none), some ([some [29], none, none, none, none], none), some ([some [29], none, none], none), some ([some [29], none], some (none)), some ([some [6, 29], none], some (none)), some ([some [6, 29], none], some (none)), some ([some [6, 29], none, none, none], some (none)), some ([some [29], none], some (none)), none, none, none, none, none],
  [none, some ([some [6], none], some (none)), some ([some [6], none], some (none)), none, some ([some [61], none, none, none, none], none), some ([some [52], some [61]], none), none, some ([some [1], some [29]], some (none)), some ([some [1], some [6], some [61]], some (none)), some ([none], some (none)), some ([some [1], some [29]], some (none)), some ([some [1], some [29]], some (none)), some ([some [1], some [29]], some (none)), some ([some [1], some [29]], some (none)), some ([some [1], some [29]], some (none)), some ([none], some (none))],
  [some ([some [1], some [29]], some (none)), some ([some [1], some [6], some [61]], some (none)), some ([some [1], some [6], some [61]], some (none)), some ([some [1], some [6], some [61]], some (none)), some ([some [1], some [61]], some (none)), some ([some [1], none], some (none)), some ([some [1]], some (none)), some ([some [1], none], some (none)), some ([some [1], none, none], some (none)), some ([some [1], none], some (none)), some ([some [1]], some (none)), some ([some [1], none], some (none)), some ([some [1], some [29]], some (none)), none, some ([some [70], some [6]], none), none],
  [none, none, none, none, none, none, none, none, none, none, none, none, some ([some [70], none, none, none], none), none, none, none],
  [none, none, none, none, none, none, none, none, none, none, none, none, none, none, none, none],
  [none, none, none, none, none, none, none, none, none, none, none, none, none, none, none, none],
  [none, none, none, none, none, none, none, none, none, none, none, none, none, none, none, none],
  [none, none, none, none, none, none, none, none, none, none, none, none, none, none, none, none],
  [none, none, none, none, none, none, none, none, none, none, none, none, none, none, none, none],
  [none, none, none, none, none, none, none, none, none, none, none, none, none, none, none, none],
  [none, none, none, none, none, none, none, none, none, none, none, none, none, none, none, none],
  [none, none, none, none, none, none, none, none, none, none, none, none, none, none, none, none],
  [none, none, none, none, none, none, none, none, none, none, none, none, none, none, none, none],
  [none, none, none, none, none, none, none, none, none, none, none, none, none, none, none, none],
  [none, none, none, none, none, none, none, none, none, none, none, none, none, some ([none, none], some (none))]]
def u8_T : AT := fun f => (u8_t.getD (f / 16) []).getD (f % 16) none
def u8_v : List (List (List AVs)) := [[[], [], [some [0], none], [some [0]], [some [0], none], [], [], [], [], [], [], [], [], [], [], []],
  [[], [], [], [], [], [], [], [], [], [], [], [], [], [], [], []],
  [[], [], [], [], [], [], [], [], [], [], [], [], [], [], [], []],
  [[], [], [], [], [], [], [some [4, 16, 20, 48], none], [some [4, 31, 33, 37, 39, 41, 43, 46, 48, 62, 64, 66, 68, 73], none, none], [some [35], none, none], [some [31, 35, 71], none, none], [some [8, 10, 12, 14, 16, 18, 20, 23, 53, 55, 57, 59, 75], some [8, 31, 33, 35, 37, 39, 41, 43, 46, 62, 64, 66, 68], none], [], [], [some [2]], [], [some [2]]],
  [[some [2], none], [some [2], none, none], [some [2], none, none], [some [2], none, none], [some [2], none], [none], [none], [none], [some [2]], [some [2]], [some [2], none], [some [2]], [some [2]], [some [2], none], [], [some [45]]],
  [[some [22], some [45]], [some [45], some [2], none, none, none], [some [2], none], [some [2], none], [none], [some [45], none, none], [some [45], none], [some [45], none], [some [45]], [some [45], none], [some [45], none], [some [45], none, none], [], [], [], []],
  [[some [29]], [some [6], some [29], none], [some [29], none, none, none, some [4], none, none, none], [some [29], none, none], [some [29], none, none, none, none, none], [some [29], none, none, none], [some [29], none, none], [some [6, 29], none, none], [some [6, 29], none, none], [some [6, 29], none, none, none, none, none], [some [29], none, none], [], [], [], [], []],
  [[], [some [6], none], [some [6], none], [], [some [61], none, none, none, none], [some [52], some [61]], [], [some [1], some [29], none, none, none], [some [1], some [6], some [61], none, none, none], [none], [some [1], some [29]], [some [1], some [29], none], [some [1], some [29], none, none, none], [some [1], some [29]], [some [1], some [29], none, none, none, none], [none]],
  [[some [1], some [29], none], [some [1], some [6], some [61], none, none], [some [1], some [6], some [61], none], [some [1], some [6], some [61], none], [some [1], some [61]], [some [1], none], [some [1]], [some [1], none], [some [1], none, none], [some [1], none, none], [some [1]], [some [1], none], [some [1], some [29]], [], [some [70], some [6], none], []],
  [[], [], [], [], [], [], [], [], [], [], [], [], [some [70], none, none, none, none], [], [], []],
  [[], [], [], [], [], [], [], [], [], [], [], [], [], [], [], []],
  [[], [], [], [], [], [], [], [], [], [], [], [], [], [], [], []],
  [[], [], [], [], [], [], [], [], [], [], [], [], [], [], [], []],
  [[], [], [], [], [], [], [], [], [], [], [], [], [], [], [], []],
  [[], [], [], [], [], [], [], [], [], [], [], [], [], [], [], []],
  [[], [], [], [], [], [], [], [], [], [], [], [], [], [], [], []],
  [[], [], [], [], [], [], [], [], [], [], [], [], [], [], [], []],
  [[], [], [], [], [], [], [], [], [], [], [], [], [], [], [], []],
  [[], [], [], [], [], [], [], [], [], [], [], [], [], [], [], []],
  [[], [], [], [], [], [], [], [], [], [], [], [], [], [], [], []],
  [[], [], [], [], [], [], [], [], [], [], [], [], [], [none, none, none]]]
def u8_V : AL := fun f => (u8_v.getD (f / 16) []).getD (f % 16) []
def u8_W : AW := ([5, 7, 9, 11, 13, 15, 17, 19, 21, 24, 30, 32, 34, 36, 38, 40, 42, 44, 47, 49, 54, 56, 58, 60, 63, 65, 67, 69, 72, 74, 76], [(0, 13), (0, 14), (0, 15), (1, 2), (1, 3), (1, 4), (1, 5), (1, 6), (1, 7), (1, 8), (2, 1), (2, 2), (2, 3), (2, 4), (2, 5), (2, 6), (6, 9), (6, 10), (6, 11), (6, 12), (22, 3), (29, 9), (29, 10), (29, 11), (29, 12), (45, 3), (45, 4), (45, 5), (52, 4), (61, 4), (70, 10), (70, 11), (154, 1)])
def u8_k (i : Nat) : Bool := (List.range 16).all fun j => (u8_T (16 * i + j)).isNone || aM u8_T u8_V u8_W g_M (16 * i + j)
theorem u8_k0 : u8_k 0 = true := by decide +kernel
theorem u8_k1 : u8_k 1 = true := by decide +kernel
theorem u8_k2 : u8_k 2 = true := by decide +kernel
theorem u8_k3 : u8_k 3 = true := by decide +kernel
theorem u8_k4 : u8_k 4 = true := by decide +kernel
theorem u8_k5 : u8_k 5 = true := by decide +kernel
theorem u8_k6 : u8_k 6 = true := by decide +kernel
theorem u8_k7 : u8_k 7 = true := by decide +kernel
theorem u8_k8 : u8_k 8 = true := by decide +kernel
theorem u8_k9 : u8_k 9 = true := by decide +kernel
theorem u8_k10 : u8_k 10 = true := by decide +kernel
theorem u8_k11 : u8_k 11 = true := by decide +kernel
theorem u8_k12 : u8_k 12 = true := by decide +kernel
theorem u8_k13 : u8_k 13 = true := by decide +kernel
theorem u8_k14 : u8_k 14 = true := by decide +kernel
theorem u8_k15 : u8_k 15 = true := by decide +kernel
theorem u8_k16 : u8_k 16 = true := by decide +kernel
theorem u8_k17 : u8_k 17 = true := by decide +kernel
theorem u8_k18 : u8_k 18 = true := by decide +kernel
theorem u8_k19 : u8_k 19 = true := by decide +kernel
theorem u8_k20 : u8_k 20 = true := by decide +kernel
theorem u8_len : u8_t.length = 21 := by decide +kernel
theorem u8_all (f : Nat) {p : List AVs × Option AVs} (e : u8_T f = some p) : aM u8_T u8_V u8_W g_M f = true := by
  have hi_w : f / 16 < 21 := by
    refine Nat.lt_of_not_le fun z => ?_
    have k : u8_T f = none := by
      unfold u8_T
      rw [List.getD_eq_getElem?_getD (l := u8_t), List.getElem?_eq_none (by rw [u8_len]; exact z)]
      rfl
    rw [k] at e
    cases e
  have key : u8_k (f / 16) = true := by
    generalize f / 16 = i at hi_w ⊢
    match i, hi_w with
    | 0, _ => exact u8_k0
    | 1, _ => exact u8_k1
    | 2, _ => exact u8_k2
    | 3, _ => exact u8_k3
    | 4, _ => exact u8_k4
    | 5, _ => exact u8_k5
    | 6, _ => exact u8_k6
    | 7, _ => exact u8_k7
    | 8, _ => exact u8_k8
    | 9, _ => exact u8_k9
    | 10, _ => exact u8_k10
    | 11, _ => exact u8_k11
    | 12, _ => exact u8_k12
    | 13, _ => exact u8_k13
    | 14, _ => exact u8_k14
    | 15, _ => exact u8_k15
    | 16, _ => exact u8_k16
    | 17, _ => exact u8_k17
    | 18, _ => exact u8_k18
    | 19, _ => exact u8_k19
    | 20, _ => exact u8_k20
    | i + 21, hi_w => omega
  have k := List.all_eq_true.mp key (f % 16) (List.mem_range.mpr (Nat.mod_lt _ (by decide)))
  rw [show 16 * (f / 16) + f % 16 = f from Nat.div_add_mod f 16, e] at k
  exact k
theorem snd_u8 {xs : Nat → Int} {L K : Nat} : ∀ n, SndC (aK u8_T u8_W) (evF xs L g_ck K g_cW g_M n) := snd_all snd_none (fun f av h Q hQ => Or.inr (aM_ok (fun _ _ _ _ z => z) (u8_all f hQ.choose_spec.1)))
