/-! ===== what the reference's told_w rows hold: grid, law_w, work ===== -/
/-- a law's codes_w, from a height of the pile to another one -/
def htO (t : Nat) : List Int → Option Nat
  | [] => some t
  | x :: l => if x % 16 = 1 ∧ 0 ≤ x then (if t < 63 then htO (t + 1) l else none)
    else if x % 16 = 2 ∧ 0 ≤ x ∧ x < 64 then (if t < 63 then htO (t + 1) l else none)
    else if x % 16 = 3 ∧ 0 ≤ x then (if 1 ≤ t then htO t l else none)
    else if 4 ≤ x % 16 ∧ 0 ≤ x then (if 2 ≤ t then htO (t - 1) l else none)
    else none
/-- codes_w that lie from a place_w on_w -/
def Seg (f : Nat → Int) (at0_w : Nat) (l : List Int) : Prop := ∀ k : Nat, k < l.length → f (at0_w + k) = l.getD k 0
def CodeOK (f : Nat → Int) (at0_w : Nat) : Prop := ∃ l : List Int, Seg f at0_w l ∧ f (at0_w + l.length) = 0 ∧ at0_w + l.length < 1100 ∧ htO 0 l = some 1
/-- the grid that lies from o on_w, with so many_w classes and meters -/
def GridOK (f : Nat → Int) (o : Nat) (nM nC : Int) : Prop := (∀ m : Nat, (m : Int) < nM → 0 ≤ f (o + (74 + 3 * m)) ∧ f (o + (74 + 3 * m)) < nC) ∧ (∀ c : Nat, (c : Int) < nC → 1 ≤ f (o + (18 + 14 * c)) ∧ f (o + (18 + 14 * c)) ≤ 12)
def LineOK (P : Int × Int) (k a b c : Int) : Prop := (k = 0 → 0 ≤ a ∧ a < P.1 ∧ 0 ≤ b ∧ b ≤ 12 ∧ 0 ≤ c ∧ c ≤ 9999) ∧ (k = 1 → 0 ≤ a ∧ a < P.1 ∧ 0 ≤ b ∧ b ≤ 3 ∧ 0 ≤ c ∧ c ≤ 11) ∧ (k = 2 → 0 ≤ a ∧ a ≤ 11 ∧ 0 ≤ b ∧ b ≤ 9999)
def WorkOK (P : Int × Int) (f : Nat → Int) : Prop := ∀ n : Nat, (n : Int) < f 0 → LineOK P (f (1 + 4 * n)) (f (2 + 4 * n)) (f (3 + 4 * n)) (f (4 + 4 * n))
def RJ (P : Int × Int) (h : XH) : Prop := GridOK (h 188) 0 P.1 P.2 ∧ (0 ≤ h 188 4 → CodeOK (h 189) (h 188 4).toNat) ∧ WorkOK P (h 191)
theorem rj_js {P : Int × Int} : JS (r_T 0) (RJ P) := fun h h' hk hj => by
  have e1_w : h' 188 = h 188 := funext fun k => hk 188 k rfl
  have e2_w : h' 189 = h 189 := funext fun k => hk 189 k rfl
  have e3_w : h' 191 = h 191 := funext fun k => hk 191 k rfl
  unfold RJ at hj ⊢
  rw [e1_w, e2_w, e3_w]
  exact hj
section RJS
variable {P : Int × Int} {T : QT} {J : XH → Prop} {h : XH} {g : Nat × Nat} {xs : Nat → Int} {L K : Nat} {ck : Nat → List Nat} {cW : Nat → Nat → Int}
theorem il1 {a : IT} {v : List Int} (hv : IL P [a] v) : ∃ x, v = [x] ∧ IV P a x := IL.one hv
theorem il2 {a b : IT} {v : List Int} (hv : IL P [a, b] v) : ∃ x y, v = [x, y] ∧ IV P a x ∧ IV P b y := by
  match v, hv with
  | [x, y], hv => exact ⟨x, y, rfl, hv.1, hv.2.1⟩
theorem il3 {a b c : IT} {v : List Int} (hv : IL P [a, b, c] v) : ∃ x y z, v = [x, y, z] ∧ IV P a x ∧ IV P b y ∧ IV P c z := by
  match v, hv with
  | [x, y, z], hv => exact ⟨x, y, z, rfl, hv.1, hv.2.1, hv.2.2.1⟩
theorem il4 {a b c d : IT} {v : List Int} (hv : IL P [a, b, c, d] v) : ∃ x y z w, v = [x, y, z, w] ∧ IV P a x ∧ IV P b y ∧ IV P c z ∧ IV P d w := by
  match v, hv with
  | [x, y, z, w], hv => exact ⟨x, y, z, w, rfl, hv.1, hv.2.1, hv.2.2.1, hv.2.2.2.1⟩
theorem il5 {a b c d e : IT} {v : List Int} (hv : IL P [a, b, c, d, e] v) : ∃ x y z w u, v = [x, y, z, w, u] ∧ IV P a x ∧ IV P b y ∧ IV P c z ∧ IV P d w ∧ IV P e u := by
  match v, hv with
  | [x, y, z, w, u], hv => exact ⟨x, y, z, w, u, rfl, hv.1, hv.2.1, hv.2.2.1, hv.2.2.2.1, hv.2.2.2.2.1⟩
theorem il6 {a b c d e f : IT} {v : List Int} (hv : IL P [a, b, c, d, e, f] v) : ∃ x y z w u s, v = [x, y, z, w, u, s] ∧ IV P a x ∧ IV P b y ∧ IV P c z ∧ IV P d w ∧ IV P e u ∧ IV P f s := by
  match v, hv with
  | [x, y, z, w, u, s], hv => exact ⟨x, y, z, w, u, s, rfl, hv.1, hv.2.1, hv.2.2.1, hv.2.2.2.1, hv.2.2.2.2.1, hv.2.2.2.2.2.1⟩
/-- what a region of the reference's tables_w says_w of a cell_w -/
theorem q_cell (hQ : QK P (r_T 0) J h) {q r : Nat} {x : Nat × Nat × IT} (hq : 183 ≤ q) (hr : (r_A q).2.2[r]? = some x) (hb_w : (r_A q).2.1 = 0) {i : Nat} (h1 : x.1 ≤ i) (h2 : i < x.2.1) : IV P x.2.2 (h q i) := by
  have k := hQ.2.2.1 q hq x (List.mem_of_getElem? hr) i 0 h1 h2 (by decide)
  have e : (qA (r_T 0) q).2.1 = 0 := hb_w
  rw [e, Nat.zero_mul, Nat.zero_add] at k
  exact k
/-- of a block_w of the state_w -/
theorem s_cell (hQ : QK P (r_T 0) J h) {r : Nat} {x : Nat × Nat × IT} (hr : (r_A 194).2.2[r]? = some x) {i j : Nat} (h1 : x.1 ≤ i) (h2 : i < x.2.1) (hj : j < 12) : IV P x.2.2 (h 194 (429 * j + i)) :=
  hQ.2.2.1 194 (by decide) x (List.mem_of_getElem? hr) i j h1 h2 hj
/-- a method_w by hand_w -/
theorem tr_of {n f o ml_w : Nat} {pk_w rk : List Nat} {bd : SX} {av : List Int} {B : List Int → XH → Prop} (hm_w : g_M f = (o, ml_w, pk_w, rk, bd)) (hw : wS (a_g3, g) (evF xs L ck K cW g_M n) K bd (j_pad 0 ml_w (j_lay pk_w av)) h (fun c vs _ h' => c = 1 ∧ B vs h')) : ∃ r h', evF xs L ck K cW g_M (n + 1) f av ((a_g3, g), h) = some (1, r, ((a_g3, g), h')) ∧ B r h' := wF_ok (M := g_M) (f := f) (by rw [hm_w]; exact hw)
theorem tot_hand {n f o ml_w : Nat} {pk_w rk : List Nat} {bd : SX} {ps_w rs : List IT} (hm_w : g_M f = (o, ml_w, pk_w, rk, bd)) (hP : qP (r_T 0) f = ps_w) (hR : qR (r_T 0) f = rs) (hU : qU (r_T 0) f = ps_w)
    (hw : ∀ av h, QK P (r_T 0) J h → IL P ps_w av → wS (a_g3, g) (evF xs L ck K cW g_M n) K bd (j_pad 0 ml_w (j_lay pk_w av)) h (fun c vs _ h' => c = 1 ∧ QK P (r_T 0) J h' ∧ KR (r_T 0) h h' ∧ IL P rs vs)) : TotR P (r_T 0) J g (evF xs L ck K cW g_M (n + 1)) f := by
  intro av h hQ hv
  rw [hP] at hv
  obtain ⟨r, h', e1_w, e2_w, e3_w, e4_w⟩ := tr_of hm_w (hw av h hQ hv)
  refine ⟨r, h', e1_w, e2_w, e3_w, ?_, fun _ => ?_⟩
  · rw [hR]
    exact e4_w
  · rw [hU]
    exact hv
end RJS
