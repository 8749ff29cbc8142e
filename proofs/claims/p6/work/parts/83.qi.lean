/-! ===== the fourth reading_w: expressions ===== -/
abbrev QO : Type := Option (List IT × List IT × List IT)
def q_one (x : QO) : Option (IT × List IT × List IT) := match x with
  | some ([t], y, z) => some (t, y, z)
  | _ => none
def q_this : IT := (4, 182, 182)
def q_arr (t : IT) : Bool := t.1 == 4 && decide (183 ≤ t.2.1) && decide (t.2.1 ≤ 202)
/-- a local by itself_w; arguments that begin with a local -/
def q_loc : SX → Option Nat
  | .op (.var 3) (.op (.var i) (.op _ _)) => some i
  | _ => none
def q_var : SX → Option (Nat × SX)
  | .op (.var 30) (.op a (.op b _)) => (q_loc a).map fun i => (i, b)
  | _ => none
def q_cut (τ : List IT) (a : SX) (op_w : Nat) (u : IT) : List IT := match q_loc a with
  | some i => τ.set i (i_ref op_w (τ.getD i (0, 0, 0)) u)
  | none => τ
def q_wth (τ : List IT) (a : SX) (l u : IT) : List IT := match q_var a with
  | some q => bif i_is l && i_is u then τ.set q.1 (i_cut (τ.getD q.1 (0, 0, 0)) (i_wd l).2.1 (i_wd u).2.2) else τ
  | none => τ
def q_tru : List IT → List IT → SX → List IT
  | [], τ, _ => τ
  | t :: ts, τ, a => match q_var a with
    | some q => q_tru ts (bif i_sub t (τ.getD q.1 (0, 0, 0)) then τ.set q.1 t else τ) q.2
    | none => τ
def q_bool : IT := (1, 0, 1)
def q_call (T : QT) (f : Nat) (a : SX) (τ : List IT) (x : List IT × List IT × List IT) : QO :=
  bif f == 274 then (match x.1 with
    | [r, u] => bif r.1 == 4 && decide (r.2.1 = 182) && i_sub u q_bool then some ([q_bool], x.2.1, x.2.2) else none
    | _ => none)
  else bif f == 198 then (match x.1 with
    | [_, l, u] => some ([q_bool], q_wth τ a l u, τ)
    | _ => none)
  else bif qC T f && i_subs x.1 (qP T f) then some (qR T f, q_tru (qU T f) τ a, τ) else none
def qN (T : QT) (t : Nat) (a b c : SX) (A B C : List IT → QO) (τ : List IT) : QO := match t with
  | 1 => match sx_n b with
    | 1 => bif okI (sx_c a b c) then some ([(1, sx_c a b c, sx_c a b c)], τ, τ) else none
    | 2 => bif okL (sx_c a b c) then some ([(2, sx_c a b c, sx_c a b c)], τ, τ) else none
    | _ => none
  | 3 => some ([τ.getD (sx_n a) (0, 0, 0)], τ, τ)
  | 4 => (q_one (A τ)).bind fun x => bif x.1.1 == 4 && decide (x.1.2.1 = 182) then some ([qF T (sx_n b)], τ, τ) else none
  | 5 => (q_one (A τ)).bind fun x => bif x.1.1 == 4 && decide (x.1.2.1 = 182) && !(qO T (sx_n b) == 0) then some ([(4, qO T (sx_n b), 0)], τ, τ) else none
  | 7 => (q_one (A τ)).bind fun x => (q_one (B τ)).bind fun y => bif q_arr x.1 && sx_n c == 0 then (ar_ld (qA T x.1.2.1.toNat) y.1).bind fun u => some ([u], τ, τ) else none
  | 10 => (q_one (A τ)).bind fun x => bif q_arr x.1 && sx_n c == 0 && okI ((qA T x.1.2.1.toNat).1 : Int) then some ([(1, (qA T x.1.2.1.toNat).1, (qA T x.1.2.1.toNat).1)], τ, τ) else none
  | 14 => (q_one (A τ)).bind fun x => (q_one (B τ)).bind fun y => some ([i_op (sx_n c) x.1 y.1], τ, τ)
  | 15 => (q_one (A τ)).bind fun _ => (q_one (B τ)).bind fun _ => some ([iL], τ, τ)
  | 16 => (q_one (A τ)).bind fun _ => (q_one (B τ)).bind fun _ => some ([iL], τ, τ)
  | 17 => (q_one (A τ)).bind fun x => (q_one (B τ)).bind fun y => (i_div (sx_n c) x.1 y.1).bind fun u => some ([u], τ, τ)
  | 18 => (q_one (A τ)).bind fun x => match sx_n c with
    | 0 => some ([i_neg x.1], τ, τ)
    | 1 => some ([iL], τ, τ)
    | 2 => (i_i2l x.1).bind fun u => some ([u], τ, τ)
    | _ => some ([iT], τ, τ)
  | 20 => (q_one (A τ)).bind fun _ => (q_one (B τ)).bind fun y => bif Nat.blt (sx_n c) 6 then some ([q_bool], q_cut τ a (sx_n c) y.1, q_cut τ a (i_not (sx_n c)) y.1) else none
  | 21 => (q_one (A τ)).bind fun _ => bif Nat.blt (sx_n c) 6 then some ([q_bool], q_cut τ a (sx_n c) (1, 0, 0), q_cut τ a (i_not (sx_n c)) (1, 0, 0)) else none
  | 22 => (q_one (A τ)).bind fun _ => (q_one (B τ)).bind fun _ => some ([q_bool], τ, τ)
  | 24 => A τ
  | 25 => (q_one (A τ)).bind fun x => (q_one (B x.2.1)).bind fun y => some ([q_bool], y.2.1, τ)
  | 26 => (q_one (A τ)).bind fun x => (q_one (B x.2.2)).bind fun y => some ([q_bool], τ, y.2.2)
  | 27 => (q_one (A τ)).bind fun x => some ([q_bool], x.2.2, x.2.1)
  | 28 => (q_one (A τ)).bind fun x => (q_one (B x.2.1)).bind fun y => (q_one (C x.2.2)).bind fun z => some ([i_lub y.1 z.1], τ, τ)
  | 30 => (q_one (A τ)).bind fun x => (B τ).bind fun y => match y.1 with
    | [] => some ([x.1], x.2.1, x.2.2)
    | u :: us => some (x.1 :: u :: us, y.2.1, y.2.2)
  | 31 => some ([], τ, τ)
  | 32 => (A τ).bind fun x => q_call T (sx_n b) a τ x
  | _ => none
def qE (T : QT) : SX → List IT → QO
  | .op (.var t) (.op a (.op b c)) => qN T t a b c (qE T a) (qE T b) (qE T c)
  | _ => fun _ => none
theorem q_one_s {x : QO} {y : IT × List IT × List IT} (h : q_one x = some y) : x = some ([y.1], y.2.1, y.2.2) := by
  unfold q_one at h
  split at h
  · cases h; rfl
  · cases h
theorem b_if {α : Type} {b : Bool} {x y : α} (h : (bif b then some x else none) = some y) : b = true ∧ x = y := by
  cases b with
  | true => exact ⟨rfl, Option.some.inj h⟩
  | false => cases h
theorem b_ifx {α : Type} {b : Bool} {x : Option α} {y : α} (h : (bif b then x else none) = some y) : b = true ∧ x = some y := by
  cases b with
  | true => exact ⟨rfl, h⟩
  | false => cases h
section QI
variable {xs : Nat → Int} {L : Nat} {ck : Nat → List Nat} {F : XP} {cW : Nat → Nat → Int} {P : Int × Int} {T : QT} {J : XH → Prop} {g : Nat × Nat} {τ τt τf bt bf ct cf_w us : List IT} {ta tb tc : IT} {A B C : XE} {a b c : SX}
theorem b01 {b : Bool} : IV P q_bool (j_b b) := by
  cases b
  · exact ⟨by decide, by decide, in_0⟩
  · exact ⟨by decide, by decide, by decide, by decide⟩
theorem b_ne {b : Bool} (h : j_b b ≠ 0) : b = true := by
  cases b
  · exact absurd rfl h
  · rfl
theorem b_eq {b : Bool} (h : j_b b = 0) : b = false := by
  cases b
  · rfl
  · cases h
/-- one number_w -/
theorem qi_one (hA : TotI P T J g τ [ta] τt τf A) {en : List Int} {h : XH} (hQ : QK P T J h) (hv : IL P τ en) : ∃ v h', A en ((a_g3, g), h) = some ([v], ((a_g3, g), h')) ∧ QK P T J h' ∧ KR T h h' ∧ IV P ta v ∧ (v ≠ 0 → IL P τt en) ∧ (v = 0 → IL P τf en) := by
  obtain ⟨r, h', e1_w, e2_w, e4_w, e5_w, e6_w, e7_w⟩ := hA en h hQ hv
  obtain ⟨v, rfl, hx⟩ := IL.one e5_w
  exact ⟨v, h', e1_w, e2_w, e4_w, hx, e6_w, e7_w⟩
/-- a number_w of what was worked out, with nothing_w known_w anew_w -/
theorem qi_un {f : Int → Int} {X : XE} (hX : ∀ en st, X en st = (A en st).bind fun x => some ([f (j_hd x.1)], x.2)) (hA : TotI P T J g τ [ta] τt τf A) (hf : ∀ v, IV P ta v → IV P tc (f v)) : TotI P T J g τ [tc] τ τ X := fun en h hQ hv => by
  obtain ⟨v, h1, a1_w, a2, a4, a5, -⟩ := qi_one hA hQ hv
  refine ⟨[f v], h1, ?_, a2, a4, ⟨hf v a5, trivial⟩, fun _ => hv, fun _ => hv⟩
  rw [hX, a1_w]
  rfl
theorem qi_bin {op_w : Int → Int → Int} (hA : TotI P T J g τ [ta] τt τf A) (hB_w : TotI P T J g τ [tb] bt bf B) (hop : ∀ v w, IV P ta v → IV P tb w → IV P tc (op_w v w)) : TotI P T J g τ [tc] τ τ (n_bin op_w A B) := fun en h hQ hv => by
  obtain ⟨v, h1, a1_w, a2, a4, a5, -⟩ := qi_one hA hQ hv
  obtain ⟨w, h2, b1, b2, b4, b5, -⟩ := qi_one hB_w a2 hv
  refine ⟨[op_w v w], h2, ?_, b2, a4.tr b4, ⟨hop v w a5 b5, trivial⟩, fun _ => hv, fun _ => hv⟩
  unfold n_bin
  rw [a1_w, Option.bind_some, b1]
  rfl
theorem q_loc_ok {i : Nat} (h : q_loc a = some i) (en : List Int) (st : XT) : evE xs L ck F cW a en st = some ([en.getD i 0], st) := by
  unfold q_loc at h
  split at h
  · cases h
    rfl
  · cases h
theorem q_var_ok {q : Nat × SX} (h : q_var a = some q) (en : List Int) (st : XT) : evE xs L ck F cW a en st = (evE xs L ck F cW q.2 en st).bind fun y => some (en.getD q.1 0 :: y.1, y.2) := by
  unfold q_var at h
  split at h
  · obtain ⟨i, h1, h2⟩ := Option.map_eq_some_iff.mp h
    cases h2
    show (evE xs L ck F cW _ en st).bind _ = _
    rw [q_loc_ok h1, Option.bind_some]
    rfl
  · cases h
theorem q_cut_ok {op_w : Nat} {en : List Int} {st st' : XT} {v w : Int} {u : IT} (ha_w : evE xs L ck F cW a en st = some ([v], st')) (hv : IL P τ en) (hw : IV P u w) (hc_w : j_cmp op_w v w = true) : IL P (q_cut τ a op_w u) en := by
  unfold q_cut
  cases hq : q_loc a with
  | none => exact hv
  | some i =>
    have e2_w := (q_loc_ok (xs := xs) (L := L) (ck := ck) (F := F) (cW := cW) hq en st).symm.trans ha_w
    have e := (some_one e2_w).1
    refine IL.put i hv (i_ref_ok (IL.at i hv) hw ?_)
    rw [e]
    exact hc_w
theorem qi_cmp {op_w : Nat} (hop : op_w < 6) (hA : TotI P T J g τ [ta] τt τf (evE xs L ck F cW a)) (hB_w : TotI P T J g τ [tb] bt bf B) : TotI P T J g τ [q_bool] (q_cut τ a op_w tb) (q_cut τ a (i_not op_w) tb) (n_cmp (j_cmp op_w) (evE xs L ck F cW a) B) := fun en h hQ hv => by
  obtain ⟨v, h1, a1_w, a2, a4, a5, -⟩ := qi_one hA hQ hv
  obtain ⟨w, h2, b1, b2, b4, b5, -⟩ := qi_one hB_w a2 hv
  refine ⟨[j_b (j_cmp op_w v w)], h2, ?_, b2, a4.tr b4, ⟨b01, trivial⟩, fun k => q_cut_ok a1_w hv b5 (b_ne k), fun k => q_cut_ok a1_w hv b5 (i_not_ok (b_eq k) hop)⟩
  unfold n_cmp
  rw [a1_w, Option.bind_some, b1]
  rfl
theorem qi_cmp0 {op_w : Nat} (hop : op_w < 6) (hA : TotI P T J g τ [ta] τt τf (evE xs L ck F cW a)) {X : XE} (hX : ∀ en st, X en st = (evE xs L ck F cW a en st).bind fun x => some ([j_b (j_cmp op_w (j_hd x.1) 0)], x.2)) : TotI P T J g τ [q_bool] (q_cut τ a op_w (1, 0, 0)) (q_cut τ a (i_not op_w) (1, 0, 0)) X := fun en h hQ hv => by
  obtain ⟨v, h1, a1_w, a2, a4, a5, -⟩ := qi_one hA hQ hv
  have b5 : IV P (1, 0, 0) 0 := ⟨by decide, by decide, in_0⟩
  refine ⟨[j_b (j_cmp op_w v 0)], h1, ?_, a2, a4, ⟨b01, trivial⟩, fun k => q_cut_ok a1_w hv b5 (b_ne k), fun k => q_cut_ok a1_w hv b5 (i_not_ok (b_eq k) hop)⟩
  rw [hX, a1_w]
  rfl
theorem qi_cmpL {op_w : Int → Int → Bool} (hA : TotI P T J g τ [ta] τt τf A) (hB_w : TotI P T J g τ [tb] bt bf B) : TotI P T J g τ [q_bool] τ τ (n_cmp op_w A B) := fun en h hQ hv => by
  obtain ⟨v, h1, a1_w, a2, a4, a5, -⟩ := qi_one hA hQ hv
  obtain ⟨w, h2, b1, b2, b4, b5, -⟩ := qi_one hB_w a2 hv
  refine ⟨[j_b (op_w v w)], h2, ?_, b2, a4.tr b4, ⟨b01, trivial⟩, fun _ => hv, fun _ => hv⟩
  unfold n_cmp
  rw [a1_w, Option.bind_some, b1]
  rfl
theorem qi_nz (hB_w : TotI P T J g τ [tb] bt bf B) : TotI P T J g τ [q_bool] bt bf (n_nz B) := fun en h hQ hv => by
  obtain ⟨w, h2, b1, b2, b4, b5, b6, b7⟩ := qi_one hB_w hQ hv
  refine ⟨[j_b (decide (w ≠ 0))], h2, ?_, b2, b4, ⟨b01, trivial⟩, fun k => b6 (of_decide_eq_true (b_ne k)), fun k => b7 (Decidable.of_not_not (of_decide_eq_false (b_eq k)))⟩
  unfold n_nz
  rw [b1]
  rfl
theorem qi_not (hA : TotI P T J g τ [ta] τt τf A) {X : XE} (hX : ∀ en st, X en st = (A en st).bind fun x => some ([j_b (decide (j_hd x.1 = 0))], x.2)) : TotI P T J g τ [q_bool] τf τt X := fun en h hQ hv => by
  obtain ⟨v, h1, a1_w, a2, a4, a5, a6, a7⟩ := qi_one hA hQ hv
  refine ⟨[j_b (decide (v = 0))], h1, ?_, a2, a4, ⟨b01, trivial⟩, fun k => a7 (of_decide_eq_true (b_ne k)), fun k => a6 (of_decide_eq_false (b_eq k))⟩
  rw [hX, a1_w]
  rfl
/-- both_w: what each_w says_w, when true -/
theorem qi_and (hA : TotI P T J g τ [ta] τt τf A) (hB_w : TotI P T J g τt [tb] bt bf B) : TotI P T J g τ [q_bool] bt τ (n_ife A (n_nz B) (fun _ st => some ([0], st))) := fun en h hQ hv => by
  obtain ⟨v, h1, a1_w, a2, a4, a5, a6, a7⟩ := qi_one hA hQ hv
  unfold n_ife
  rw [a1_w, Option.bind_some]
  by_cases h0 : v = 0
  · refine ⟨[0], h1, if_pos h0, a2, a4, ⟨b01 (b := false), trivial⟩, fun k => absurd rfl k, fun _ => hv⟩
  · obtain ⟨w, h2, b1, b2, b4, b5, b6, b7⟩ := qi_one (qi_nz hB_w) a2 (a6 h0)
    exact ⟨[w], h2, (if_neg h0).trans b1, b2, a4.tr b4, ⟨b5, trivial⟩, b6, fun _ => hv⟩
/-- one of both_w: what each_w says_w, when false -/
theorem qi_or (hA : TotI P T J g τ [ta] τt τf A) (hB_w : TotI P T J g τf [tb] bt bf B) : TotI P T J g τ [q_bool] τ bf (n_ife A (fun _ st => some ([1], st)) (n_nz B)) := fun en h hQ hv => by
  obtain ⟨v, h1, a1_w, a2, a4, a5, a6, a7⟩ := qi_one hA hQ hv
  unfold n_ife
  rw [a1_w, Option.bind_some]
  by_cases h0 : v = 0
  · obtain ⟨w, h2, b1, b2, b4, b5, b6, b7⟩ := qi_one (qi_nz hB_w) a2 (a7 h0)
    exact ⟨[w], h2, (if_pos h0).trans b1, b2, a4.tr b4, ⟨b5, trivial⟩, fun _ => hv, b7⟩
  · exact ⟨[1], h1, if_neg h0, a2, a4, ⟨b01 (b := true), trivial⟩, fun _ => hv, fun k => absurd k (by decide)⟩
/-- one or_w the other_w -/
theorem qi_ife (hA : TotI P T J g τ [ta] τt τf A) (hB_w : TotI P T J g τt [tb] bt bf B) (hC : TotI P T J g τf [tc] ct cf_w C) : TotI P T J g τ [i_lub tb tc] τ τ (n_ife A B C) := fun en h hQ hv => by
  obtain ⟨v, h1, a1_w, a2, a4, a5, a6, a7⟩ := qi_one hA hQ hv
  unfold n_ife
  rw [a1_w, Option.bind_some]
  by_cases h0 : v = 0
  · obtain ⟨w, h2, b1, b2, b4, b5, -⟩ := qi_one hC a2 (a7 h0)
    exact ⟨[w], h2, (if_pos h0).trans b1, b2, a4.tr b4, ⟨ilub_r b5, trivial⟩, fun _ => hv, fun _ => hv⟩
  · obtain ⟨w, h2, b1, b2, b4, b5, -⟩ := qi_one hB_w a2 (a6 h0)
    exact ⟨[w], h2, (if_neg h0).trans b1, b2, a4.tr b4, ⟨ilub_l b5, trivial⟩, fun _ => hv, fun _ => hv⟩
theorem q_tru_ok : ∀ (ts : List IT) (τ : List IT) (a : SX) {en av : List Int} {st st' : XT}, evE xs L ck F cW a en st = some (av, st') → IL P ts av → IL P τ en → IL P (q_tru ts τ a) en
  | [], _, _, _, _, _, _, _, _, h => h
  | t :: ts, τ, a, en, av, st, st', he, hs, hv => by
    unfold q_tru
    cases hq : q_var a with
    | none => exact hv
    | some q =>
      rw [q_var_ok hq] at he
      obtain ⟨r, e3_w, e4_w⟩ := j_bd he
      cases e4_w
      refine q_tru_ok ts _ q.2 (st' := r.2) e3_w hs.2 ?_
      cases hc_w : i_sub t (τ.getD q.1 (0, 0, 0)) with
      | true => exact IL.put q.1 hv hs.1
      | false => exact hv
/-- a call; what a true answer_w says_w comes to the locals by what they are -/
theorem qi_call {f : Nat} (hF : TotR P T J g F f) {us : List IT} (hA : TotI P T J g τ us τt τf (evE xs L ck F cW a)) (hs : i_subs us (qP T f) = true) : TotI P T J g τ (qR T f) (q_tru (qU T f) τ a) τ (n_call F f (evE xs L ck F cW a)) := fun en h hQ hv => by
  obtain ⟨av, h1, a1_w, a2, a4, a5, -⟩ := hA en h hQ hv
  obtain ⟨r, h2, b1, b2, b4, b5, b6⟩ := hF av h1 a2 (IL.sub hs a5)
  refine ⟨r, h2, ?_, b2, a4.tr b4, b5, fun k => q_tru_ok _ τ a a1_w (b6 k) hv, fun _ => hv⟩
  unfold n_call
  rw [a1_w, Option.bind_some, b1]
  rfl
theorem q_wth_ok {en : List Int} {st st' : XT} {v l u : Int} {tl tu : IT} (ha_w : evE xs L ck F cW a en st = some ([v, l, u], st')) (hv : IL P τ en) (h1 : IV P tl l) (h2 : IV P tu u) (k1_w : l ≤ v) (k2 : v ≤ u) : IL P (q_wth τ a tl tu) en := by
  unfold q_wth
  cases hq : q_var a with
  | none => exact hv
  | some q =>
    rw [q_var_ok hq] at ha_w
    obtain ⟨r, e3_w, e4_w⟩ := j_bd ha_w
    have e5_w : en.getD q.1 0 = v := by
      have := congrArg Prod.fst (Option.some.inj e4_w)
      exact (List.cons.inj this).1
    cases hc_w : i_is tl && i_is tu with
    | false => exact hv
    | true =>
      rw [Bool.and_eq_true] at hc_w
      have q1_w := (IV.int hc_w.1 h1).1
      have q2_w := (IV.int hc_w.2 h2).2.1
      refine IL.put q.1 hv (i_cut_ok (IL.at q.1 hv) ?_ ?_)
      · rw [e5_w]; omega
      · rw [e5_w]; omega
theorem qi_wth {tv tl tu : IT} (hF : TotW g F) (hA : TotI P T J g τ [tv, tl, tu] τt τf (evE xs L ck F cW a)) : TotI P T J g τ [q_bool] (q_wth τ a tl tu) τ (n_call F 198 (evE xs L ck F cW a)) := fun en h hQ hv => by
  obtain ⟨av, h1, a1_w, a2, a4, a5, -⟩ := hA en h hQ hv
  match av, a5 with
  | [v, l, u], a5 =>
    refine ⟨[j_b (decide (l ≤ v) && decide (v ≤ u))], h1, ?_, a2, a4, ⟨b01, trivial⟩, fun k => ?_, fun _ => hv⟩
    · unfold n_call
      rw [a1_w, Option.bind_some]
      dsimp only
      rw [hF]
      rfl
    · have k2 := b_ne k
      rw [Bool.and_eq_true, decide_eq_true_eq, decide_eq_true_eq] at k2
      exact q_wth_ok a1_w hv a5.2.1 a5.2.2.1 k2.1 k2.2
theorem iv_bool {v : Int} (h : IV P q_bool v) : v = 0 ∨ v = 1 := by
  obtain ⟨h1, h2, -⟩ := h
  omega
theorem qi_mb {tu tr : IT} (hF : TotB P T J g F) (hA : TotI P T J g τ [tr, tu] τt τf A) (h4 : tr.1 = 4) (h5 : tr.2.1 = 182) (hs : i_sub tu q_bool = true) : TotI P T J g τ [q_bool] τt τf (n_call F 274 A) := fun en h hQ hv => by
  obtain ⟨av, h1, a1_w, a2, a4, a5, a6, a7⟩ := hA en h hQ hv
  match av, a5 with
  | [v, u], a5 =>
    obtain ⟨tt, tl, th⟩ := tr
    dsimp only at h4 h5
    subst h4 h5
    have e : v = 182 := a5.1
    subst e
    have hu := IV.sub hs a5.2.1
    obtain ⟨h2, b1, b2, b4⟩ := hF u h1 (iv_bool hu) a2
    refine ⟨[u], h2, ?_, b2, a4.tr b4, ⟨hu, trivial⟩, a6, a7⟩
    unfold n_call
    rw [a1_w, Option.bind_some]
    dsimp only
    rw [b1]
    rfl
theorem iv4 {t : IT} {v : Int} (h : t.1 = 4) (hv : IV P t v) : v = t.2.1 := by
  obtain ⟨tt, tl, th⟩ := t
  dsimp only at h
  subst h
  exact hv
theorem q_ok (hT_w : RTab T) (hF : ∀ f, qC T f = true → TotR P T J g F f) (hW : TotW g F) (hB_w : TotB P T J g F) : ∀ (t : SX) (τ us τt τf : List IT), qE T t τ = some (us, τt, τf) → TotI P T J g τ us τt τf (evE xs L ck F cW t)
  | .op (.var t) (.op a (.op b c)), τ, us, τt, τf, h => by
    have iA := fun {τ us x y} h => q_ok hT_w hF hW hB_w a τ us x y h
    have iB_w := fun {τ us x y} h => q_ok hT_w hF hW hB_w b τ us x y h
    have iC := fun {τ us x y} h => q_ok hT_w hF hW hB_w c τ us x y h
    have h : qN T t a b c (qE T a) (qE T b) (qE T c) τ = some (us, τt, τf) := h
    show TotI P T J g τ us τt τf (nodeE xs L ck F cW t a b c (evE xs L ck F cW a) (evE xs L ck F cW b) (evE xs L ck F cW c))
    unfold qN at h
    split at h
    · split at h
      · obtain ⟨h1, h⟩ := b_if h
        cases h
        exact fun en hh hQ hv => ⟨[sx_c a b c], hh, rfl, hQ, KR.rf, ⟨⟨Int.le_refl _, Int.le_refl _, okI_in h1⟩, trivial⟩, fun _ => hv, fun _ => hv⟩
      · obtain ⟨h1, h⟩ := b_if h
        cases h
        exact fun en hh hQ hv => ⟨[sx_c a b c], hh, rfl, hQ, KR.rf, ⟨⟨Int.le_refl _, Int.le_refl _, okL_in h1⟩, trivial⟩, fun _ => hv, fun _ => hv⟩
      · cases h
    · cases h
      exact fun en hh hQ hv => ⟨_, hh, rfl, hQ, KR.rf, ⟨IL.at _ hv, trivial⟩, fun _ => hv, fun _ => hv⟩
    · obtain ⟨x, h1, h⟩ := j_bd h
      obtain ⟨h2, h⟩ := b_if h
      cases h
      simp only [Bool.and_eq_true, beq_iff_eq, decide_eq_true_eq] at h2
      intro en hh hQ hv
      obtain ⟨v, h', a1_w, a2, a4, a5, -⟩ := qi_one (iA (q_one_s h1)) hQ hv
      have e := (iv4 h2.1 a5).trans h2.2
      subst e
      refine ⟨[h' 182 (sx_n b)], h', ?_, a2, a4, ⟨a2.2.1 _, trivial⟩, fun _ => hv, fun _ => hv⟩
      show (evE xs L ck F cW a en _).bind _ = _
      rw [a1_w]
      rfl
    · obtain ⟨x, h1, h⟩ := j_bd h
      obtain ⟨h2, h⟩ := b_if h
      cases h
      simp only [Bool.and_eq_true, beq_iff_eq, decide_eq_true_eq, Bool.not_eq_true', beq_eq_false_iff_ne] at h2
      intro en hh hQ hv
      obtain ⟨v, h', a1_w, a2, a4, a5, -⟩ := qi_one (iA (q_one_s h1)) hQ hv
      have e := (iv4 h2.1.1 a5).trans h2.1.2
      subst e
      refine ⟨[(qO T (sx_n b) : Int)], h', ?_, a2, a4, ⟨rfl, trivial⟩, fun _ => hv, fun _ => hv⟩
      show (evE xs L ck F cW a en _).bind _ = _
      rw [a1_w, Option.bind_some]
      show (j_rf a_g3 182 (sx_n b)).bind _ = _
      rw [hT_w.2.1 _ h2.2]
      rfl
    · obtain ⟨x, h1, h⟩ := j_bd h
      obtain ⟨y, h2, h⟩ := j_bd h
      obtain ⟨h3, h⟩ := b_ifx h
      obtain ⟨u, h4, h⟩ := j_bd h
      cases h
      simp only [q_arr, Bool.and_eq_true, beq_iff_eq, decide_eq_true_eq] at h3
      obtain ⟨⟨⟨h3, h5⟩, h6⟩, h7⟩ := h3
      intro en hh hQ hv
      obtain ⟨v, ha_w, a1_w, a2, a4, a5, -⟩ := qi_one (iA (q_one_s h1)) hQ hv
      obtain ⟨w, hb_w, b1, b2, b4, b5, -⟩ := qi_one (iB_w (q_one_s h2)) a2 hv
      have e := iv4 h3 a5
      obtain ⟨k1_w, k2, k3, -⟩ := hT_w.2.2.1 x.1.2.1.toNat (by omega) (by omega)
      obtain ⟨w0_w, w1_w, w2_w⟩ := ar_ld_ok (b2.2.2.1 x.1.2.1.toNat (by omega)) k2 h4 b5
      refine ⟨[hb_w x.1.2.1.toNat w.toNat], hb_w, ?_, b2, a4.tr b4, ⟨w2_w, trivial⟩, fun _ => hv, fun _ => hv⟩
      show n_aload xs L (sx_n c) _ _ en _ = _
      unfold n_aload
      rw [a1_w, Option.bind_some, b1, Option.bind_some, h7, e]
      exact if_pos ⟨w0_w, by
        show w < j_len a_g3 x.1.2.1.toNat
        rw [k1_w]
        exact w1_w⟩
    · obtain ⟨x, h1, h⟩ := j_bd h
      obtain ⟨h3, h⟩ := b_if h
      cases h
      simp only [q_arr, Bool.and_eq_true, beq_iff_eq, decide_eq_true_eq] at h3
      obtain ⟨⟨⟨⟨h3, h5⟩, h6⟩, h7⟩, h8⟩ := h3
      intro en hh hQ hv
      obtain ⟨v, ha_w, a1_w, a2, a4, a5, -⟩ := qi_one (iA (q_one_s h1)) hQ hv
      have e := iv4 h3 a5
      obtain ⟨k1_w, k2, k3, -⟩ := hT_w.2.2.1 x.1.2.1.toNat (by omega) (by omega)
      refine ⟨[((qA T x.1.2.1.toNat).1 : Int)], ha_w, ?_, a2, a4, ⟨⟨Int.le_refl _, Int.le_refl _, okI_in h8⟩, trivial⟩, fun _ => hv, fun _ => hv⟩
      show n_alen L (sx_n c) _ en _ = _
      unfold n_alen
      rw [a1_w, Option.bind_some, h7, e]
      show some ([j_len a_g3 x.1.2.1.toNat], _) = _
      rw [k1_w]
    · obtain ⟨x, h1, h⟩ := j_bd h
      obtain ⟨y, h2, h⟩ := j_bd h
      cases h
      exact qi_bin (iA (q_one_s h1)) (iB_w (q_one_s h2)) (fun v w => i_op_ok)
    · obtain ⟨x, h1, h⟩ := j_bd h
      obtain ⟨y, h2, h⟩ := j_bd h
      cases h
      exact qi_bin (iA (q_one_s h1)) (iB_w (q_one_s h2)) (fun v w _ _ => IV.topL (lop_in _ _ _))
    · obtain ⟨x, h1, h⟩ := j_bd h
      obtain ⟨y, h2, h⟩ := j_bd h
      cases h
      exact qi_bin (iA (q_one_s h1)) (iB_w (q_one_s h2)) (fun v w _ _ => IV.topL (lsh_in _ _ _))
    · obtain ⟨x, h1, h⟩ := j_bd h
      obtain ⟨y, h2, h⟩ := j_bd h
      obtain ⟨u, h3, h⟩ := j_bd h
      cases h
      intro en hh hQ hv
      obtain ⟨v, ha_w, a1_w, a2, a4, a5, -⟩ := qi_one (iA (q_one_s h1)) hQ hv
      obtain ⟨w, hb_w, b1, b2, b4, b5, -⟩ := qi_one (iB_w (q_one_s h2)) a2 hv
      obtain ⟨k1_w, k2⟩ := i_div_ok h3 a5 b5
      refine ⟨[j_div (sx_n c) v w], hb_w, ?_, b2, a4.tr b4, ⟨k2, trivial⟩, fun _ => hv, fun _ => hv⟩
      show (evE xs L ck F cW a en _).bind _ = _
      rw [a1_w, Option.bind_some]
      show (evE xs L ck F cW b en _).bind _ = _
      rw [b1, Option.bind_some]
      exact if_neg k1_w
    · obtain ⟨x, h1, h⟩ := j_bd h
      have hA := iA (q_one_s h1)
      have hX : ∀ en st, nodeE xs L ck F cW 18 a b c (evE xs L ck F cW a) (evE xs L ck F cW b) (evE xs L ck F cW c) en st = (evE xs L ck F cW a en st).bind fun x => some ([j_un (sx_n c) (j_hd x.1)], x.2) := fun _ _ => rfl
      split at h
      · rename_i hc_w
        cases h
        exact qi_un hX hA (fun v k => by rw [hc_w]; exact i_neg_ok k)
      · rename_i hc_w
        cases h
        exact qi_un hX hA (fun v k => by rw [hc_w]; exact IV.topL (in_i64 _))
      · rename_i hc_w
        obtain ⟨u, h3, h⟩ := j_bd h
        cases h
        exact qi_un hX hA (fun v k => by rw [hc_w]; exact i_i2l_ok h3 k)
      · rename_i hc0 hc1 hc2
        cases h
        refine qi_un hX hA (fun v k => IV.top ?_)
        generalize sx_n c = m at hc0 hc1 hc2 ⊢
        match m, hc0, hc1, hc2 with
        | 0, h0, _, _ => exact absurd rfl h0
        | 1, _, h0, _ => exact absurd rfl h0
        | 2, _, _, h0 => exact absurd rfl h0
        | 3, _, _, _ => exact in_j32 _
        | n + 4, _, _, _ => exact in_i32 _
    · obtain ⟨x, h1, h⟩ := j_bd h
      obtain ⟨y, h2, h⟩ := j_bd h
      obtain ⟨h3, h⟩ := b_if h
      cases h
      rw [Nat.blt_eq] at h3
      exact qi_cmp h3 (iA (q_one_s h1)) (iB_w (q_one_s h2))
    · obtain ⟨x, h1, h⟩ := j_bd h
      obtain ⟨h3, h⟩ := b_if h
      cases h
      rw [Nat.blt_eq] at h3
      exact qi_cmp0 h3 (iA (q_one_s h1)) (fun _ _ => rfl)
    · obtain ⟨x, h1, h⟩ := j_bd h
      obtain ⟨y, h2, h⟩ := j_bd h
      cases h
      exact qi_cmpL (iA (q_one_s h1)) (iB_w (q_one_s h2))
    · exact iA h
    · obtain ⟨x, h1, h⟩ := j_bd h
      obtain ⟨y, h2, h⟩ := j_bd h
      cases h
      exact qi_and (iA (q_one_s h1)) (iB_w (q_one_s h2))
    · obtain ⟨x, h1, h⟩ := j_bd h
      obtain ⟨y, h2, h⟩ := j_bd h
      cases h
      exact qi_or (iA (q_one_s h1)) (iB_w (q_one_s h2))
    · obtain ⟨x, h1, h⟩ := j_bd h
      cases h
      exact qi_not (iA (q_one_s h1)) (fun _ _ => rfl)
    · obtain ⟨x, h1, h⟩ := j_bd h
      obtain ⟨y, h2, h⟩ := j_bd h
      obtain ⟨z, h3, h⟩ := j_bd h
      cases h
      exact qi_ife (iA (q_one_s h1)) (iB_w (q_one_s h2)) (iC (q_one_s h3))
    · obtain ⟨x, h1, h⟩ := j_bd h
      obtain ⟨y, h2, h⟩ := j_bd h
      intro en hh hQ hv
      obtain ⟨v, ha_w, a1_w, a2, a4, a5, a6, a7⟩ := qi_one (iA (q_one_s h1)) hQ hv
      obtain ⟨w, hb_w, b1, b2, b4, b5, b6, b7⟩ := (iB_w h2) en ha_w a2 hv
      have e0 : nodeE xs L ck F cW 30 a b c (evE xs L ck F cW a) (evE xs L ck F cW b) (evE xs L ck F cW c) en ((a_g3, g), hh) = some ([v] ++ w, ((a_g3, g), hb_w)) := by
        show (evE xs L ck F cW a en _).bind _ = _
        rw [a1_w, Option.bind_some]
        show (evE xs L ck F cW b en _).bind _ = _
        rw [b1]
        rfl
      refine ⟨[v] ++ w, hb_w, e0, b2, a4.tr b4, ?_⟩
      match y, h, b5, b6, b7 with
      | ([], y2, y3), h, b5, b6, b7 =>
        cases h
        match w, b5 with
        | [], _ => exact ⟨⟨a5, trivial⟩, a6, a7⟩
      | (u :: us', y2, y3), h, b5, b6, b7 =>
        cases h
        match w, b5, b6, b7 with
        | w0_w :: ws_w, b5, b6, b7 => exact ⟨⟨a5, b5⟩, b6, b7⟩
    · cases h
      exact fun en hh hQ hv => ⟨[], hh, rfl, hQ, KR.rf, trivial, fun _ => hv, fun _ => hv⟩
    · obtain ⟨⟨vs, yt, yf⟩, h1, h⟩ := j_bd h
      unfold q_call at h
      dsimp only at h
      cases k1_w : sx_n b == 274 with
      | true =>
        rw [k1_w, cond_true] at h
        match vs, h1, h with
        | [r, u], h1, h =>
          obtain ⟨h3, h⟩ := b_if (x := ([q_bool], yt, yf)) h
          cases h
          simp only [Bool.and_eq_true, beq_iff_eq, decide_eq_true_eq] at h3 k1_w
          show TotI P T J g τ _ _ _ (n_call F (sx_n b) _)
          rw [k1_w]
          exact qi_mb hB_w (iA h1) h3.1.1 h3.1.2 h3.2
        | [], _, h => cases h
        | [_], _, h => cases h
        | _ :: _ :: _ :: _, _, h => cases h
      | false =>
        rw [k1_w, cond_false] at h
        cases k2 : sx_n b == 198 with
        | true =>
          rw [k2, cond_true] at h
          match vs, h1, h with
          | [v, l, u], h1, h =>
            cases h
            rw [beq_iff_eq] at k2
            show TotI P T J g τ _ _ _ (n_call F (sx_n b) _)
            rw [k2]
            exact qi_wth hW (iA h1)
          | [], _, h => cases h
          | [_], _, h => cases h
          | [_, _], _, h => cases h
          | _ :: _ :: _ :: _ :: _, _, h => cases h
        | false =>
          rw [k2, cond_false] at h
          obtain ⟨h3, h⟩ := b_if h
          cases h
          rw [Bool.and_eq_true] at h3
          exact qi_call (hF _ h3.1) (iA h1) h3.2
    · cases h
  | .var _, _, _, _, _, h => by cases h
  | .op (.op _ _) _, _, _, _, _, h => by cases h
  | .op (.var _) (.var _), _, _, _, _, h => by cases h
  | .op (.var _) (.op _ (.var _)), _, _, _, _, h => by cases h
end QI
