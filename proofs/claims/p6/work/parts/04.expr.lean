/-! ===== the checker is right: expressions ===== -/
theorem j_if {α : Type} {c : Prop} [Decidable c] {a b : α} (h : (if c then some a else none) = some b) : c ∧ a = b := by
  split at h
  · exact ⟨by assumption, Option.some.inj h⟩
  · cases h
theorem j_ifx {α : Type} {c : Prop} [Decidable c] {a : Option α} {b : α} (h : (if c then a else none) = some b) : c ∧ a = some b := by
  split at h
  · exact ⟨by assumption, h⟩
  · cases h
theorem j_bd {α β : Type} {o : Option α} {f : α → Option β} {b : β} (h : o.bind f = some b) : ∃ a, o = some a ∧ f a = some b := Option.bind_eq_some_iff.mp h
theorem k_cats_app (a b : List Nat) : k_cats (a ++ b) = k_cats a + k_cats b := by simp [k_cats]
theorem k_cats_zip {ks : List Nat} {x : List Int} (h : x.length = ks.length) : ((ks.zip x).map (·.1)) = ks := by
  induction ks generalizing x with
  | nil => simp
  | cons k ks ih =>
    cases x with
    | nil => simp at h
    | cons v x => simp at h; simpa using ih h
theorem k_cats_rz {ks : List Nat} {x : List Int} (h : x.length = ks.length) (S : List (Nat × Int)) : k_cats (((ks.zip x).reverse ++ S).map (·.1)) = k_cats ks + k_cats (S.map (·.1)) := by
  rw [List.map_append, k_cats_app, List.map_reverse]
  have e := k_cats_zip h
  rw [e]
  simp [k_cats, List.sum_reverse]
theorem j_z1 {x : List Int} {k : Nat} (h : x.length = [k].length) : x = [j_hd x] := by
  match x, h with
  | [v], _ => rfl
def XClo (dec : XD) (lk lp : XK) (pk rk : Nat → List Nat) (thr : Nat → Bool) (rt : List Nat) (rz : Bool) (xs : Nat → Int) (L : Nat) (ck : Nat → List Nat) (F : XP) (cW : Nat → Nat → Int) (hnd : Nat → Option (Nat × Nat)) (R : List Int → XT → Prop) (X : XT → Prop)
    (J : Nat → List Nat → List Int → List (Nat × Int) → XT → Prop) : Prop :=
  (∀ pc p kv τ en S st, c_ins dec pc (a_const lk) = some (kv, p) → kv.1 ≠ 0 → J (j_ult dec p) τ en (kv :: S) st → J (j_ult dec pc) τ en S st) ∧
  (∀ pc p cl i kd τ en S st, c_ins dec pc a_load = some ((cl, i), p) → τ[i]? = some kd → kd ≠ 0 → k_cl kd = cl → en.length = τ.length → J (j_ult dec p) τ en ((kd, en.getD i 0) :: S) st → J (j_ult dec pc) τ en S st) ∧
  (∀ pc p i kd v τ en S st, c_ins dec pc a_store = some ((k_cl kd, i), p) → k_fit τ i kd = true → en.length = τ.length → J (j_ult dec p) (τ.set i kd) (en.set i v) S st → J (j_ult dec pc) τ en ((kd, v) :: S) st) ∧
  (∀ pc p i n τ en S st, c_ins dec pc a_iinc = some ((i, n), p) → τ[i]? = some 1 → (p = pc + 3 ∨ p = pc + 6) → en.length = τ.length → J (j_ult dec p) τ (en.set i (j32 (en.getD i 0 + n))) S st → J (j_ult dec pc) τ en S st) ∧
  (∀ pc ci k kd o τ en S st, c_ins dec pc (a_getf lk) = some ((0, ci, k, kd), pc + 3) → (kd = 1 ∨ kd = 2 ∨ kd = -1) → J (j_ult dec (pc + 3)) τ en ((j_kd kd, st.2 o.toNat k) :: S) st → J (j_ult dec pc) τ en ((10 + ci, o) :: S) st) ∧
  (∀ pc ci k kd o r τ en S st, c_ins dec pc (a_getf lk) = some ((0, ci, k, kd), pc + 3) → 6 ≤ kd → j_rf st.1.1 o.toNat k = some r → J (j_ult dec (pc + 3)) τ en ((kd.toNat, r) :: S) st → J (j_ult dec pc) τ en ((10 + ci, o) :: S) st) ∧
  (∀ pc w ty i o τ en S st, c_ins dec pc a_ald = some (w, pc + 1) → 6 ≤ ty → ty < 10 → k_arr w ty = true → 0 ≤ i → i < j_len st.1.1 o.toNat → J (j_ult dec (pc + 1)) τ en ((k_elem ty, st.2 o.toNat i.toNat) :: S) st → J (j_ult dec pc) τ en ((1, i) :: (ty, o) :: S) st) ∧
  (∀ pc i o τ en S st, c_ins dec pc a_ald = some (6, pc + 1) → 0 ≤ i → i < (L : Int) → J (j_ult dec (pc + 1)) τ en ((1, xs i.toNat) :: S) st → J (j_ult dec pc) τ en ((1, i) :: (5, o) :: S) st) ∧
  (∀ pc i o τ en S st, c_ins dec pc a_ald = some (4, pc + 1) → 0 ≤ i → i < 24 → J (j_ult dec (pc + 1)) τ en ((3, i) :: S) st → J (j_ult dec pc) τ en ((1, i) :: (4, o) :: S) st) ∧
  (∀ pc ty o τ en S st, c_op0 dec pc 4 = true → 6 ≤ ty → ty < 10 → J (j_ult dec (pc + 1)) τ en ((1, j_len st.1.1 o.toNat) :: S) st → J (j_ult dec pc) τ en ((ty, o) :: S) st) ∧
  (∀ pc o τ en S st, c_op0 dec pc 4 = true → J (j_ult dec (pc + 1)) τ en ((1, (L : Int)) :: S) st → J (j_ult dec pc) τ en ((5, o) :: S) st) ∧
  (∀ pc o τ en S st, c_op0 dec pc 4 = true → J (j_ult dec (pc + 1)) τ en ((1, 24) :: S) st → J (j_ult dec pc) τ en ((4, o) :: S) st) ∧
  (∀ pc y k kd o τ en S st, c_ins dec pc (a_getf lk) = some ((1, y, k, kd), pc + 3) → (kd = 1 ∨ kd = 2) → J (j_ult dec (pc + 3)) τ en ((kd.toNat, cW k o.toNat) :: S) st → J (j_ult dec pc) τ en ((3, o) :: S) st) ∧
  (∀ pc k x y τ en S st, c_ins dec pc a_iop = some (k, pc + 1) → J (j_ult dec (pc + 1)) τ en ((1, j_iop k x y) :: S) st → J (j_ult dec pc) τ en ((1, y) :: (1, x) :: S) st) ∧
  (∀ pc k x y τ en S st, c_ins dec pc a_lop = some (k, pc + 1) → J (j_ult dec (pc + 1)) τ en ((2, j_lop k x y) :: S) st → J (j_ult dec pc) τ en ((2, y) :: (2, x) :: S) st) ∧
  (∀ pc k x y τ en S st, c_ins dec pc a_lsh = some (k, pc + 1) → J (j_ult dec (pc + 1)) τ en ((2, j_lsh k x y) :: S) st → J (j_ult dec pc) τ en ((1, y) :: (2, x) :: S) st) ∧
  (∀ pc kd k x y τ en S st, c_ins dec pc a_div = some ((kd, k), pc + 1) → y ≠ 0 → J (j_ult dec (pc + 1)) τ en ((kd, j_div k x y) :: S) st → J (j_ult dec pc) τ en ((kd, y) :: (kd, x) :: S) st) ∧
  (∀ pc k k1 k2 x τ en S st, c_ins dec pc a_un = some ((k, k1, k2), pc + 1) → J (j_ult dec (pc + 1)) τ en ((k2, j_un k x) :: S) st → J (j_ult dec pc) τ en ((k1, x) :: S) st) ∧
  (∀ pc k off t x y τ en S st, c_ins dec pc a_icmp = some ((k, off), pc + 3) → j_tgt pc off = some t → (j_cmp k x y = true → J (j_ult dec t) τ en S st) → (j_cmp k x y = false → J (j_ult dec (pc + 3)) τ en S st) → J (j_ult dec pc) τ en ((1, y) :: (1, x) :: S) st) ∧
  (∀ pc k off t x τ en S st, c_ins dec pc a_if = some ((k, off), pc + 3) → j_tgt pc off = some t → (j_cmp k x 0 = true → J (j_ult dec t) τ en S st) → (j_cmp k x 0 = false → J (j_ult dec (pc + 3)) τ en S st) → J (j_ult dec pc) τ en ((1, x) :: S) st) ∧
  (∀ pc k off t x y τ en S st, c_op0 dec pc 5 = true → c_ins dec (pc + 1) a_if = some ((k, off), pc + 1 + 3) → j_tgt (pc + 1) off = some t → (j_cmp k x y = true → J (j_ult dec t) τ en S st) → (j_cmp k x y = false → J (j_ult dec (pc + 1 + 3)) τ en S st) → J (j_ult dec pc) τ en ((2, y) :: (2, x) :: S) st) ∧
  (∀ pc k off t x y τ en S st, c_ins dec pc a_acmp = some ((k, off), pc + 3) → j_tgt pc off = some t → (j_cmp k x y = true → J (j_ult dec t) τ en S st) → (j_cmp k x y = false → J (j_ult dec (pc + 3)) τ en S st) → J (j_ult dec pc) τ en ((3, y) :: (3, x) :: S) st) ∧
  (∀ pc f args r τ en S st st', c_ins dec pc (a_call lk) = some (f, pc + 3) → thr f = false → F f args st = some (1, r, st') → args.length = (pk f).length → k_cats (S.map (·.1)) ≤ 8 → J (j_ult dec (pc + 3)) τ en (((rk f).zip r).reverse ++ S) st' → J (j_ult dec pc) τ en (((pk f).zip args).reverse ++ S) st) ∧
  (∀ pc ci y τ en S st, c_ins dec pc (a_new lk) = some ((5, ci, y), pc + 3) → J (j_ult dec (pc + 3)) τ en ((10 + ci, (st.1.1.length : Int)) :: S) ((st.1.1 ++ [(10 + ci, 0, (ck ci).map fun k => (k, 0))], st.1.2.1 + 1, st.1.2.2 + (ck ci).length), fun a b => if a = st.1.1.length then 0 else st.2 a b) → J (j_ult dec pc) τ en S st) ∧
  (∀ pc ty n τ en S st, c_ins dec pc a_atype = some (ty, pc + 2) → 0 ≤ n → n ≤ 67108864 → J (j_ult dec (pc + 2)) τ en ((ty, (st.1.1.length : Int)) :: S) ((st.1.1 ++ [(ty, n.toNat, [])], st.1.2.1 + 1, st.1.2.2 + n.toNat), fun a b => if a = st.1.1.length then 0 else st.2 a b) → J (j_ult dec pc) τ en ((1, n) :: S) st) ∧
  (∀ pc e τ en S st, c_op0 dec pc 1 = true → e.1 ≠ 2 → J (j_ult dec (pc + 1)) τ en (e :: e :: S) st → J (j_ult dec pc) τ en (e :: S) st) ∧
  (∀ pc e f τ en S st, c_op0 dec pc 2 = true → e.1 ≠ 2 → f.1 ≠ 2 → J (j_ult dec (pc + 1)) τ en (e :: f :: e :: f :: S) st → J (j_ult dec pc) τ en (e :: f :: S) st) ∧
  (∀ pc e τ en S st, c_op0 dec pc 3 = true → e.1 ≠ 2 → J (j_ult dec (pc + 1)) τ en S st → J (j_ult dec pc) τ en (e :: S) st) ∧
  (∀ pc ci k kd o v τ en S st, c_ins dec pc (a_putf lp) = some ((0, ci, k, kd), pc + 3) → (kd = 1 ∨ kd = 2) → J (j_ult dec (pc + 3)) τ en S (st.1, j_up st.2 o.toNat k v) → J (j_ult dec pc) τ en ((kd.toNat, v) :: (10 + ci, o) :: S) st) ∧
  (∀ pc ci k kd o v τ en S st, c_ins dec pc (a_putf lp) = some ((0, ci, k, kd), pc + 3) → 6 ≤ kd → J (j_ult dec (pc + 3)) τ en S ((j_setR st.1.1 o.toNat k v.toNat, st.1.2), st.2) → J (j_ult dec pc) τ en ((kd.toNat, v) :: (10 + ci, o) :: S) st) ∧
  (∀ pc w ty i o v τ en S st, c_ins dec pc a_ast = some (w, pc + 1) → 6 ≤ ty → ty < 10 → k_arr w ty = true → 0 ≤ i → i < j_len st.1.1 o.toNat → J (j_ult dec (pc + 1)) τ en S (st.1, j_up st.2 o.toNat i.toNat (match ty with
    | 8 => ((Int32.ofInt v).toInt8.toInt32).toInt
    | 9 => (Int32.ofInt v &&& 1).toInt
    | _ => v)) → J (j_ult dec pc) τ en ((k_elem ty, v) :: (1, i) :: (ty, o) :: S) st) ∧
  (∀ pc kd v τ en st, rt = [kd] → rz = false → kd ≠ 0 → c_op0 dec pc (10 + k_cl kd) = true → R [v] st → J (j_ult dec pc) τ en [(kd, v)] st) ∧
  (∀ pc τ en st, rt = [] → c_op0 dec pc 14 = true → R [] st → J (j_ult dec pc) τ en [] st) ∧
  (∀ pc τ en (st : XT), c_throw dec lk pc = true → X ((st.1.1, st.1.2.1 + 1, st.1.2.2 + 6), st.2) → J (j_ult dec pc) τ en [] st) ∧
  (∀ pc i z kd o τ en (S : List (Nat × Int)) st, S = [] → dec pc = some (.invokespecial i, 3) → lk i = some (10, z) → 10 ≤ kd → J (j_ult dec (pc + 3)) τ en S st → J (j_ult dec pc) τ en ((kd, o) :: S) st) ∧
  (∀ pc v t τ en S st, c_swOk dec pc = true → c_swT dec pc v = some t → J (j_ult dec t) τ en S st → J (j_ult dec pc) τ en ((1, v) :: S) st) ∧
  (∀ pc τ τ' en S st, k_sub τ τ' = true → J pc τ en S st → J pc τ' en S st) ∧
  (∀ f args r st st', F f args st = some (1, r, st') → r.length = (rk f).length) ∧
  (∀ pc f args r τ en S st c st' q k, c_ins dec pc (a_call lk) = some (f, pc + 3) → thr f = true → hnd pc = some (q, k) → τ.getD k 0 = 0 → k_fit τ k 3 = true → F f args st = some (c, r, st') → args.length = (pk f).length → k_cats (S.map (·.1)) ≤ 8 → (c = 1 → J (j_ult dec (pc + 3)) τ en (((rk f).zip r).reverse ++ S) st') → (c = 4 → J (j_ult dec q) τ en [] st') → (c = 1 ∨ c = 4) → J (j_ult dec pc) τ en (((pk f).zip args).reverse ++ S) st) ∧
  (∀ pc ci k o v τ en S st, c_ins dec pc (a_putf lp) = some ((0, ci, k, -1), pc + 3) → (v = 0 ∨ v = 1) → J (j_ult dec (pc + 3)) τ en S (st.1, j_up st.2 o.toNat k v) → J (j_ult dec pc) τ en ((1, v) :: (10 + ci, o) :: S) st) ∧
  (∀ pc v τ en st, rt = [1] → rz = true → c_op0 dec pc 11 = true → (v = 0 ∨ v = 1) → R [v] st → J (j_ult dec pc) τ en [(1, v)] st)
section JSE
variable {dec : XD} {lk lp : XK} {pk rk : Nat → List Nat} {thr : Nat → Bool} {rt : List Nat} {rz : Bool} {xs : Nat → Int} {L : Nat} {ck : Nat → List Nat} {F : XP} {cW : Nat → Nat → Int} {hnd : Nat → Option (Nat × Nat)} {R : List Int → XT → Prop} {X : XT → Prop}
  {J : Nat → List Nat → List Int → List (Nat × Int) → XT → Prop}
def PV (dec : XD) (J : Nat → List Nat → List Int → List (Nat × Int) → XT → Prop) (N : XN) (E : XE) : Prop := ∀ τ d pc ks pc' ts en S st x st', N τ d 0 pc = some (ks, pc', ts) → E en st = some (x, st') → en.length = τ.length → k_cats (S.map (·.1)) ≤ d →
  x.length = ks.length ∧ (J (j_ult dec pc') τ en ((ks.zip x).reverse ++ S) st' → J (j_ult dec pc) τ en S st)
def j_jp (md : Nat) (x : List Int) : Prop := if md = 1 then j_hd x = 0 else j_hd x ≠ 0
def PJ (dec : XD) (J : Nat → List Nat → List Int → List (Nat × Int) → XT → Prop) (N : XN) (E : XE) : Prop := ∀ τ d md pc ks pc' ts en S st x st', (md = 1 ∨ md = 2) → N τ d md pc = some (ks, pc', ts) → E en st = some (x, st') → en.length = τ.length → k_cats (S.map (·.1)) ≤ d →
  (j_jp md x → ∀ t ∈ ts, J (j_ult dec t) τ en S st') → (¬ j_jp md x → J (j_ult dec pc') τ en S st') → J (j_ult dec pc) τ en S st
/-- one value -/
theorem PV.one {N : XN} {E : XE} (h : PV dec J N E) {τ : List Nat} {d pc k pc' : Nat} {ts : List Nat} {en : List Int} {S : List (Nat × Int)} {st : XT} {x : List Int} {st' : XT} (h1 : N τ d 0 pc = some ([k], pc', ts)) (h2 : E en st = some (x, st')) (h3 : en.length = τ.length) (h4 : k_cats (S.map (·.1)) ≤ d) :
    x = [j_hd x] ∧ (J (j_ult dec pc') τ en ((k, j_hd x) :: S) st' → J (j_ult dec pc) τ en S st) := by
  obtain ⟨a, b⟩ := h _ _ _ _ _ _ _ S _ _ _ h1 h2 h3 h4
  have e := j_z1 a
  refine ⟨e, fun k => b ?_⟩
  rw [e]
  exact k
theorem c_two_spec {A B : XN} {ka kb τ : List Nat} {d pc p : Nat} (h : c_two A B ka kb τ d pc = some p) : ∃ p1 t1 t2, A τ d 0 pc = some (ka, p1, t1) ∧ B τ (d + k_cats ka) 0 p1 = some (kb, p, t2) := by
  obtain ⟨r, h1, h⟩ := j_bd h
  obtain ⟨e1, h⟩ := j_ifx h
  obtain ⟨q, h2, h⟩ := j_bd h
  obtain ⟨e2, h⟩ := j_if h
  subst h
  refine ⟨r.2.1, r.2.2, q.2.2, ?_, ?_⟩
  · rw [h1, ← e1]
  · rw [h2, ← e2]
theorem k_cats_cons (k : Nat) (v : Int) (S : List (Nat × Int)) : k_cats (((k, v) :: S).map (·.1)) = k_cats [k] + k_cats (S.map (·.1)) := by simp [k_cats]
/-- two values -/
theorem PV.two {A B : XN} {EA EB : XE} (hA : PV dec J A EA) (hB : PV dec J B EB) {ka kb : Nat} {τ : List Nat} {d pc p : Nat} {en : List Int} {S : List (Nat × Int)} {st st1 st2 : XT} {x y : List Int}
    (h : c_two A B [ka] [kb] τ d pc = some p) (h1 : EA en st = some (x, st1)) (h2 : EB en st1 = some (y, st2)) (h3 : en.length = τ.length) (h4 : k_cats (S.map (·.1)) ≤ d) :
    J (j_ult dec p) τ en ((kb, j_hd y) :: (ka, j_hd x) :: S) st2 → J (j_ult dec pc) τ en S st := by
  obtain ⟨p1, t1, t2, a, b⟩ := c_two_spec h
  obtain ⟨-, ka'⟩ := hA.one (S := S) a h1 h3 h4
  obtain ⟨-, kb'⟩ := hB.one (S := (ka, j_hd x) :: S) b h2 h3 (by rw [k_cats_cons]; omega)
  exact fun k => ka' (kb' k)
end JSE
