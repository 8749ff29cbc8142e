theorem ng {α : Type} {f : Instr → Option α} {i : Instr} {a : α} (hf : f i = some a) (h : ∀ off, f (.goto off) = none) : a_goto i = none := by
  cases hgo : a_goto i with
  | none => rfl
  | some off =>
    rw [a_goto_s hgo, h] at hf
    cases hf
theorem ng0 {i : Instr} {k : Nat} (hf : a_op0 i = k) (hk : k ≠ 0) : a_goto i = none := by
  cases hgo : a_goto i with
  | none => rfl
  | some off =>
    rw [a_goto_s hgo] at hf
    exact absurd hf.symm hk
theorem c_ins1 {α : Type} {dec : XD} {pc n : Nat} {f : Instr → Option α} {a : α} (h : c_ins dec pc f = some (a, pc + n)) : ∃ i, dec pc = some (i, n) ∧ f i = some a := by
  obtain ⟨i, n', h1, h2, h3⟩ := c_ins_spec h
  have : n' = n := by omega
  subst this
  exact ⟨i, h1, h2⟩
theorem tdiv_of {x y : Int} : Int32.ofInt (j32 ((Int32.ofInt x).toInt.tdiv (Int32.ofInt y).toInt)) = Int32.ofInt x / Int32.ofInt y := by
  apply Int32.toInt_inj.mp
  rw [of_j32, Int32.toInt_div, Int32.toInt_ofInt]
theorem tdivL_of {x y : Int} : Int64.ofInt (j64 ((Int64.ofInt x).toInt.tdiv (Int64.ofInt y).toInt)) = Int64.ofInt x / Int64.ofInt y := by
  apply Int64.toInt_inj.mp
  rw [of_j64, Int64.toInt_div, Int64.toInt_ofInt]
theorem tmod_of {x y : Int} (hx : InI x) (hy : InI y) : Int32.ofInt (x.tmod y) = Int32.ofInt x - Int32.ofInt x / Int32.ofInt y * Int32.ofInt y := by
  have h1 : Int32.ofInt x / Int32.ofInt y = Int32.ofInt (x.tdiv y) := by
    rw [← tdiv_of, i32_of hx, i32_of hy, of_j32]
  rw [h1, ← Int32.ofInt_mul, ← Int32.ofInt_sub]
  congr 1
  have := Int.tmod_def x y
  rw [this, Int.mul_comm]
theorem tmodL_of {x y : Int} (hx : InL x) (hy : InL y) : Int64.ofInt (x.tmod y) = Int64.ofInt x - Int64.ofInt x / Int64.ofInt y * Int64.ofInt y := by
  have h1 : Int64.ofInt x / Int64.ofInt y = Int64.ofInt (x.tdiv y) := by
    rw [← tdivL_of, i64_of hx, i64_of hy, of_j64]
  rw [h1, ← Int64.ofInt_mul, ← Int64.ofInt_sub]
  congr 1
  have := Int.tmod_def x y
  rw [this, Int.mul_comm]
theorem tmod_bd {x y n : Int} (h1 : -n ≤ x) (h2 : x < n) : -n ≤ x.tmod y ∧ x.tmod y < n := by
  have h3 : (x.tmod y).natAbs ≤ x.natAbs := by rw [Int.natAbs_tmod]; exact Nat.mod_le _ _
  by_cases h0 : 0 ≤ x
  · have := Int.tmod_nonneg y h0
    omega
  · have := Int.tmod_nonneg y (show 0 ≤ -x by omega)
    rw [Int.neg_tmod] at this
    omega
theorem tmod_in {x y : Int} (hx : InI x) : InI (x.tmod y) := tmod_bd hx.1 hx.2
theorem tmod_inL {x y : Int} (hx : InL x) : InL (x.tmod y) := tmod_bd hx.1 hx.2
theorem in_0L : InL 0 := ⟨by decide, by decide⟩
section JW2
variable {p : Program} {l : Launch} {e : Env} {R : Room} {s : State} {m : MethodId} {args : Array Value} {below : List Frame} {meth : Method} {c : Code} {Q : State → Prop}
  {cc : ByteArray} {nL : Nat} {own : String} {Ts : List Cond} {D : va_G} {cl : List vw_C} {cA : Nat → ClassId} {A : Nat → Prop} {adW : Nat → Nat} {aT aS : Nat} {ck : Nat → List Nat} {c0 d0 n0 : Nat} {ad0 : Nat → Nat} {dec : XD} {lk : XK}
theorem hd_ok {st : XT} {q : Nat × Int} {S : List (Nat × Int)} (h : ∀ z ∈ q :: S, OkV st.1.1 z.1 z.2) : OkV st.1.1 q.1 q.2 ∧ ∀ z ∈ S, OkV st.1.1 z.1 z.2 := ⟨h q List.mem_cons_self, fun z hz => h z (List.mem_cons_of_mem _ hz)⟩
theorem cons_ok {st : XT} {q : Nat × Int} {S : List (Nat × Int)} (h : OkV st.1.1 q.1 q.2) (h2 : ∀ z ∈ S, OkV st.1.1 z.1 z.2) : ∀ z ∈ q :: S, OkV st.1.1 z.1 z.2 := by
  intro z hz
  rcases List.mem_cons.mp hz with rfl | hz
  · exact h
  · exact h2 z hz
theorem z_iinc (hx : p.tables.exec = Jvm.exec) (hb : c.code = cc) (hdec : DecOk dec cc) :
    ∀ pc p' i n τ en S st, c_ins dec pc a_iinc = some ((i, n), p') → τ[i]? = some 1 → (p' = pc + 3 ∨ p' = pc + 6) → en.length = τ.length → JW p l e R s m args below meth c Q nL D cl cA A adW aT aS ck c0 d0 n0 ad0 (j_ult dec p') τ (en.set i (j32 (en.getD i 0 + n))) S st → JW p l e R s m args below meth c Q nL D cl cA A adW aT aS ck c0 d0 n0 ad0 (j_ult dec pc) τ en S st := by
  intro pc p' i n τ en S st h hτ hp hlen k
  obtain ⟨ii, len, hd, hf, rfl⟩ := c_ins_spec h
  obtain ⟨hdc, hln⟩ := hdec _ _ _ hd
  have hu := ult_ins hd (ng hf (fun _ => rfl))
  have k' := jw_ult hx hb hdec k
  rw [hu]
  have hgD : τ.getD i 0 = 1 := by simp [List.getD, hτ]
  have hi : i < τ.length := (List.getElem?_eq_some_iff.mp hτ).1
  refine ⟨k'.1, fun hok hS hL hc hd0 hτn ad H locs ls g1 g2 g3 g4 => ?_⟩
  have hset : τ.set i 1 = τ := by
    apply List.ext_getElem?
    intro j
    by_cases e : j = i
    · subst e
      rw [hτ]
      simp [hi]
    · rw [List.getElem?_set_ne (fun h => e h.symm)]
  have hprev : i = 0 ∨ τ.getD (i - 1) 0 ≠ 2 := by
    by_cases h0 : i = 0
    · exact Or.inl h0
    · right
      intro h2
      have m1 : (i, w_v ad adW aT aS 1 (en.getD i 0)) ∈ w_l ad adW aT aS τ en := w_l_mem.mpr ⟨hi, by rw [hgD]; decide, by rw [hgD]⟩
      have m2 : (i - 1, w_v ad adW aT aS 2 (en.getD (i - 1) 0)) ∈ w_l ad adW aT aS τ en := w_l_mem.mpr ⟨by dsimp only; omega, by rw [h2]; decide, by rw [h2]⟩
      have q1 := g4.2.2 _ m1
      have q2 := g4.2.1.1 _ _ (g4.2.2 _ m2) rfl
      have e : i - 1 + 1 = i := by omega
      dsimp only at q1 q2
      rw [e, q1] at q2
      cases q2
  have hfit : ∀ q ∈ w_l ad adW aT aS τ (en.set i (j32 (en.getD i 0 + n))), q ∈ (i, Value.int (Int32.ofInt (j32 (en.getD i 0 + n)))) :: (w_l ad adW aT aS τ en).filter (fun q => !(q.1 == i) && !(q.1 + 1 == i && q.2.category == 2)) := by
    have hk : k_fit τ i 1 = true := by
      unfold k_fit
      simp only [Bool.and_eq_true, decide_eq_true_eq, bne_iff_ne, Bool.or_eq_true, beq_iff_eq]
      exact ⟨⟨⟨⟨hi, by decide⟩, Or.inr hgD⟩, hprev⟩, Or.inl (by decide)⟩
    have := wl_store (ad := ad) (adW := adW) (aT := aT) (aS := aS) (v := j32 (en.getD i 0 + n)) hk hlen (by decide)
    rw [hset] at this
    exact this
  have hL' : ∀ j, τ.getD j 0 ≠ 0 → OkV st.1.1 (τ.getD j 0) ((en.set i (j32 (en.getD i 0 + n))).getD j 0) := by
    intro j hj
    by_cases e : j = i
    · subst e
      rw [getD_set_eq (by omega), hgD]
      exact OkV.int (in_j32 _)
    · rw [getD_set_ne e]
      exact hL j hj
  have K := fun ls' h' => k'.2 hok hS hL' hc hd0 hτn ad H locs ls' g1 g2 g3 h'
  unfold a_iinc at hf
  split at hf
  · cases hf
    have hm : (i, Value.int (Int32.ofInt (en.getD i 0))) ∈ w_l ad adW aT aS τ en := w_l_mem.mpr ⟨hi, by rw [hgD]; decide, by rw [hgD]; rfl⟩
    obtain ⟨kk, hkk⟩ := List.getElem?_of_mem hm
    have hv : Int32.ofInt (en.getD i 0) + Int32.ofInt n = Int32.ofInt (j32 (en.getD i 0 + n)) := by rw [of_j32, Int32.ofInt_add]
    have hl : len = 3 ∨ len = 6 := by omega
    rcases hl with rfl | rfl
    · exact lv_iinc hx hb hdc g4 hkk hv (by omega) rfl (fun ls' h' => K ls' (lv_mono h' hfit))
    · exact lv_iincW hx hb hdc g4 hkk hv (by omega) rfl (fun ls' h' => K ls' (lv_mono h' hfit))
  · cases hf
theorem z_iop (hx : p.tables.exec = Jvm.exec) (hb : c.code = cc) (hdec : DecOk dec cc) :
    ∀ pc k x y τ en S st, c_ins dec pc a_iop = some (k, pc + 1) → JW p l e R s m args below meth c Q nL D cl cA A adW aT aS ck c0 d0 n0 ad0 (j_ult dec (pc + 1)) τ en ((1, j_iop k x y) :: S) st → JW p l e R s m args below meth c Q nL D cl cA A adW aT aS ck c0 d0 n0 ad0 (j_ult dec pc) τ en ((1, y) :: (1, x) :: S) st := by
  intro pc kk x y τ en S st h k
  obtain ⟨ii, hd, hf⟩ := c_ins1 h
  obtain ⟨hdc, hln⟩ := hdec _ _ _ hd
  have hin : InI (j_iop kk x y) := by
    unfold j_iop
    split <;> exact in_i32 _
  refine jw_st hx hb hdec k (ult_ins hd (ng hf (fun _ => rfl))) (fun _ hS _ _ => cons_ok (OkV.int hin) (hd_ok (hd_ok hS).2).2) (fun _ _ _ _ ad H locs ls _ _ _ _ cells slots K => ?_)
  unfold a_iop at hf
  have ev : ∀ v, Int32.ofInt (j_iop kk x y) = v → W p l e R s m args below meth c H locs cells slots Q (F0 m (pc + 1) ls (.int v :: S.map fun q => w_v ad adW aT aS q.1 q.2)) := fun v hv => by rw [← hv]; exact K
  split at hf <;> cases hf
  · exact lv_iadd hx hb hdc (ev _ (by show Int32.ofInt (j32 (x + y)) = _; rw [of_j32, Int32.ofInt_add]))
  · exact lv_isub hx hb hdc (ev _ (by show Int32.ofInt (j32 (x - y)) = _; rw [of_j32, Int32.ofInt_sub]))
  · exact lv_imul hx hb hdc (ev _ (by show Int32.ofInt (j32 (x * y)) = _; rw [of_j32, Int32.ofInt_mul]))
  · exact lv_iand hx hb hdc (ev _ (Int32.ofInt_toInt _))
  · exact lv_ior hx hb hdc (ev _ (Int32.ofInt_toInt _))
  · exact lv_ixor hx hb hdc (ev _ (Int32.ofInt_toInt _))
  · exact lv_ishl hx hb hdc (ev _ (Int32.ofInt_toInt _))
  · exact lv_ishr hx hb hdc (ev _ (Int32.ofInt_toInt _))
  · exact lv_iushr hx hb hdc rfl (ev _ (Int32.ofInt_toInt _))
theorem z_lop (hx : p.tables.exec = Jvm.exec) (hb : c.code = cc) (hdec : DecOk dec cc) :
    ∀ pc k x y τ en S st, c_ins dec pc a_lop = some (k, pc + 1) → JW p l e R s m args below meth c Q nL D cl cA A adW aT aS ck c0 d0 n0 ad0 (j_ult dec (pc + 1)) τ en ((2, j_lop k x y) :: S) st → JW p l e R s m args below meth c Q nL D cl cA A adW aT aS ck c0 d0 n0 ad0 (j_ult dec pc) τ en ((2, y) :: (2, x) :: S) st := by
  intro pc kk x y τ en S st h k
  obtain ⟨ii, hd, hf⟩ := c_ins1 h
  obtain ⟨hdc, hln⟩ := hdec _ _ _ hd
  have hin : InL (j_lop kk x y) := by
    unfold j_lop
    split <;> exact in_i64 _
  refine jw_st hx hb hdec k (ult_ins hd (ng hf (fun _ => rfl))) (fun _ hS _ _ => cons_ok (OkV.long hin) (hd_ok (hd_ok hS).2).2) (fun _ _ _ _ ad H locs ls _ _ _ _ cells slots K => ?_)
  unfold a_lop at hf
  have ev : ∀ v, Int64.ofInt (j_lop kk x y) = v → W p l e R s m args below meth c H locs cells slots Q (F0 m (pc + 1) ls (.long v :: S.map fun q => w_v ad adW aT aS q.1 q.2)) := fun v hv => by rw [← hv]; exact K
  split at hf <;> cases hf
  · exact lv_ladd hx hb hdc (ev _ (by show Int64.ofInt (j64 (x + y)) = _; rw [of_j64, Int64.ofInt_add]))
  · exact lv_lsub hx hb hdc (ev _ (by show Int64.ofInt (j64 (x - y)) = _; rw [of_j64, Int64.ofInt_sub]))
  · exact lv_lmul hx hb hdc (ev _ (by show Int64.ofInt (j64 (x * y)) = _; rw [of_j64, Int64.ofInt_mul]))
  · exact lv_land hx hb hdc (ev _ (Int64.ofInt_toInt _))
  · exact lv_lor hx hb hdc (ev _ (Int64.ofInt_toInt _))
theorem z_lsh (hx : p.tables.exec = Jvm.exec) (hb : c.code = cc) (hdec : DecOk dec cc) :
    ∀ pc k x y τ en S st, c_ins dec pc a_lsh = some (k, pc + 1) → JW p l e R s m args below meth c Q nL D cl cA A adW aT aS ck c0 d0 n0 ad0 (j_ult dec (pc + 1)) τ en ((2, j_lsh k x y) :: S) st → JW p l e R s m args below meth c Q nL D cl cA A adW aT aS ck c0 d0 n0 ad0 (j_ult dec pc) τ en ((1, y) :: (2, x) :: S) st := by
  intro pc kk x y τ en S st h k
  obtain ⟨ii, hd, hf⟩ := c_ins1 h
  obtain ⟨hdc, hln⟩ := hdec _ _ _ hd
  have hin : InL (j_lsh kk x y) := by
    unfold j_lsh
    split <;> exact in_i64 _
  refine jw_st hx hb hdec k (ult_ins hd (ng hf (fun _ => rfl))) (fun _ hS _ _ => cons_ok (OkV.long hin) (hd_ok (hd_ok hS).2).2) (fun _ _ _ _ ad H locs ls _ _ _ _ cells slots K => ?_)
  unfold a_lsh at hf
  have ev : ∀ v, Int64.ofInt (j_lsh kk x y) = v → W p l e R s m args below meth c H locs cells slots Q (F0 m (pc + 1) ls (.long v :: S.map fun q => w_v ad adW aT aS q.1 q.2)) := fun v hv => by rw [← hv]; exact K
  split at hf <;> cases hf
  · exact lv_lshl hx hb hdc rfl (ev _ (Int64.ofInt_toInt _))
  · exact lv_lshr hx hb hdc rfl (ev _ (Int64.ofInt_toInt _))
  · exact lv_lushr hx hb hdc rfl (ev _ (Int64.ofInt_toInt _))
theorem z_div (hx : p.tables.exec = Jvm.exec) (hb : c.code = cc) (hdec : DecOk dec cc) :
    ∀ pc kd k x y τ en S st, c_ins dec pc a_div = some ((kd, k), pc + 1) → y ≠ 0 → JW p l e R s m args below meth c Q nL D cl cA A adW aT aS ck c0 d0 n0 ad0 (j_ult dec (pc + 1)) τ en ((kd, j_div k x y) :: S) st → JW p l e R s m args below meth c Q nL D cl cA A adW aT aS ck c0 d0 n0 ad0 (j_ult dec pc) τ en ((kd, y) :: (kd, x) :: S) st := by
  intro pc kd kk x y τ en S st h hy k
  obtain ⟨ii, hd, hf⟩ := c_ins1 h
  obtain ⟨hdc, hln⟩ := hdec _ _ _ hd
  have hu := ult_ins hd (ng hf (fun _ => rfl))
  unfold a_div at hf
  split at hf <;> cases hf
  · refine jw_st hx hb hdec k hu (fun _ hS _ _ => cons_ok (OkV.int (in_j32 _)) (hd_ok (hd_ok hS).2).2) (fun _ hS _ _ ad H locs ls _ _ _ _ cells slots K => ?_)
    have iy := (hd_ok hS).1.1 rfl
    have ix := (hd_ok (hd_ok hS).2).1.1 rfl
    refine lv_idiv hx hb hdc (fun e => hy (by have := (of_eq iy in_0).mp e; exact this)) ?_
    have ev : Int32.ofInt x / Int32.ofInt y = Int32.ofInt (j_div 0 x y) := by
      show _ = Int32.ofInt (j32 _)
      rw [← tdiv_of, i32_of ix, i32_of iy]
    rw [ev]
    exact K
  · refine jw_st hx hb hdec k hu (fun _ hS _ _ => cons_ok (OkV.int (tmod_in ((hd_ok (hd_ok hS).2).1.1 rfl))) (hd_ok (hd_ok hS).2).2) (fun _ hS _ _ ad H locs ls _ _ _ _ cells slots K => ?_)
    have iy := (hd_ok hS).1.1 rfl
    have ix := (hd_ok (hd_ok hS).2).1.1 rfl
    refine lv_irem hx hb hdc (fun e => hy (by have := (of_eq iy in_0).mp e; exact this)) ?_
    rw [← tmod_of ix iy]
    exact K
  · refine jw_st hx hb hdec k hu (fun _ hS _ _ => cons_ok (OkV.long (in_j64 _)) (hd_ok (hd_ok hS).2).2) (fun _ hS _ _ ad H locs ls _ _ _ _ cells slots K => ?_)
    have iy := (hd_ok hS).1.2.1 rfl
    have ix := (hd_ok (hd_ok hS).2).1.2.1 rfl
    refine lv_ldiv hx hb hdc (fun e => hy (by have := (ol_eq iy in_0L).mp e; exact this)) ?_
    have ev : Int64.ofInt x / Int64.ofInt y = Int64.ofInt (j_div 2 x y) := by
      show _ = Int64.ofInt (j64 _)
      rw [← tdivL_of, i64_of ix, i64_of iy]
    rw [ev]
    exact K
  · refine jw_st hx hb hdec k hu (fun _ hS _ _ => cons_ok (OkV.long (tmod_inL ((hd_ok (hd_ok hS).2).1.2.1 rfl))) (hd_ok (hd_ok hS).2).2) (fun _ hS _ _ ad H locs ls _ _ _ _ cells slots K => ?_)
    have iy := (hd_ok hS).1.2.1 rfl
    have ix := (hd_ok (hd_ok hS).2).1.2.1 rfl
    refine lv_lrem hx hb hdc (fun e => hy (by have := (ol_eq iy in_0L).mp e; exact this)) ?_
    rw [← tmodL_of ix iy]
    exact K
theorem z_un (hx : p.tables.exec = Jvm.exec) (hb : c.code = cc) (hdec : DecOk dec cc) :
    ∀ pc k k1 k2 x τ en S st, c_ins dec pc a_un = some ((k, k1, k2), pc + 1) → JW p l e R s m args below meth c Q nL D cl cA A adW aT aS ck c0 d0 n0 ad0 (j_ult dec (pc + 1)) τ en ((k2, j_un k x) :: S) st → JW p l e R s m args below meth c Q nL D cl cA A adW aT aS ck c0 d0 n0 ad0 (j_ult dec pc) τ en ((k1, x) :: S) st := by
  intro pc kk k1 k2 x τ en S st h k
  obtain ⟨ii, hd, hf⟩ := c_ins1 h
  obtain ⟨hdc, hln⟩ := hdec _ _ _ hd
  have hu := ult_ins hd (ng hf (fun _ => rfl))
  unfold a_un at hf
  split at hf <;> cases hf
  · refine jw_st hx hb hdec k hu (fun _ hS _ _ => cons_ok (OkV.int (in_j32 _)) (hd_ok hS).2) (fun _ hS _ _ ad H locs ls _ _ _ _ cells slots K => lv_ineg hx hb hdc ?_)
    have ev : -Int32.ofInt x = Int32.ofInt (j_un 0 x) := by
      show _ = Int32.ofInt (j32 _)
      rw [of_j32, Int32.ofInt_neg]
    rw [ev]
    exact K
  · refine jw_st hx hb hdec k hu (fun _ hS _ _ => cons_ok (OkV.long (in_j64 _)) (hd_ok hS).2) (fun _ hS _ _ ad H locs ls _ _ _ _ cells slots K => lv_lneg hx hb hdc ?_)
    have ev : -Int64.ofInt x = Int64.ofInt (j_un 1 x) := by
      show _ = Int64.ofInt (j64 _)
      rw [of_j64, Int64.ofInt_neg]
    rw [ev]
    exact K
  · refine jw_st hx hb hdec k hu (fun _ hS _ _ => cons_ok (OkV.long (by
      have := (hd_ok hS).1.1 rfl
      have h1 := this.1
      have h2 := this.2
      have e : (2, j_un 2 x).2 = x := rfl
      rw [e]
      exact ⟨by omega, by omega⟩)) (hd_ok hS).2) (fun _ hS _ _ ad H locs ls _ _ _ _ cells slots K => lv_i2l hx hb hdc ?_ K)
    have ix := (hd_ok hS).1.1 rfl
    apply Int64.toInt_inj.mp
    rw [Int32.toInt_toInt64, i32_of ix]
    have h1 := ix.1
    have h2 := ix.2
    exact (i64_of ⟨by dsimp only at *; omega, by dsimp only at *; omega⟩).symm
  · refine jw_st hx hb hdec k hu (fun _ hS _ _ => cons_ok (OkV.int (in_j32 _)) (hd_ok hS).2) (fun _ hS _ _ ad H locs ls _ _ _ _ cells slots K => lv_l2i hx hb hdc ?_ K)
    have ix := (hd_ok hS).1.2.1 rfl
    apply Int32.toInt_inj.mp
    show _ = (Int32.ofInt (j32 x)).toInt
    rw [of_j32, Int64.toInt_toInt32, i64_of ix, Int32.toInt_ofInt]
  · exact jw_st hx hb hdec k hu (fun _ hS _ _ => cons_ok (OkV.int (in_i32 _)) (hd_ok hS).2) (fun _ hS _ _ ad H locs ls _ _ _ _ cells slots K => lv_i2b hx hb hdc (Int32.ofInt_toInt _).symm K)
theorem z_dup (hx : p.tables.exec = Jvm.exec) (hb : c.code = cc) (hdec : DecOk dec cc) :
    ∀ pc q τ en S st, c_op0 dec pc 1 = true → q.1 ≠ 2 → JW p l e R s m args below meth c Q nL D cl cA A adW aT aS ck c0 d0 n0 ad0 (j_ult dec (pc + 1)) τ en (q :: q :: S) st → JW p l e R s m args below meth c Q nL D cl cA A adW aT aS ck c0 d0 n0 ad0 (j_ult dec pc) τ en (q :: S) st := by
  intro pc q τ en S st h hq k
  obtain ⟨ii, hd, hf⟩ := c_op0_spec h
  obtain ⟨hdc, hln⟩ := hdec _ _ _ hd
  have hi : ii = .dup := by
    unfold a_op0 at hf
    split at hf <;> first | rfl | cases hf
  subst hi
  exact jw_st hx hb hdec k (ult_ins hd rfl) (fun _ hS _ _ => cons_ok (hd_ok hS).1 hS) (fun _ _ _ _ ad H locs ls _ _ _ _ cells slots K => lv_dup hx hb hdc (by rw [w_cat]; unfold k_cat; rw [if_neg hq]) K)
theorem z_dup2 (hx : p.tables.exec = Jvm.exec) (hb : c.code = cc) (hdec : DecOk dec cc) :
    ∀ pc q r τ en S st, c_op0 dec pc 2 = true → q.1 ≠ 2 → r.1 ≠ 2 → JW p l e R s m args below meth c Q nL D cl cA A adW aT aS ck c0 d0 n0 ad0 (j_ult dec (pc + 1)) τ en (q :: r :: q :: r :: S) st → JW p l e R s m args below meth c Q nL D cl cA A adW aT aS ck c0 d0 n0 ad0 (j_ult dec pc) τ en (q :: r :: S) st := by
  intro pc q r τ en S st h hq hr k
  obtain ⟨ii, hd, hf⟩ := c_op0_spec h
  obtain ⟨hdc, hln⟩ := hdec _ _ _ hd
  have hi : ii = .dup2 := by
    unfold a_op0 at hf
    split at hf <;> first | rfl | cases hf
  subst hi
  exact jw_st hx hb hdec k (ult_ins hd rfl) (fun _ hS _ _ => cons_ok (hd_ok hS).1 (cons_ok (hd_ok (hd_ok hS).2).1 hS)) (fun _ _ _ _ ad H locs ls _ _ _ _ cells slots K => lv_dup2_11 hx hb hdc (by rw [w_cat]; unfold k_cat; rw [if_neg hq]) (by rw [w_cat]; unfold k_cat; rw [if_neg hr]) K)
theorem z_pop (hx : p.tables.exec = Jvm.exec) (hb : c.code = cc) (hdec : DecOk dec cc) :
    ∀ pc q τ en S st, c_op0 dec pc 3 = true → q.1 ≠ 2 → JW p l e R s m args below meth c Q nL D cl cA A adW aT aS ck c0 d0 n0 ad0 (j_ult dec (pc + 1)) τ en S st → JW p l e R s m args below meth c Q nL D cl cA A adW aT aS ck c0 d0 n0 ad0 (j_ult dec pc) τ en (q :: S) st := by
  intro pc q τ en S st h hq k
  obtain ⟨ii, hd, hf⟩ := c_op0_spec h
  obtain ⟨hdc, hln⟩ := hdec _ _ _ hd
  have hi : ii = .pop := by
    unfold a_op0 at hf
    split at hf <;> first | rfl | cases hf
  subst hi
  exact jw_st hx hb hdec k (ult_ins hd rfl) (fun _ hS _ _ => (hd_ok hS).2) (fun _ _ _ _ ad H locs ls _ _ _ _ cells slots K => lv_pop hx hb hdc (by rw [w_cat]; unfold k_cat; rw [if_neg hq]) K)
theorem a_cn_s {q : Jvm.ClassFile.Cond} {k : Nat} (h : a_cn q = k) : (k = 0 ∧ q = .eq) ∨ (k = 1 ∧ q = .ne) ∨ (k = 2 ∧ q = .lt) ∨ (k = 3 ∧ q = .ge) ∨ (k = 4 ∧ q = .gt) ∨ (k = 5 ∧ q = .le) := by
  cases q <;> simp [a_cn] at h <;> subst h <;> simp
/-- a step that goes to one of two places -/
theorem jw_br (hx : p.tables.exec = Jvm.exec) (hb : c.code = cc) (hdec : DecOk dec cc) {τ : List Nat} {en : List Int} {S S' : List (Nat × Int)} {st : XT} {pc pc1 pc2 : Nat} {b : Bool}
    (k1 : b = true → JW p l e R s m args below meth c Q nL D cl cA A adW aT aS ck c0 d0 n0 ad0 (j_ult dec pc1) τ en S' st) (k2 : b = false → JW p l e R s m args below meth c Q nL D cl cA A adW aT aS ck c0 d0 n0 ad0 (j_ult dec pc2) τ en S' st)
    (hu : j_ult dec pc = pc) (hS : (∀ q ∈ S, OkV st.1.1 q.1 q.2) → ∀ q ∈ S', OkV st.1.1 q.1 q.2)
    (hW : (∀ q ∈ S, OkV st.1.1 q.1 q.2) → ∀ (ad : Nat → Nat) (H : Heap) (locs : List Loc) (ls : Array Slot) cells slots,
      (b = true → W p l e R s m args below meth c H locs cells slots Q (F0 m pc1 ls (S'.map fun q => w_v ad adW aT aS q.1 q.2))) → (b = false → W p l e R s m args below meth c H locs cells slots Q (F0 m pc2 ls (S'.map fun q => w_v ad adW aT aS q.1 q.2))) → W p l e R s m args below meth c H locs cells slots Q (F0 m pc ls (S.map fun q => w_v ad adW aT aS q.1 q.2))) :
    JW p l e R s m args below meth c Q nL D cl cA A adW aT aS ck c0 d0 n0 ad0 (j_ult dec pc) τ en S st := by
  rw [hu]
  have k1' := fun h => jw_ult hx hb hdec (k1 h)
  have k2' := fun h => jw_ult hx hb hdec (k2 h)
  refine ⟨?_, fun h1 h2 h3 h4 h5 h6 ad H locs ls g1 g2 g3 g4 => hW h2 ad H locs ls _ _ (fun h => (k1' h).2 h1 (hS h2) h3 h4 h5 h6 ad H locs ls g1 g2 g3 g4) (fun h => (k2' h).2 h1 (hS h2) h3 h4 h5 h6 ad H locs ls g1 g2 g3 g4)⟩
  cases b with
  | true => exact (k1' rfl).1
  | false => exact (k2' rfl).1
theorem j_tgt_s {pc t : Nat} {off : Int} (h : j_tgt pc off = some t) : (pc : Int) + off = (t : Int) := by
  obtain ⟨h0, h⟩ := j_if h
  omega
theorem z_icmp (hx : p.tables.exec = Jvm.exec) (hb : c.code = cc) (hdec : DecOk dec cc) :
    ∀ pc k off t x y τ en S st, c_ins dec pc a_icmp = some ((k, off), pc + 3) → j_tgt pc off = some t → (j_cmp k x y = true → JW p l e R s m args below meth c Q nL D cl cA A adW aT aS ck c0 d0 n0 ad0 (j_ult dec t) τ en S st) → (j_cmp k x y = false → JW p l e R s m args below meth c Q nL D cl cA A adW aT aS ck c0 d0 n0 ad0 (j_ult dec (pc + 3)) τ en S st) → JW p l e R s m args below meth c Q nL D cl cA A adW aT aS ck c0 d0 n0 ad0 (j_ult dec pc) τ en ((1, y) :: (1, x) :: S) st := by
  intro pc kk off t x y τ en S st h ht k1 k2
  obtain ⟨ii, hd, hf⟩ := c_ins1 h
  obtain ⟨hdc, hln⟩ := hdec _ _ _ hd
  have ht := j_tgt_s ht
  refine jw_br hx hb hdec k1 k2 (ult_ins hd (ng hf (fun _ => rfl))) (fun hS => (hd_ok (hd_ok hS).2).2) (fun hS ad H locs ls cells slots K1 K2 => ?_)
  have iy := (hd_ok hS).1.1 rfl
  have ix := (hd_ok (hd_ok hS).2).1.1 rfl
  dsimp only at ix iy
  unfold a_icmp at hf
  split at hf
  · obtain ⟨e1, e2⟩ := Prod.mk.inj (Option.some.inj hf)
    subst e2
    rcases a_cn_s e1 with ⟨rfl, rfl⟩ | ⟨rfl, rfl⟩ | ⟨rfl, rfl⟩ | ⟨rfl, rfl⟩ | ⟨rfl, rfl⟩ | ⟨rfl, rfl⟩
    · exact lv_icmp_eq hx hb hdc ht (fun q => K1 (decide_eq_true ((of_eq ix iy).mp q))) (fun q => K2 (decide_eq_false (fun z => q ((of_eq ix iy).mpr z))))
    · exact lv_icmp_ne hx hb hdc ht (fun q => K1 (decide_eq_true (fun z => q ((of_eq ix iy).mpr z)))) (fun q => K2 (decide_eq_false (fun z => z ((of_eq ix iy).mp q))))
    · exact lv_icmp_lt hx hb hdc ht (fun q => K1 (decide_eq_true ((of_lt ix iy).mp q))) (fun q => K2 (decide_eq_false (fun z => q ((of_lt ix iy).mpr z))))
    · exact lv_icmp_ge hx hb hdc ht (fun q => K1 (decide_eq_true ((of_le iy ix).mp q))) (fun q => K2 (decide_eq_false (fun z => q ((of_le iy ix).mpr z))))
    · exact lv_icmp_gt hx hb hdc ht (fun q => K1 (decide_eq_true ((of_lt iy ix).mp q))) (fun q => K2 (decide_eq_false (fun z => q ((of_lt iy ix).mpr z))))
    · exact lv_icmp_le hx hb hdc ht (fun q => K1 (decide_eq_true ((of_le ix iy).mp q))) (fun q => K2 (decide_eq_false (fun z => q ((of_le ix iy).mpr z))))
  · cases hf
theorem z_if (hx : p.tables.exec = Jvm.exec) (hb : c.code = cc) (hdec : DecOk dec cc) :
    ∀ pc k off t x τ en S st, c_ins dec pc a_if = some ((k, off), pc + 3) → j_tgt pc off = some t → (j_cmp k x 0 = true → JW p l e R s m args below meth c Q nL D cl cA A adW aT aS ck c0 d0 n0 ad0 (j_ult dec t) τ en S st) → (j_cmp k x 0 = false → JW p l e R s m args below meth c Q nL D cl cA A adW aT aS ck c0 d0 n0 ad0 (j_ult dec (pc + 3)) τ en S st) → JW p l e R s m args below meth c Q nL D cl cA A adW aT aS ck c0 d0 n0 ad0 (j_ult dec pc) τ en ((1, x) :: S) st := by
  intro pc kk off t x τ en S st h ht k1 k2
  obtain ⟨ii, hd, hf⟩ := c_ins1 h
  obtain ⟨hdc, hln⟩ := hdec _ _ _ hd
  have ht := j_tgt_s ht
  refine jw_br hx hb hdec k1 k2 (ult_ins hd (ng hf (fun _ => rfl))) (fun hS => (hd_ok hS).2) (fun hS ad H locs ls cells slots K1 K2 => ?_)
  have ix := (hd_ok hS).1.1 rfl
  have iy := in_0
  dsimp only at ix
  unfold a_if at hf
  split at hf
  · obtain ⟨e1, e2⟩ := Prod.mk.inj (Option.some.inj hf)
    subst e2
    rcases a_cn_s e1 with ⟨rfl, rfl⟩ | ⟨rfl, rfl⟩ | ⟨rfl, rfl⟩ | ⟨rfl, rfl⟩ | ⟨rfl, rfl⟩ | ⟨rfl, rfl⟩
    · exact lv_if_eq hx hb hdc ht (fun q => K1 (decide_eq_true ((of_eq ix iy).mp q))) (fun q => K2 (decide_eq_false (fun z => q ((of_eq ix iy).mpr z))))
    · exact lv_if_ne hx hb hdc ht (fun q => K1 (decide_eq_true (fun z => q ((of_eq ix iy).mpr z)))) (fun q => K2 (decide_eq_false (fun z => z ((of_eq ix iy).mp q))))
    · exact lv_if_lt hx hb hdc ht (fun q => K1 (decide_eq_true ((of_lt ix iy).mp q))) (fun q => K2 (decide_eq_false (fun z => q ((of_lt ix iy).mpr z))))
    · exact lv_if_ge hx hb hdc ht (fun q => K1 (decide_eq_true ((of_le iy ix).mp q))) (fun q => K2 (decide_eq_false (fun z => q ((of_le iy ix).mpr z))))
    · exact lv_if_gt hx hb hdc ht (fun q => K1 (decide_eq_true ((of_lt iy ix).mp q))) (fun q => K2 (decide_eq_false (fun z => q ((of_lt iy ix).mpr z))))
    · exact lv_if_le hx hb hdc ht (fun q => K1 (decide_eq_true ((of_le ix iy).mp q))) (fun q => K2 (decide_eq_false (fun z => q ((of_le ix iy).mpr z))))
  · cases hf
def lc_i (x y : Int) : Int := if y < x then 1 else if x = y then 0 else -1
theorem lc_cmp {k : Nat} {x y : Int} : j_cmp k (lc_i x y) 0 = j_cmp k x y := by
  unfold lc_i j_cmp
  split <;> (rw [Bool.eq_iff_iff]; simp only [decide_eq_true_eq]; split; omega; split <;> omega)
theorem lg_of {x y : Int} (hx : InL x) (hy : InL y) : lg_cmp (Int64.ofInt x) (Int64.ofInt y) = Int32.ofInt (lc_i x y) := by
  unfold lg_cmp lc_i
  simp only [gt_iff_lt, ol_lt hy hx, ol_eq hx hy]
  split
  · rfl
  · split <;> rfl
theorem lc_in (x y : Int) : InI (lc_i x y) := by
  unfold lc_i
  split
  · exact ⟨by decide, by decide⟩
  · split <;> exact ⟨by decide, by decide⟩
theorem z_lcmp (hx : p.tables.exec = Jvm.exec) (hb : c.code = cc) (hdec : DecOk dec cc) :
    ∀ pc k off t x y τ en S st, c_op0 dec pc 5 = true → c_ins dec (pc + 1) a_if = some ((k, off), pc + 1 + 3) → j_tgt (pc + 1) off = some t → (j_cmp k x y = true → JW p l e R s m args below meth c Q nL D cl cA A adW aT aS ck c0 d0 n0 ad0 (j_ult dec t) τ en S st) → (j_cmp k x y = false → JW p l e R s m args below meth c Q nL D cl cA A adW aT aS ck c0 d0 n0 ad0 (j_ult dec (pc + 1 + 3)) τ en S st) → JW p l e R s m args below meth c Q nL D cl cA A adW aT aS ck c0 d0 n0 ad0 (j_ult dec pc) τ en ((2, y) :: (2, x) :: S) st := by
  intro pc kk off t x y τ en S st h h2 ht k1 k2
  have k := z_if (p := p) (l := l) (e := e) (R := R) (s := s) (m := m) (args := args) (below := below) (meth := meth) (c := c) (Q := Q) (nL := nL) (D := D) (cl := cl) (cA := cA) (A := A) (adW := adW) (aT := aT) (aS := aS) (ck := ck) (c0 := c0) (d0 := d0) (n0 := n0) (ad0 := ad0) hx hb hdec (pc + 1) kk off t (lc_i x y) τ en S st h2 ht (by rw [lc_cmp]; exact k1) (by rw [lc_cmp]; exact k2)
  obtain ⟨ii, hd, hf⟩ := c_op0_spec h
  obtain ⟨hdc, hln⟩ := hdec _ _ _ hd
  have hi : ii = .lcmp := by
    unfold a_op0 at hf
    split at hf <;> first | rfl | cases hf
  subst hi
  refine jw_st hx hb hdec k (ult_ins hd rfl) (fun _ hS _ _ => cons_ok (OkV.int (lc_in x y)) (hd_ok (hd_ok hS).2).2) (fun _ hS _ _ ad H locs ls _ _ _ _ cells slots K => W.lcmp hx hb hdc ?_)
  rw [lg_of ((hd_ok (hd_ok hS).2).1.2.1 rfl) ((hd_ok hS).1.2.1 rfl)]
  exact K
theorem z_acmp (hx : p.tables.exec = Jvm.exec) (hb : c.code = cc) (hdec : DecOk dec cc) (hW : ∀ i j : Nat, i < 24 → j < 24 → adW i = adW j → i = j) :
    ∀ pc k off t x y τ en S st, c_ins dec pc a_acmp = some ((k, off), pc + 3) → j_tgt pc off = some t → (j_cmp k x y = true → JW p l e R s m args below meth c Q nL D cl cA A adW aT aS ck c0 d0 n0 ad0 (j_ult dec t) τ en S st) → (j_cmp k x y = false → JW p l e R s m args below meth c Q nL D cl cA A adW aT aS ck c0 d0 n0 ad0 (j_ult dec (pc + 3)) τ en S st) → JW p l e R s m args below meth c Q nL D cl cA A adW aT aS ck c0 d0 n0 ad0 (j_ult dec pc) τ en ((3, y) :: (3, x) :: S) st := by
  intro pc kk off t x y τ en S st h ht k1 k2
  obtain ⟨ii, hd, hf⟩ := c_ins1 h
  obtain ⟨hdc, hln⟩ := hdec _ _ _ hd
  have ht := j_tgt_s ht
  refine jw_br hx hb hdec k1 k2 (ult_ins hd (ng hf (fun _ => rfl))) (fun hS => (hd_ok (hd_ok hS).2).2) (fun hS ad H locs ls cells slots K1 K2 => ?_)
  have iy := (hd_ok hS).1.2.2.1 rfl
  have ix := (hd_ok (hd_ok hS).2).1.2.2.1 rfl
  dsimp only at ix iy
  have he : (some (adW x.toNat) = some (adW y.toNat)) ↔ x = y := by
    constructor
    · intro q
      have := hW _ _ (by omega) (by omega) (Option.some.inj q)
      omega
    · intro q
      rw [q]
  unfold a_acmp at hf
  split at hf
  · cases hf
    exact lv_acmp_eq (rx := some (adW x.toNat)) (ry := some (adW y.toNat)) hx hb hdc ht (fun q => K1 (decide_eq_true (he.mp q))) (fun q => K2 (decide_eq_false (fun z => q (he.mpr z))))
  · cases hf
    exact lv_acmp_ne (rx := some (adW x.toNat)) (ry := some (adW y.toNat)) hx hb hdc ht (fun q => K1 (decide_eq_true (fun z => q (he.mpr z)))) (fun q => K2 (decide_eq_false (fun z => z (he.mp q))))
  · cases hf
theorem z_sw (hx : p.tables.exec = Jvm.exec) (hb : c.code = cc) (hdec : DecOk dec cc) :
    ∀ pc v t τ en S st, c_swOk dec pc = true → c_swT dec pc v = some t → JW p l e R s m args below meth c Q nL D cl cA A adW aT aS ck c0 d0 n0 ad0 (j_ult dec t) τ en S st → JW p l e R s m args below meth c Q nL D cl cA A adW aT aS ck c0 d0 n0 ad0 (j_ult dec pc) τ en ((1, v) :: S) st := by
  intro pc v t τ en S st hok h k
  unfold c_swOk at hok
  unfold c_swT at h
  split at hok
  · rename_i df lo hi offs n hd
    obtain ⟨hdc, hln⟩ := hdec _ _ _ hd
    rw [hd] at h
    simp only [Option.bind_some] at h
    refine jw_st hx hb hdec k (ult_ins hd rfl) (fun _ hS _ _ => (hd_ok hS).2) (fun _ hS _ _ ad H locs ls _ _ _ _ cells slots K => ?_)
    have iv := (hd_ok hS).1.1 rfl
    dsimp only at iv
    split at h
    · rename_i hout
      exact lv_tableOut hx hb hdc (by rw [i32_of iv]; exact hout) (j_tgt_s h) K
    · rename_i hout
      obtain ⟨o, ho, h⟩ := j_bd h
      exact lv_tableIn hx hb hdc (by rw [i32_of iv]; omega) (by rw [i32_of iv]; omega) (by rw [i32_of iv]; exact ho) (j_tgt_s h) K
  · rename_i df ps n hd
    obtain ⟨hdc, hln⟩ := hdec _ _ _ hd
    rw [hd] at h
    simp only [Option.bind_some] at h
    refine jw_st hx hb hdec k (ult_ins hd rfl) (fun _ hS _ _ => (hd_ok hS).2) (fun _ hS _ _ ad H locs ls _ _ _ _ cells slots K => ?_)
    have iv := (hd_ok hS).1.1 rfl
    dsimp only at iv
    exact lv_lookup hx hb hdc hok (by rw [i32_of iv]) (j_tgt_s h) K
  · cases hok
theorem z_mono : ∀ pc τ τ' en S st, k_sub τ τ' = true → JW p l e R s m args below meth c Q nL D cl cA A adW aT aS ck c0 d0 n0 ad0 pc τ en S st → JW p l e R s m args below meth c Q nL D cl cA A adW aT aS ck c0 d0 n0 ad0 pc τ' en S st := by
  intro pc τ τ' en S st h k
  unfold k_sub at h
  rw [Bool.and_eq_true, beq_iff_eq] at h
  obtain ⟨h1, h2⟩ := h
  have h3 : ∀ i, τ.getD i 0 ≠ 0 → i < τ.length ∧ τ'.getD i 0 = τ.getD i 0 := by
    intro i hi
    have hlt : i < τ.length := by
      apply Classical.byContradiction
      intro hn
      apply hi
      simp only [List.getD]
      rw [List.getElem?_eq_none (by omega)]
      rfl
    have := List.all_eq_true.mp h2 i (List.mem_range.mpr hlt)
    rw [Bool.or_eq_true, beq_iff_eq, beq_iff_eq] at this
    rcases this with q | q
    · exact absurd q hi
    · exact ⟨hlt, q.symm⟩
  refine ⟨k.1, fun g1 g2 g3 g4 g5 g6 ad H locs ls f1 f2 f3 f4 => k.2 g1 g2 (fun i hi => ?_) g4 g5 (h1.trans g6) ad H locs ls f1 f2 f3 (lv_mono f4 (fun q hq => ?_))⟩
  · have := g3 i (by rw [(h3 i hi).2]; exact hi)
    rw [(h3 i hi).2] at this
    exact this
  · obtain ⟨a1, a2, a3⟩ := w_l_mem.mp hq
    have := h3 _ a2
    exact w_l_mem.mpr ⟨by omega, by rw [this.2]; exact a2, by rw [this.2]; exact a3⟩
end JW2
