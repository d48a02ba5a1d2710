/-! THE CLAIM OUT OF ONE WALK OF THE LAW'S BODY. Your part is whole_start (and what it stands on); all else here is the same for every law, but numbers. -/
def R_law : String := "RiverNamesLaw"
def lw_P (b : Addr) (xs : List Int32) (args : Array Value) (s : State) : Prop := args = #[.ref b] ∧ s.IntsAt b xs ∧ xs.length ≤ 260 ∧ (Jvm.Cond.and given_1 narrow_1).before args s = true
def lw_Q (_ : Array Value) (s : State) (o : Outcome) (t : State) : Prop := o = .returned (some (.int 1)) ∧ Framed s o t [] 600000 7302250
def lw_Z (below : List Frame) (a : Array Value) (s : State) : State → Prop := fun t => ∃ o, t.status = .running ∧ Ended t below o ∧ lw_Q a s o t
/-- the law's own end, with 1 on the stack, nothing written that was there before, its room as the claim has it -/
theorem lw_ret {p : Program} {l : Launch} {e : Env} {s : State} {m : MethodId} {below : List Frame} {meth : Method} {c : Code} {b : Nat} (hx : p.tables.exec = Jvm.exec) (hb : c.code = code) (hr : meth.sig.returnType = ret) (hlocks : meth.locks = false) {pc : Nat} {H : Heap} {ls : Array Slot} (hdg : decode code pc = .ok (.ireturn, 1)) : W p l e room_1 s m #[Value.ref b] below meth c H [] 600000 7302250 (lw_Z below #[Value.ref b] s) (F0 m pc ls [.int 1]) := by
  intro T hT X
  obtain ⟨fs, hret, hrun, hended, hW, hframe⟩ := X.leave (v := some (.int 1)) (hlocks := hlocks) (fun h => by rw [hr] at h; cases h)
  have hmeth' : T.vm.method? m = some meth := X.method'
  refine ⟨T.setFrames fs, ?_, .returned (some (.int 1)), hrun, hended, rfl, ⟨_, rfl⟩, hW, hframe⟩
  jvm_step X.here [X.here.top, hx, hb, hdg, hmeth', hr, ret, narrow_b1]
  (try refine ⟨rfl, ?_⟩); (try refine ⟨rfl, ?_⟩)
  first | (intro acts; rw [hret _ acts rfl rfl rfl]) | rw [hret _ _ rfl rfl rfl]
  exact Steps.refl _
/-- what holds at the law's entry: the machine, the code, the tables' words (any of lw_tbl by 'hts w (by decide +kernel)'), the script of L ints xs at the cell b, what the Statement gives of the start (any of its parts by flat_of_before) -/
def lw_At (p : Program) (s : State) (m : MethodId) (meth : Method) (c : Code) (b L : Nat) (xs : Nat → Int32) : Prop :=
  p.tables.exec = Jvm.exec ∧ c.code = code ∧ meth.sig.returnType = ret ∧ c.maxLocals = 12 ∧ s.vm.findClass R_law = some m.cls ∧ (∀ w ∈ lw_tbl, w.before #[Value.ref b] s = true) ∧ va_X b L xs s s.heap ∧ b < s.heap.size ∧ meth.locks = false ∧ (Jvm.Cond.and given_1 narrow_1).before #[Value.ref b] s = true
theorem rn_inst : ∀ a, a < 11 → Cond.instantiable (rn_cn a) (rn_nf a) ∈ lw_tbl := by
  intro a h
  match a, h with
  | 0, _ => exact List.mem_of_getElem? (i := 79) (by decide +kernel)
  | 1, _ => exact List.mem_of_getElem? (i := 72) (by decide +kernel)
  | 2, _ => exact List.mem_of_getElem? (i := 227) (by decide +kernel)
  | 3, _ => exact List.mem_of_getElem? (i := 164) (by decide +kernel)
  | 4, _ => exact List.mem_of_getElem? (i := 38) (by decide +kernel)
  | 5, _ => exact List.mem_of_getElem? (i := 90) (by decide +kernel)
  | 6, _ => exact List.mem_of_getElem? (i := 237) (by decide +kernel)
  | 7, _ => exact List.mem_of_getElem? (i := 44) (by decide +kernel)
  | 8, _ => exact List.mem_of_getElem? (i := 137) (by decide +kernel)
  | 9, _ => exact List.mem_of_getElem? (i := 30) (by decide +kernel)
  | 10, _ => exact List.mem_of_getElem? (i := 30) (by decide +kernel)
  | k + 11, h => exact absurd h (by omega)
theorem rn_q_sr : Cond.laysStatic "RiverNames" "STEPS_RIGHT" "[I" ∈ lw_tbl := List.mem_of_getElem? (i := 607) (by decide +kernel)
theorem rn_q_sd : Cond.laysStatic "RiverNames" "STEPS_DOWN" "[I" ∈ lw_tbl := List.mem_of_getElem? (i := 609) (by decide +kernel)
theorem rn_q_i1 : Cond.initialized "RiverNames" ∈ lw_tbl := List.mem_of_getElem? (i := 16) (by decide +kernel)
theorem rn_q_a0 : Cond.arrayOver (.object (rn_cn 0)) ∈ lw_tbl := List.mem_of_getElem? (i := 78) (by decide +kernel)
theorem rn_q_a3 : Cond.arrayOver (.object (rn_cn 3)) ∈ lw_tbl := List.mem_of_getElem? (i := 89) (by decide +kernel)
theorem rn_q_a5 : Cond.arrayOver (.object (rn_cn 5)) ∈ lw_tbl := List.mem_of_getElem? (i := 85) (by decide +kernel)
theorem rn_q_a8 : Cond.arrayOver (.object (rn_cn 8)) ∈ lw_tbl := List.mem_of_getElem? (i := 87) (by decide +kernel)
theorem rn_start {p : Program} {e : Env} {s : State} {m : MethodId} {below : List Frame} {meth : Method} {c : Code} (l : Launch) {b L : Nat} {xs : Nat → Int32} (hL : L ≤ 260) (C0 : lw_At p s m meth c b L xs)
    (hlaw : rn_ME 215 [rn_R 0] (rn_M0 L (fun k => (xs k).toInt)) (fun r _ => r = some (rn_I 1))) : W p l e room_1 s m #[Value.ref b] below meth c s.heap [] 0 0 (lw_Z below #[Value.ref b] s) (entryFrame m ([Value.ref b] : List Value).toArray 12) := by
  obtain ⟨hx, hb, hr, hml, hown, hts, hX, hbl, hlocks, hgv⟩ := id C0
  have hg := flat_of_before _ hgv
  have hA : ∀ a : Nat, a < s.heap.size → ¬ (fun q : Nat => s.heap.size ≤ q) a := fun a h q => absurd q (Nat.not_le.mpr h)
  -- the classes
  have hcls : ∀ ci : Nat, ∃ q : ClassId × (Nat → Nat), ci < 11 → u_Kn s (rn_cn ci) (rn_T ci) (rn_nf ci) q.1 q.2 := by
    intro ci
    by_cases h : ci < 11
    · obtain ⟨cC, iS, h1⟩ := u_known (C := rn_cn ci) (T := rn_T ci) (N := rn_nf ci) (n := rn_nf ci) hts (fun w hw => (rn_cl_in ci h w hw).1) (hts _ (rn_inst ci h))
      exact ⟨(cC, iS), fun _ => h1⟩
    · exact ⟨(0, fun _ => 0), fun q => absurd q h⟩
  obtain ⟨f, hf⟩ := Classical.axiomOfChoice hcls
  have hK : va_K (fun ci => (f ci).1, fun ci => (f ci).2) rn_cl [] s := by
    refine ⟨fun ci q hq => ?_, fun k q h => by simp at h⟩
    have h11 : ci < 11 := by
      have := (List.getElem?_eq_some_iff.mp hq).1
      exact this
    rw [rn_cl_at ci h11] at hq
    cases hq
    exact hf ci h11
  -- the tables
  obtain ⟨t1, ht1, hT1⟩ := va_Tof (args := #[Value.ref b]) (s := s) (tm := .static "RiverNames" "STEPS_RIGHT" "[I") (ty := .int) (N := 8) (f := fun j => .int (Int32.ofInt (rn_sR.getD j 0))) (A := fun q : Nat => s.heap.size ≤ q) (by decide) (hg _ (by decide +kernel)) (va_eqt (hg _ (by decide +kernel))) (fun j hj => by
    match j, hj with
    | 0, _ => exact va_eqt (hg _ (by decide +kernel))
    | 1, _ => exact va_eqt (hg _ (by decide +kernel))
    | 2, _ => exact va_eqt (hg _ (by decide +kernel))
    | 3, _ => exact va_eqt (hg _ (by decide +kernel))
    | 4, _ => exact va_eqt (hg _ (by decide +kernel))
    | 5, _ => exact va_eqt (hg _ (by decide +kernel))
    | 6, _ => exact va_eqt (hg _ (by decide +kernel))
    | 7, _ => exact va_eqt (hg _ (by decide +kernel))
    | n + 8, h => exact absurd h (by omega)) hA
  obtain ⟨t2, ht2, hT2⟩ := va_Tof (args := #[Value.ref b]) (s := s) (tm := .static "RiverNames" "STEPS_DOWN" "[I") (ty := .int) (N := 8) (f := fun j => .int (Int32.ofInt (rn_sD.getD j 0))) (A := fun q : Nat => s.heap.size ≤ q) (by decide) (hg _ (by decide +kernel)) (va_eqt (hg _ (by decide +kernel))) (fun j hj => by
    match j, hj with
    | 0, _ => exact va_eqt (hg _ (by decide +kernel))
    | 1, _ => exact va_eqt (hg _ (by decide +kernel))
    | 2, _ => exact va_eqt (hg _ (by decide +kernel))
    | 3, _ => exact va_eqt (hg _ (by decide +kernel))
    | 4, _ => exact va_eqt (hg _ (by decide +kernel))
    | 5, _ => exact va_eqt (hg _ (by decide +kernel))
    | 6, _ => exact va_eqt (hg _ (by decide +kernel))
    | 7, _ => exact va_eqt (hg _ (by decide +kernel))
    | n + 8, h => exact absurd h (by omega)) hA
  -- the words
  have hnst : ∀ w ∈ rn_nst, va_Nw w s := by
    intro w hw
    obtain ⟨h1, h2⟩ := List.mem_filter.mp hw
    refine va_Nw.of ?_ (hts w h1)
    cases w <;> first | rfl | cases h2
  have hAO : ∀ ci, (ci = 0 ∨ ci = 3 ∨ ci = 5 ∨ ci = 8) → va_AO (rn_cn ci) s := by
    intro ci h
    rcases h with rfl | rfl | rfl | rfl
    · exact va_AO.of (hts _ rn_q_a0)
    · exact va_AO.of (hts _ rn_q_a3)
    · exact va_AO.of (hts _ rn_q_a5)
    · exact va_AO.of (hts _ rn_q_a8)
  have hT0 : va_T .int b L (fun j => .int (Int32.ofInt ((fun k => (xs k).toInt) j))) (fun q : Nat => s.heap.size ≤ q) s s.heap := by
    obtain ⟨scr, h1, h2, h3, h4, h5⟩ := hX
    exact ⟨scr, h1, h2, h3, by omega, by rw [h4], fun j hj => by rw [h5 j hj]; simp only [rn_back], hA b hbl⟩
  let ad : Nat → Nat := fun a => match a with | 0 => b | 1 => t1 | 2 => t2 | _ => 0
  have hEf : rn_Ef ad (fun q : Nat => s.heap.size ≤ q) s s.heap :=
    ⟨va_Zref (hts _ rn_q_sr) (hts _ rn_q_i1) ht1 hA, va_Zref (hts _ rn_q_sd) (hts _ rn_q_i1) ht2 hA, hnst, hAO⟩
  have hEv : rn_Ev ad (rn_M0 L (fun k => (xs k).toInt)) (fun q : Nat => s.heap.size ≤ q) s s.heap := by
    intro a ha
    match a, ha with
    | 0, _ => exact fun _ => ⟨by show L ≤ 100000; omega, hT0, fun j hj => by rw [show rn_gi (rn_M0 L (fun k => (xs k).toInt)) 0 j = (xs j).toInt from rfl, rn_back]⟩
    | 1, _ => exact fun _ => ⟨by show 8 ≤ 100000; omega, hT1, fun j hj => by
        match j, (show j < 8 from hj) with
        | 0, _ => rfl
        | 1, _ => rfl
        | 2, _ => rfl
        | 3, _ => rfl
        | 4, _ => rfl
        | 5, _ => rfl
        | 6, _ => rfl
        | 7, _ => rfl
        | n + 8, h => exact absurd h (by omega)⟩
    | 2, _ => exact fun _ => ⟨by show 8 ≤ 100000; omega, hT2, fun j hj => by
        match j, (show j < 8 from hj) with
        | 0, _ => rfl
        | 1, _ => rfl
        | 2, _ => rfl
        | 3, _ => rfl
        | 4, _ => rfl
        | 5, _ => rfl
        | 6, _ => rfl
        | 7, _ => rfl
        | n + 8, h => exact absurd h (by omega)⟩
    | 3, _ => exact fun q => (by cases q)
    | 4, _ => exact fun q => (by cases q)
    | 5, _ => exact fun q => (by cases q)
    | 6, _ => exact fun q => (by cases q)
    | 7, _ => exact fun q => (by cases q)
    | n + 8, h => exact absurd h (by omega)
  have hWs : rn_Ws [] ad (rn_M0 L (fun k => (xs k).toInt)) [] := by
    refine ⟨rfl, fun a ha => ?_, fun k hk => absurd hk (by simp)⟩
    match a, ha with
    | 0, _ => exact ⟨Nat.le_of_ble_eq_true rfl, Nat.le_of_ble_eq_true rfl⟩
    | 1, _ => exact ⟨Nat.le_of_ble_eq_true rfl, Nat.le_of_ble_eq_true rfl⟩
    | 2, _ => exact ⟨Nat.le_of_ble_eq_true rfl, Nat.le_of_ble_eq_true rfl⟩
    | 3, _ => exact ⟨Nat.le_of_ble_eq_true rfl, Nat.le_of_ble_eq_true rfl⟩
    | 4, _ => exact ⟨Nat.le_of_ble_eq_true rfl, Nat.le_of_ble_eq_true rfl⟩
    | 5, _ => exact ⟨Nat.le_of_ble_eq_true rfl, Nat.le_of_ble_eq_true rfl⟩
    | 6, _ => exact ⟨Nat.le_of_ble_eq_true rfl, Nat.le_of_ble_eq_true rfl⟩
    | 7, _ => exact ⟨Nat.le_of_ble_eq_true rfl, Nat.le_of_ble_eq_true rfl⟩
    | n + 8, h => exact absurd h (by omega)
  have hm : rn_mt 215 = some rn_m215 := rfl
  have hv : rn_vs 8 ad [rn_R 0] [.ref b] := ⟨⟨by decide, rfl⟩, trivial⟩
  have hsn := rn_sound_WP (l := l) (D := (fun ci => (f ci).1, fun ci => (f ci).2)) (A := fun q : Nat => s.heap.size ≤ q) hlaw
  rw [lg_entry_eq]
  refine hsn rn_m215 hm p e room_1 s m _ below meth c s.heap [] 0 0 _ _ [] ad [] [] ⟨hx, hb, hown, fun w hw => hts w (List.mem_filter.mp hw).1, fun q => absurd q (by decide), by decide, by decide, fun _ h => h⟩ (by rw [hml]; rfl) (rn_lr_entry (ml := 12) (by decide) hv (by decide)) trivial ⟨⟨hK, fun k q h => by simp at h, ⟨fun i j p q h => by simp at h, fun k q h => by simp at h⟩, hWs⟩, hEv, hEf, va_S.rf, Nat.zero_le _, Nat.zero_le _, fun _ => ⟨Nat.le_of_ble_eq_true rfl, Nat.le_of_ble_eq_true rfl⟩⟩ ?_
  intro r M' ad' tys' ws' H' locs' cells' slots' pc' ls' stk' hq hx2 hb2 hR hW' hS' hc1 hc2
  subst hq
  obtain ⟨hd, -, -, k, rfl, hk⟩ := hR
  have ek : k = 1 := Int32.toInt_inj.mp hk
  subst ek
  refine va_forget (fun q hq => hS'.2.2 q hq) ?_
  refine W.widen (k := 600000) (n := 7302250) hc1 hc2 ?_
  exact lw_ret hx hb hr hlocks hd
