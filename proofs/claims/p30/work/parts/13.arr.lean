theorem rn_df : ((List.range 11).all fun a => (List.range (rn_nf a)).all fun b => decide ((rn_fk a b = 2 ∧ defaultValue (rn_ty a b) = .null) ∨ ((rn_fk a b = 0 ∨ rn_fk a b = 1) ∧ defaultValue (rn_ty a b) = .int 0))) = true := by decide +kernel
theorem rn_df_at {a b : Nat} (ha : a < 11) (hb : b < rn_nf a) : (rn_fk a b = 2 ∧ defaultValue (rn_ty a b) = .null) ∨ ((rn_fk a b = 0 ∨ rn_fk a b = 1) ∧ defaultValue (rn_ty a b) = .int 0) :=
  of_decide_eq_true (List.all_eq_true.mp (List.all_eq_true.mp rn_df a (List.mem_range.mpr ha)) b (List.mem_range.mpr hb))
theorem rn_W_lt8 {tys : List (ClassId × FieldType)} {ad : Nat → Nat} {M : rn_M} {ws : va_W} {r : Nat} (h : rn_Ws tys ad M ws) (hr : r < M.1.length) (hk : 21 ≤ rn_kd M r ∧ rn_kd M r ≤ 24) : r < 8 := by
  rcases Nat.lt_or_ge r 8 with q | q
  · exact q
  · obtain ⟨el, g1, g2⟩ := rn_W_at h hr q
    unfold rn_el at g2
    split at g2
    · have := g2.1; have := g2.2.1; omega
    · have := g2.1; omega
    · obtain ⟨ci, g3, -⟩ := g2; omega
    · exact g2.elim
theorem rn_tnn {k : Int32} (h : 0 ≤ k.toInt) : ¬ k < 0 := by
  rw [rn_il]
  show ¬ k.toInt < (0 : Int32).toInt
  have : (0 : Int32).toInt = 0 := rfl
  omega
section RNA
variable {l : Launch} {D : va_G} {A : Nat → Prop} {p : Program} {e : Env} {R : Room} {s : State} {m : MethodId} {args : Array Value} {below : List Frame} {meth : Method} {c : Code} {H : Heap} {locs : List Loc} {cells slots : Nat} {QQ : State → Prop} {ls : Array Slot} {stk : List Value} {ad : Nat → Nat} {tys : List (ClassId × FieldType)} {ws : va_W} {mt : rn_Mt} {y pc : Nat} {L st : List rn_V} {M : rn_M} {Q : rn_Q}
theorem rn_i_iald (hm : rn_mt y = some mt) (hd : decode mt.2.1 pc = .ok (.iaload, 1)) (h : rn_stA st fun r i t => (rn_kd M r = 20 ∨ rn_kd M r = 21) ∧ rn_in M r i ∧ rn_Snd l D A y (pc + 1) L (.inl (rn_gi M r i.toNat) :: t) M Q)
    (C : rn_Cx A p R s m args meth c mt) (hml : c.maxLocals = L.length) (hl : rn_lr (rn_lg mt) M.1.length ad L ls) (hs : rn_vs M.1.length ad st stk) (hz : rn_Dz D A R s mt ad tys ws M H locs cells slots) (E : rn_Ex l D A p e R s m args below meth c mt QQ ad M Q) : W p l e R s m args below meth c H locs cells slots QQ (F0 m pc ls stk) := by
  obtain ⟨r, i, t', rfl, hkd, hin, hg⟩ := rn_stA_out h
  obtain ⟨k, stk1, rfl, rfl, hs1⟩ := rn_vs_I hs
  obtain ⟨stk2, rfl, hr, hs2⟩ := rn_vs_R hs1
  obtain ⟨z1, z2, z3, z4, z5, z6, z7⟩ := id hz
  rcases hkd with hkd | hkd
  · obtain ⟨h8, hlen, cA, f, t0, g1, g2, g3⟩ := rn_W_arr z1.2.2.2 hr hkd
    obtain ⟨i1, i2, i3⟩ := rn_in_vp hin hlen
    refine va_iald C.1 C.2.1 z1.1 z1.2.1 (r - 8) t0 g1 g2 i1 hd ?_
    exact rn_go0 hm hg C hml hl ⟨⟨_, rfl, by rw [i2]; exact g3 _ i3⟩, hs2⟩ hz E
  · obtain ⟨hlen, hT, hv⟩ := z2 r (rn_W_lt8 z1.2.2.2 hr (by omega)) hkd
    obtain ⟨i1, i2, i3⟩ := rn_in_vp hin hlen
    refine va_ti C.1 C.2.1 hT z4 i1 rfl hd ?_
    exact rn_go0 hm hg C hml hl ⟨⟨_, rfl, by rw [i2]; exact hv _ i3⟩, hs2⟩ hz E
theorem rn_i_alen (hm : rn_mt y = some mt) (hd : decode mt.2.1 pc = .ok (.arraylength, 1)) (h : rn_stR st fun r t => (rn_kd M r = 20 ∨ rn_kd M r = 21) ∧ rn_Snd l D A y (pc + 1) L (.inl (rn_ln M r) :: t) M Q)
    (C : rn_Cx A p R s m args meth c mt) (hml : c.maxLocals = L.length) (hl : rn_lr (rn_lg mt) M.1.length ad L ls) (hs : rn_vs M.1.length ad st stk) (hz : rn_Dz D A R s mt ad tys ws M H locs cells slots) (E : rn_Ex l D A p e R s m args below meth c mt QQ ad M Q) : W p l e R s m args below meth c H locs cells slots QQ (F0 m pc ls stk) := by
  obtain ⟨r, t', rfl, hkd, hg⟩ := rn_stR_out h
  obtain ⟨stk2, rfl, hr, hs2⟩ := rn_vs_R hs
  obtain ⟨z1, z2, z3, z4, z5, z6, z7⟩ := id hz
  have hn : ∀ n : Nat, n ≤ 100000 → (Int32.ofNat n).toInt = (n : Int) := fun n h => nI_toInt (n := n) (by omega)
  rcases hkd with hkd | hkd
  · obtain ⟨h8, hlen, cA, f, t0, g1, g2, g3⟩ := rn_W_arr z1.2.2.2 hr hkd
    refine va_alen C.1 C.2.1 z1.1 z1.2.1 (r - 8) t0 g1 g2 rfl hd ?_
    exact rn_go0 hm hg C hml hl ⟨⟨_, rfl, hn _ hlen⟩, hs2⟩ hz E
  · obtain ⟨hlen, hT, hv⟩ := z2 r (rn_W_lt8 z1.2.2.2 hr (by omega)) hkd
    refine va_tlen C.1 C.2.1 hT z4 rfl hd ?_
    exact rn_go0 hm hg C hml hl ⟨⟨_, rfl, hn _ hlen⟩, hs2⟩ hz E
theorem rn_i_iast {x i : Int} {r : Nat} {t' : List rn_V} (hm : rn_mt y = some mt) (hd : decode mt.2.1 pc = .ok (.iastore, 1)) (hkd : rn_kd M r = 20) (hin : rn_in M r i) (hg : rn_Snd l D A y (pc + 1) L t' (rn_si M r i.toNat x) Q)
    (C : rn_Cx A p R s m args meth c mt) (hml : c.maxLocals = L.length) (hl : rn_lr (rn_lg mt) M.1.length ad L ls) (hs : rn_vs M.1.length ad (.inl x :: .inl i :: .inr (.inl (some (some r))) :: t') stk) (hz : rn_Dz D A R s mt ad tys ws M H locs cells slots) (E : rn_Ex l D A p e R s m args below meth c mt QQ ad M Q) : W p l e R s m args below meth c H locs cells slots QQ (F0 m pc ls stk) := by
  obtain ⟨kx, stk0, rfl, rfl, hs0⟩ := rn_vs_I hs
  obtain ⟨k, stk1, rfl, rfl, hs1⟩ := rn_vs_I hs0
  obtain ⟨stk2, rfl, hr, hs2⟩ := rn_vs_R hs1
  obtain ⟨z1, z2, z3, z4, z5, z6, z7⟩ := id hz
  obtain ⟨h8, hlen, cA, f, t0, g1, g2, g3⟩ := rn_W_arr z1.2.2.2 hr hkd
  obtain ⟨i1, i2, i3⟩ := rn_in_vp hin hlen
  refine va_iast C.1 C.2.1 z1.1 z1.2.1 z1.2.2.1 z4 (r - 8) t0 g1 g2 i1 hd (fun H1 locs1 hP hD hS => ?_)
  refine rn_go1 hm hg C hml hl hs2 hz rfl rfl (fun q hq => ⟨fun j => rn_si_ne (fun z => by omega), fun j => rfl⟩) hP hD hS (rn_Ws_set z1.2.2.2 h8 hr rfl (fun q hq j => ⟨rn_si_ne (fun z => hq z.1), rfl⟩) ?_) E
  refine ⟨hkd, rfl, hlen, ⟨t0, g2⟩, fun j hj => ?_⟩
  rw [i2]
  by_cases e : j = k.toInt.toNat
  · subst e
    rw [pk_us, rn_si_eq]
  · rw [pk_un e, rn_si_ne (fun z => e z.2)]
    exact g3 j hj
theorem rn_i_aald (hm : rn_mt y = some mt) (hd : decode mt.2.1 pc = .ok (.aaload, 1)) (h : rn_stA st fun r i t => 30 ≤ rn_kd M r ∧ rn_in M r i ∧ rn_Snd l D A y (pc + 1) L (.inr (.inl (some (rn_gr M r i.toNat))) :: t) M Q)
    (C : rn_Cx A p R s m args meth c mt) (hml : c.maxLocals = L.length) (hl : rn_lr (rn_lg mt) M.1.length ad L ls) (hs : rn_vs M.1.length ad st stk) (hz : rn_Dz D A R s mt ad tys ws M H locs cells slots) (E : rn_Ex l D A p e R s m args below meth c mt QQ ad M Q) : W p l e R s m args below meth c H locs cells slots QQ (F0 m pc ls stk) := by
  obtain ⟨r, i, t', rfl, hkd, hin, hg⟩ := rn_stA_out h
  obtain ⟨k, stk1, rfl, rfl, hs1⟩ := rn_vs_I hs
  obtain ⟨stk2, rfl, hr, hs2⟩ := rn_vs_R hs1
  obtain ⟨z1, z2, z3, z4, z5, z6, z7⟩ := id hz
  obtain ⟨h8, hlen, ci, cA, f, t0, g0, gc, g1, g2, g3⟩ := rn_W_arq z1.2.2.2 hr hkd
  obtain ⟨i1, i2, i3⟩ := rn_in_vp hin hlen
  refine va_aldq C.1 C.2.1 z1.1 z1.2.1 (r - 8) t0 g1 g2 i1 hd ?_
  exact rn_go0 hm hg C hml hl ⟨by rw [i2]; exact g3 _ i3, hs2⟩ hz E
theorem rn_i_aast {i : Int} {r v : Nat} {t' : List rn_V} (hm : rn_mt y = some mt) (hd : decode mt.2.1 pc = .ok (.aastore, 1)) (hkd : 30 ≤ rn_kd M r) (hkv : rn_kd M v + 29 = rn_kd M r) (hin : rn_in M r i) (hg : rn_Snd l D A y (pc + 1) L t' (rn_sr M r i.toNat (some v)) Q)
    (C : rn_Cx A p R s m args meth c mt) (hml : c.maxLocals = L.length) (hl : rn_lr (rn_lg mt) M.1.length ad L ls) (hs : rn_vs M.1.length ad (.inr (.inl (some (some v))) :: .inl i :: .inr (.inl (some (some r))) :: t') stk) (hz : rn_Dz D A R s mt ad tys ws M H locs cells slots) (E : rn_Ex l D A p e R s m args below meth c mt QQ ad M Q) : W p l e R s m args below meth c H locs cells slots QQ (F0 m pc ls stk) := by
  obtain ⟨stk0, rfl, hv, hs0⟩ := rn_vs_R hs
  obtain ⟨k, stk1, rfl, rfl, hs1⟩ := rn_vs_I hs0
  obtain ⟨stk2, rfl, hr, hs2⟩ := rn_vs_R hs1
  obtain ⟨z1, z2, z3, z4, z5, z6, z7⟩ := id hz
  obtain ⟨h8, hlen, ci, cA, f, t0, g0, gc, g1, g2, g3⟩ := rn_W_arq z1.2.2.2 hr hkd
  obtain ⟨h8v, vs, f1, f2, f3⟩ := rn_W_obj z1.2.2.2 hv (ci := ci) (by omega) gc
  obtain ⟨i1, i2, i3⟩ := rn_in_vp hin hlen
  refine va_astq (r := (rn_cn ci, rn_T ci, rn_nf ci)) C.1 C.2.1 z1.1 z1.2.1 z1.2.2.1 z4 (r - 8) t0 (v - 8) ci g1 g2 f1 (rn_cl_at ci gc) i1 hd (fun H1 locs1 hP hD hS => ?_)
  refine rn_go1 hm hg C hml hl hs2 hz rfl rfl (fun q hq => ⟨fun j => rfl, fun j => rn_sr_ne (fun z => by omega)⟩) hP hD hS (rn_Ws_set z1.2.2.2 h8 hr rfl (fun q hq j => ⟨rfl, rn_sr_ne (fun z => hq z.1)⟩) ?_) E
  refine ⟨ci, g0, gc, rfl, hlen, ⟨t0, g2⟩, fun j hj => ?_⟩
  rw [i2]
  by_cases e : j = k.toInt.toNat
  · subst e
    rw [rn_sr_eq]
    simp only [va_up, if_pos]
    exact ⟨hv, rfl⟩
  · rw [rn_sr_ne (fun z => e z.2)]
    simp only [va_up, if_neg e]
    exact g3 j hj
theorem rn_i_new {idx a t : Nat} (hm : rn_mt y = some mt) (hd : decode mt.2.1 pc = .ok (.new idx, 3)) (ha : a < 11) (hal : rn_al mt = true) (hw : rn_hw t (.classLink mt.1.cls idx (rn_cn a)) = true) (hp : (match rn_cpl[a]? with | some (pa, pb) => rn_hw pa (.instantiable (rn_cn a) (rn_nf a)) && rn_hw pb (.initialized (rn_cn a)) | none => false) = true)
    (hb1 : 1 ≤ M.2.1.1) (hb2 : rn_nf a ≤ M.2.1.2) (hg : rn_Snd l D A y (pc + 3) L (rn_R M.1.length :: st) (rn_nw M (a + 1) (rn_nf a)) Q)
    (C : rn_Cx A p R s m args meth c mt) (hml : c.maxLocals = L.length) (hl : rn_lr (rn_lg mt) M.1.length ad L ls) (hs : rn_vs M.1.length ad st stk) (hz : rn_Dz D A R s mt ad tys ws M H locs cells slots) (E : rn_Ex l D A p e R s m args below meth c mt QQ ad M Q) : W p l e R s m args below meth c H locs cells slots QQ (F0 m pc ls stk) := by
  obtain ⟨z1, z2, z3, z4, z5, z6, z7⟩ := id hz
  have hb := z7 hal
  split at hp
  · simp only [Bool.and_eq_true] at hp
    refine va_new (D := D) (ci := a) (fs := (List.range (rn_nf a)).map fun j => defaultValue (rn_ty a j)) (C := rn_cn a) (T := rn_T a) (N := rn_nf a) (Ts := rn_Wd) C.1 C.2.1 C.2.2.2.1 (fun w hw => List.mem_filter.mpr (rn_cl_in a ha w hw)) (rn_ty a) (rn_cl_ty a ha) C.2.2.1 (C.2.2.2.1 _ (rn_hw_mem hw)) (C.2.2.2.1 _ (rn_hw_mem hp.1)) (C.2.2.2.1 _ (rn_hw_mem hp.2)) z1.1 z1.2.1 z1.2.2.1 z4 C.2.2.2.2.2.2.2 (rn_cl_at a ha) (fun j hj => by simp [vp_V, List.getD_eq_getElem?_getD, hj]) (by omega) (by omega) hd (fun q H1 hP hD hS => ?_)
    refine rn_go2 hm hg C hml hl hs hz hal hb1 hb2 z1.1 hP hD hS (fun t q h => ⟨t, h⟩) ?_ E
    refine ⟨rn_nw_kn.1, ha, by simp, fun b hb => ⟨defaultValue (rn_ty a b), by simp [hb], ?_⟩⟩
    rcases rn_df_at ha hb with ⟨q1, q2⟩ | ⟨q1, q2⟩
    · rw [q1, q2]
      show rn_vr _ _ (.inr (.inl (some (rn_gr (rn_nw M (a + 1) (rn_nf a)) M.1.length b)))) _
      rw [(rn_nw_gn b).2]
      rfl
    · rw [q2]
      have e : rn_fv (rn_fk a b) (rn_nw M (a + 1) (rn_nf a)) M.1.length b = .inl (rn_gi (rn_nw M (a + 1) (rn_nf a)) M.1.length b) := by rcases q1 with q | q <;> rw [q] <;> rfl
      rw [e, (rn_nw_gn b).1]
      exact ⟨0, rfl, rfl⟩
  · cases hp
theorem rn_i_newa {n : Int} {t' : List rn_V} (hm : rn_mt y = some mt) (hd : decode mt.2.1 pc = .ok (.newarray .int, 2)) (hal : rn_al mt = true) (hn0 : 0 ≤ n) (hn1 : n ≤ 100000)
    (hb1 : 1 ≤ M.2.1.1) (hb2 : n.toNat ≤ M.2.1.2) (hg : rn_Snd l D A y (pc + 2) L (rn_R M.1.length :: t') (rn_nw M 20 n.toNat) Q)
    (C : rn_Cx A p R s m args meth c mt) (hml : c.maxLocals = L.length) (hl : rn_lr (rn_lg mt) M.1.length ad L ls) (hs : rn_vs M.1.length ad (.inl n :: t') stk) (hz : rn_Dz D A R s mt ad tys ws M H locs cells slots) (E : rn_Ex l D A p e R s m args below meth c mt QQ ad M Q) : W p l e R s m args below meth c H locs cells slots QQ (F0 m pc ls stk) := by
  obtain ⟨k, stk1, rfl, rfl, hs1⟩ := rn_vs_I hs
  obtain ⟨z1, z2, z3, z4, z5, z6, z7⟩ := id hz
  have hb := z7 hal
  have ek : k.toNatClampNeg = k.toInt.toNat := rfl
  refine va_newa (D := D) (atype := .int) (ty := .int) (a0 := (k.toInt.toNat, .inl (fun _ => 0))) (N' := k.toInt.toNat) C.1 C.2.1 (C.2.2.2.1 _ rn_p_arr) rfl z1.1 z1.2.1 z1.2.2.1 z4 C.2.2.2.2.2.2.2 (fun cA => rfl) (rn_tnn hn0) ek (by show k.toInt.toNat * 4 ≤ _; omega) (by omega) (by omega) hd (fun q cA H1 hK hP hD hS => ?_)
  refine rn_go2 hm hg C hml hl hs1 hz hal hb1 hb2 hK hP hD hS (fun t q h => ⟨t, by rw [List.getElem?_append_left (List.getElem?_eq_some_iff.mp h).1]; exact h⟩) ?_ E
  refine ⟨rn_nw_kn.1, rn_nw_kn.2, by omega, ⟨tys.length, by simp⟩, fun j hj => ?_⟩
  rw [(rn_nw_gn j).1]
  rfl
theorem rn_i_newq {n : Int} {idx a t : Nat} {t' : List rn_V} (hm : rn_mt y = some mt) (hd : decode mt.2.1 pc = .ok (.anewarray idx, 3)) (hal : rn_al mt = true) (ha : a = 0 ∨ a = 3 ∨ a = 5 ∨ a = 8) (hw : rn_hw t (.classLink mt.1.cls idx (rn_cn a)) = true) (hn0 : 0 ≤ n) (hn1 : n ≤ 100000)
    (hb1 : 1 ≤ M.2.1.1) (hb2 : n.toNat ≤ M.2.1.2) (hg : rn_Snd l D A y (pc + 3) L (rn_R M.1.length :: t') (rn_nw M (a + 30) n.toNat) Q)
    (C : rn_Cx A p R s m args meth c mt) (hml : c.maxLocals = L.length) (hl : rn_lr (rn_lg mt) M.1.length ad L ls) (hs : rn_vs M.1.length ad (.inl n :: t') stk) (hz : rn_Dz D A R s mt ad tys ws M H locs cells slots) (E : rn_Ex l D A p e R s m args below meth c mt QQ ad M Q) : W p l e R s m args below meth c H locs cells slots QQ (F0 m pc ls stk) := by
  obtain ⟨k, stk1, rfl, rfl, hs1⟩ := rn_vs_I hs
  obtain ⟨z1, z2, z3, z4, z5, z6, z7⟩ := id hz
  have hb := z7 hal
  have ek : k.toNatClampNeg = k.toInt.toNat := rfl
  refine va_newq (D := D) (C := rn_cn a) (N' := k.toInt.toNat) C.1 C.2.1 C.2.2.1 (C.2.2.2.1 _ (rn_hw_mem hw)) (z3.2.2.2 a ha) z1.1 z1.2.1 z1.2.2.1 z4 C.2.2.2.2.2.2.2 (rn_tnn hn0) ek (by omega) (by omega) (by omega) hd (fun q cA H1 hK hP hD hS => ?_)
  refine rn_go2 hm hg C hml hl hs1 hz hal hb1 hb2 hK hP hD hS (fun t q h => ⟨t, by rw [List.getElem?_append_left (List.getElem?_eq_some_iff.mp h).1]; exact h⟩) ?_ E
  refine ⟨a, rn_nw_kn.1, by omega, rn_nw_kn.2, by omega, ⟨tys.length, by simp⟩, fun j hj => ?_⟩
  rw [(rn_nw_gn j).2]
  rfl
theorem rn_cpy_in {r d sp dp n j : Nat} (h : dp ≤ j ∧ j < dp + n) : rn_gi (rn_cpy M r d sp dp n) d j = rn_gi M r (sp + (j - dp)) := by
  simp [rn_gi, rn_cpy, h]
theorem rn_cpy_out {r d b sp dp n j : Nat} (h : ¬ (b = d ∧ dp ≤ j ∧ j < dp + n)) : rn_gi (rn_cpy M r d sp dp n) b j = rn_gi M b j := by
  unfold rn_gi rn_cpy; simp only [if_neg h]
theorem rn_cpy_gr {r d b sp dp n j : Nat} : rn_gr (rn_cpy M r d sp dp n) b j = rn_gr M b j := rfl
theorem rn_i_copy {n dp sp : Int} {d r idx t : Nat} {t' : List rn_V} (hm : rn_mt y = some mt) (hd : decode mt.2.1 pc = .ok (.invokestatic idx, 3)) (hw : rn_hw t (.methodLink mt.1.cls idx arraycopyName) = true) (hf : 1 ≤ rn_fr mt) (hlo : 38 ≤ rn_lw mt) (ht8 : rn_sz t' ≤ 8)
    (hk1 : rn_kd M r = 20) (hk2 : rn_kd M d = 20) (h0 : 0 ≤ n) (h1 : 0 ≤ dp) (h2 : 0 ≤ sp) (h3 : sp + n ≤ (rn_ln M r : Int)) (h4 : dp + n ≤ (rn_ln M d : Int)) (hg : rn_Snd l D A y (pc + 3) L t' (rn_cpy M r d sp.toNat dp.toNat n.toNat) Q)
    (C : rn_Cx A p R s m args meth c mt) (hml : c.maxLocals = L.length) (hl : rn_lr (rn_lg mt) M.1.length ad L ls) (hs : rn_vs M.1.length ad (.inl n :: .inl dp :: .inr (.inl (some (some d))) :: .inl sp :: .inr (.inl (some (some r))) :: t') stk) (hz : rn_Dz D A R s mt ad tys ws M H locs cells slots) (E : rn_Ex l D A p e R s m args below meth c mt QQ ad M Q) : W p l e R s m args below meth c H locs cells slots QQ (F0 m pc ls stk) := by
  obtain ⟨kn, stk0, rfl, rfl, hs0⟩ := rn_vs_I hs
  obtain ⟨kd, stk1, rfl, rfl, hs1⟩ := rn_vs_I hs0
  obtain ⟨stk2, rfl, hrd, hs2⟩ := rn_vs_R hs1
  obtain ⟨kp, stk3, rfl, rfl, hs3⟩ := rn_vs_I hs2
  obtain ⟨stk4, rfl, hrs, hs4⟩ := rn_vs_R hs3
  obtain ⟨z1, z2, z3, z4, z5, z6, z7⟩ := id hz
  obtain ⟨a8, alen, cA, f, t0, a1, a2, a3⟩ := rn_W_arr z1.2.2.2 hrs hk1
  obtain ⟨b8, blen, cB, g, t1, b1, b2, b3⟩ := rn_W_arr z1.2.2.2 hrd hk2
  have e1 : kn.toNatClampNeg = kn.toInt.toNat := rfl
  have e2 : kd.toNatClampNeg = kd.toInt.toNat := rfl
  have e3 : kp.toNatClampNeg = kp.toInt.toNat := rfl
  have hsum := rn_vs_sum hs4
  refine va_copyi C.1 C.2.1 (by rw [hml]; obtain ⟨lv, hv, -⟩ := hl; exact hv.1.symm) C.2.2.1 (C.2.2.2.1 _ (rn_hw_mem hw)) (C.2.2.2.1 _ rn_p_nat) (C.2.2.2.1 _ rn_p_cst) (C.2.2.2.1 _ rn_p_cin) z1.1 z1.2.1 z1.2.2.1 z4 (r - 8) (d - 8) t0 t1 (ty := .int) a1 b1 a2 b2 rfl (rn_tnn h2) (rn_tnn h1) (rn_tnn h0) (by rw [e1, e3]; omega) (by rw [e1, e2]; omega) (fun i hi => rfl) (Nat.le_trans hf C.2.2.2.2.2.1) (by rw [hsum]; have := rn_nfw; have := C.2.2.2.2.2.2.1; omega) hd (fun H1 locs1 hP hD hS => ?_)
  refine rn_go1 hm hg C hml hl hs4 hz rfl rfl (fun q hq => ⟨fun j => rn_cpy_out (fun z => by omega), fun j => rfl⟩) hP hD hS (rn_Ws_set z1.2.2.2 b8 hrd rfl (fun q hq j => ⟨rn_cpy_out (fun z => hq z.1), rfl⟩) ?_) E
  refine ⟨hk2, rfl, blen, ⟨t1, b2⟩, fun j hj => ?_⟩
  rw [e1, e2, e3]
  by_cases e : kd.toInt.toNat ≤ j ∧ j < kd.toInt.toNat + kn.toInt.toNat
  · rw [rn_cpy_in e, pk_cpy_in e.1 e.2]
    exact a3 _ (by omega)
  · rw [rn_cpy_out (fun z => e z.2), pk_cpy_out (by omega)]
    exact b3 j hj
end RNA
