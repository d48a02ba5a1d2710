theorem rn_at_eq {y pc : Nat} {mt : rn_Mt} (h : rn_mt y = some mt) : rn_at y pc = rn_look (rn_tb mt) pc := by unfold rn_at; rw [h]; rfl
theorem rn_acp_out {st : List rn_V} {f : Int → Int → Nat → Int → Nat → List rn_V → Prop} (h : rn_acp st f) : ∃ n dp d sp s t, st = .inl n :: .inl dp :: .inr (.inl (some (some d))) :: .inl sp :: .inr (.inl (some (some s))) :: t ∧ f n dp d sp s t := by
  unfold rn_acp at h; split at h
  · exact ⟨_, _, _, _, _, _, rfl, h⟩
  · exact h.elim
section RNX
variable {l : Launch} {D : va_G} {A : Nat → Prop} {p : Program} {e : Env} {R : Room} {s : State} {m : MethodId} {args : Array Value} {below : List Frame} {meth : Method} {c : Code} {H : Heap} {locs : List Loc} {cells slots : Nat} {QQ : State → Prop} {ls : Array Slot} {stk : List Value} {ad : Nat → Nat} {tys : List (ClassId × FieldType)} {ws : va_W} {mt : rn_Mt} {y pc : Nat} {L st : List rn_V} {M : rn_M} {Q : rn_Q}
theorem rn_i_bin {ins : Instr} {nx : Nat} {f : Int → Int → Int} (g : Int32 → Int32 → Int32) (hfg : ∀ x y : Int32, (g x y).toInt = f x.toInt y.toInt) (row : ∀ (x y : Int32) (rest : List Value), W p l e R s m args below meth c H locs cells slots QQ (F0 m nx ls (.int (g x y) :: rest)) → W p l e R s m args below meth c H locs cells slots QQ (F0 m pc ls (.int y :: .int x :: rest))) (hm : rn_mt y = some mt)
    (h : rn_st2 st fun x y' t => rn_Snd l D A y nx L (.inl (f x y') :: t) M Q)
    (C : rn_Cx A p R s m args meth c mt) (hml : c.maxLocals = L.length) (hl : rn_lr (rn_lg mt) M.1.length ad L ls) (hs : rn_vs M.1.length ad st stk) (hz : rn_Dz D A R s mt ad tys ws M H locs cells slots) (E : rn_Ex l D A p e R s m args below meth c mt QQ ad M Q) : W p l e R s m args below meth c H locs cells slots QQ (F0 m pc ls stk) := by
  obtain ⟨x, y', t, rfl, h⟩ := rn_st2_out h
  obtain ⟨ky, stk1, rfl, rfl, hs1⟩ := rn_vs_I hs
  obtain ⟨kx, stk2, rfl, rfl, hs2⟩ := rn_vs_I hs1
  exact row kx ky stk2 (rn_go0 hm h C hml hl ⟨⟨_, rfl, hfg _ _⟩, hs2⟩ hz E)
theorem rn_i_if {nx a : Nat} {P : Int → Prop} {T1 T2 : Nat} (row : ∀ (x : Int32) (rest : List Value), (P x.toInt → W p l e R s m args below meth c H locs cells slots QQ (F0 m T1 ls rest)) → (¬ P x.toInt → W p l e R s m args below meth c H locs cells slots QQ (F0 m T2 ls rest)) → W p l e R s m args below meth c H locs cells slots QQ (F0 m pc ls (.int x :: rest))) (hm : rn_mt y = some mt)
    (h : rn_st1 st fun x t => rn_br (P x) (rn_Snd l D A y T1 L t M Q) (rn_Snd l D A y T2 L t M Q))
    (C : rn_Cx A p R s m args meth c mt) (hml : c.maxLocals = L.length) (hl : rn_lr (rn_lg mt) M.1.length ad L ls) (hs : rn_vs M.1.length ad st stk) (hz : rn_Dz D A R s mt ad tys ws M H locs cells slots) (E : rn_Ex l D A p e R s m args below meth c mt QQ ad M Q) : W p l e R s m args below meth c H locs cells slots QQ (F0 m pc ls stk) := by
  obtain ⟨x, t, rfl, h⟩ := rn_st1_out h
  obtain ⟨kx, stk1, rfl, rfl, hs1⟩ := rn_vs_I hs
  exact row kx stk1 (fun q => rn_go0 hm (h.1 q) C hml hl hs1 hz E) (fun q => rn_go0 hm (h.2 q) C hml hl hs1 hz E)
theorem rn_i_icmp {P : Int → Int → Prop} {T1 T2 : Nat} (row : ∀ (x y : Int32) (rest : List Value), (P x.toInt y.toInt → W p l e R s m args below meth c H locs cells slots QQ (F0 m T1 ls rest)) → (¬ P x.toInt y.toInt → W p l e R s m args below meth c H locs cells slots QQ (F0 m T2 ls rest)) → W p l e R s m args below meth c H locs cells slots QQ (F0 m pc ls (.int y :: .int x :: rest))) (hm : rn_mt y = some mt)
    (h : rn_st2 st fun x y' t => rn_br (P x y') (rn_Snd l D A y T1 L t M Q) (rn_Snd l D A y T2 L t M Q))
    (C : rn_Cx A p R s m args meth c mt) (hml : c.maxLocals = L.length) (hl : rn_lr (rn_lg mt) M.1.length ad L ls) (hs : rn_vs M.1.length ad st stk) (hz : rn_Dz D A R s mt ad tys ws M H locs cells slots) (E : rn_Ex l D A p e R s m args below meth c mt QQ ad M Q) : W p l e R s m args below meth c H locs cells slots QQ (F0 m pc ls stk) := by
  obtain ⟨x, y', t, rfl, h⟩ := rn_st2_out h
  obtain ⟨ky, stk1, rfl, rfl, hs1⟩ := rn_vs_I hs
  obtain ⟨kx, stk2, rfl, rfl, hs2⟩ := rn_vs_I hs1
  exact row kx ky stk2 (fun q => rn_go0 hm (h.1 q) C hml hl hs2 hz E) (fun q => rn_go0 hm (h.2 q) C hml hl hs2 hz E)
theorem rn_i_math {idx t : Nat} {f : Int → Int → Int} (g : Int32 → Int32 → Int32) (hfg : ∀ x y : Int32, (g x y).toInt = f x.toInt y.toInt) (row : ∀ (x y : Int32) (rest : List Value), (rest.map fun v => v.category).sum + 13 ≤ R.locals → W p l e R s m args below meth c H locs cells slots QQ (F0 m (pc + 3) ls (.int (g x y) :: rest)) → W p l e R s m args below meth c H locs cells slots QQ (F0 m pc ls (.int y :: .int x :: rest))) (hm : rn_mt y = some mt) (hlo : 21 ≤ rn_lw mt)
    (h : rn_st2 st fun x y' t => rn_g (Nat.ble (rn_sz t) 8) (rn_Snd l D A y (pc + 3) L (.inl (f x y') :: t) M Q))
    (C : rn_Cx A p R s m args meth c mt) (hml : c.maxLocals = L.length) (hl : rn_lr (rn_lg mt) M.1.length ad L ls) (hs : rn_vs M.1.length ad st stk) (hz : rn_Dz D A R s mt ad tys ws M H locs cells slots) (E : rn_Ex l D A p e R s m args below meth c mt QQ ad M Q) : W p l e R s m args below meth c H locs cells slots QQ (F0 m pc ls stk) := by
  obtain ⟨x, y', t, rfl, h⟩ := rn_st2_out h
  obtain ⟨hg, h⟩ := rn_g_out h
  obtain ⟨ky, stk1, rfl, rfl, hs1⟩ := rn_vs_I hs
  obtain ⟨kx, stk2, rfl, rfl, hs2⟩ := rn_vs_I hs1
  have h8 := Nat.le_of_ble_eq_true hg
  exact row kx ky stk2 (by rw [rn_vs_sum hs2]; have := C.2.2.2.2.2.2.1; omega) (rn_go0 hm h C hml hl ⟨⟨_, rfl, hfg _ _⟩, hs2⟩ hz E)
end RNX
theorem rn_lnk_of {n i : Nat} {x : Int} {ad : Nat → Nat} {L : List rn_V} {ls : Array Slot} {lv : List (Nat × Value)} (h1 : lv_has ls L.length lv) (h2 : ∀ (i : Nat) (v : rn_V), L[i]? = some v → v ≠ rn_J → ∃ x, (i, x) ∈ lv ∧ rn_vr n ad v x) (hx : L[i]? = some (.inl x)) : rn_lnk L i = true := by
  cases i with
  | zero => rfl
  | succ j =>
    unfold rn_lnk
    dsimp only
    split
    · rename_i g hg
      obtain ⟨v, a1, a2⟩ := h2 j _ hg (fun q => by cases q)
      obtain ⟨w, b1, k, b2, -⟩ := h2 (j + 1) _ hx (fun q => by cases q)
      have c1 := h1.2.2 _ a1
      have c2 := h1.2.2 _ b1
      rw [show v = .long g from a2] at c1
      rw [b2] at c2
      have c3 := h1.2.1.1 j _ c1 rfl
      rw [c2] at c3
      cases c3
    · rfl
theorem rn_div32 {x y : Int32} (h1 : 0 ≤ x.toInt) (h2 : 0 < y.toInt) : (x / y).toInt = x.toInt / y.toInt := by
  have hx := rn_rng x
  rw [Int32.toInt_div, Int.tdiv_eq_ediv_of_nonneg h1, ← rn_wr_eq]
  have h3 : 0 ≤ x.toInt / y.toInt := Int.ediv_nonneg h1 (by omega)
  have h4 : x.toInt / y.toInt ≤ x.toInt := Int.ediv_le_self _ h1
  exact rn_wr_id (by omega) (by omega)
theorem rn_rem32 {x y : Int32} (h1 : 0 ≤ x.toInt) (h2 : 0 < y.toInt) : (x - x / y * y).toInt = x.toInt % y.toInt := by
  rw [rem_toInt, Int.tmod_eq_emod_of_nonneg h1]
theorem rn_max32 (x y : Int32) : (if x < y then y else x).toInt = max x.toInt y.toInt := by
  by_cases q : x < y
  · rw [if_pos q]; rw [rn_il] at q; omega
  · rw [if_neg q]; rw [rn_il] at q; omega
theorem rn_min32 (x y : Int32) : (if y < x then y else x).toInt = min x.toInt y.toInt := by
  by_cases q : y < x
  · rw [if_pos q]; rw [rn_il] at q; omega
  · rw [if_neg q]; rw [rn_il] at q; omega
theorem rn_abs32 (x : Int32) : (if 0 ≤ x then x else 0 - x).toInt = rn_wr (max x.toInt (-x.toInt)) := by
  have h := rn_rng x
  by_cases q : 0 ≤ x
  · rw [if_pos q]
    rw [rn_ile] at q
    have q : 0 ≤ x.toInt := q
    rw [show max x.toInt (-x.toInt) = x.toInt by omega, rn_wr_id h.1 h.2]
  · rw [if_neg q, rn_neg]
    rw [rn_ile] at q
    have q : ¬ 0 ≤ x.toInt := q
    rw [show max x.toInt (-x.toInt) = -x.toInt by omega]
theorem rn_offs {pc i : Nat} {offs : List Int} {ts : List Nat} (h : offs.map (fun (o : Int) => (pc : Int) + o) = ts.map (fun (n : Nat) => (n : Int))) {t : Nat} (ht : ts[i]? = some t) : ∃ o, offs[i]? = some o ∧ (pc : Int) + o = (t : Int) := by
  have h1 : (offs.map (fun (o : Int) => (pc : Int) + o))[i]? = some (t : Int) := by rw [h, List.getElem?_map, ht]; rfl
  rw [List.getElem?_map] at h1
  cases ho : offs[i]? with
  | none => rw [ho] at h1; cases h1
  | some o => rw [ho] at h1; exact ⟨o, rfl, Option.some.inj h1⟩
set_option maxHeartbeats 8000000 in
theorem rn_sound {l : Launch} {D : va_G} {A : Nat → Prop} : ∀ (y pc : Nat) (L st : List rn_V) (M : rn_M) (Q : rn_Q), rn_F (rn_Snd l D A) y pc L st M Q → rn_Snd l D A y pc L st M Q := by
  intro y pc L st M Q h mt hm p e R s m args below meth c H locs cells slots QQ ls stk ad tys ws C hml hl hs hz E
  unfold rn_F at h
  rw [rn_at_eq hm] at h
  cases he : rn_look (rn_tb mt) pc with
  | none => rw [he] at h; exact h.elim
  | some en =>
  rw [he] at h
  obtain ⟨hd, hc⟩ := rn_kat hm he
  obtain ⟨ins, nx, a, b, t, k, cc, ts⟩ := en
  cases ins
  case iconst n =>
    have hc : (decide (nx = pc + 1) && decide (-2147483648 ≤ n ∧ n ≤ 2147483647)) = true := hc
    simp only [Bool.and_eq_true, decide_eq_true_eq] at hc
    obtain ⟨rfl, h1, h2⟩ := hc
    have hd : decode mt.2.1 pc = .ok (.iconst n, pc + 1 - pc) := hd
    rw [Nat.add_sub_cancel_left] at hd
    refine lv_iconst (v := Int32.ofInt n) C.1 C.2.1 hd rfl ?_
    exact rn_go0 (st' := .inl n :: st) hm h C hml hl ⟨⟨_, rfl, rn_i32 h1 h2⟩, hs⟩ hz E
  case bipush n =>
    have hc : (decide (nx = pc + 2) && decide (((Int8.ofInt n).toInt32).toInt = n)) = true := hc
    simp only [Bool.and_eq_true, decide_eq_true_eq] at hc
    obtain ⟨rfl, h1⟩ := hc
    have hd : decode mt.2.1 pc = .ok (.bipush n, pc + 2 - pc) := hd
    rw [Nat.add_sub_cancel_left] at hd
    refine lv_bipush C.1 C.2.1 hd rfl ?_
    exact rn_go0 (st' := .inl n :: st) hm h C hml hl ⟨⟨_, rfl, h1⟩, hs⟩ hz E
  case sipush n =>
    have hc : (decide (nx = pc + 3) && decide (((Int16.ofInt n).toInt32).toInt = n)) = true := hc
    simp only [Bool.and_eq_true, decide_eq_true_eq] at hc
    obtain ⟨rfl, h1⟩ := hc
    have hd : decode mt.2.1 pc = .ok (.sipush n, pc + 3 - pc) := hd
    rw [Nat.add_sub_cancel_left] at hd
    refine lv_sipush C.1 C.2.1 hd rfl ?_
    exact rn_go0 (st' := .inl n :: st) hm h C hml hl ⟨⟨_, rfl, h1⟩, hs⟩ hz E
  case aconst_null =>
    obtain rfl : nx = pc + 1 := of_decide_eq_true hc
    have hd : decode mt.2.1 pc = .ok (.aconst_null, pc + 1 - pc) := hd
    rw [Nat.add_sub_cancel_left] at hd
    refine lv_null C.1 C.2.1 hd ?_
    exact rn_go0 (st' := rn_N :: st) hm h C hml hl ⟨rfl, hs⟩ hz E
  case iload i =>
    have hc : (decide (nx = pc + 2) && decide (i = a)) = true := hc
    simp only [Bool.and_eq_true, decide_eq_true_eq] at hc
    obtain ⟨rfl, rfl⟩ := hc
    have hd : decode mt.2.1 pc = .ok (.iload i, pc + 2 - pc) := hd
    rw [Nat.add_sub_cancel_left] at hd
    obtain ⟨x, hx, h⟩ := rn_ldI_out h
    obtain ⟨v, hv, kv, rfl, hk⟩ := rn_lr_get hl hx (fun q => by cases q)
    refine lv_iload C.1 C.2.1 hd hv ?_
    exact rn_go0 hm h C hml hl ⟨⟨_, rfl, hk⟩, hs⟩ hz E
  case iload_n i =>
    have hc : (decide (nx = pc + 1) && decide (i.val = a)) = true := hc
    simp only [Bool.and_eq_true, decide_eq_true_eq] at hc
    obtain ⟨rfl, rfl⟩ := hc
    have hd : decode mt.2.1 pc = .ok (.iload_n i, pc + 1 - pc) := hd
    rw [Nat.add_sub_cancel_left] at hd
    obtain ⟨x, hx, h⟩ := rn_ldI_out h
    obtain ⟨v, hv, kv, rfl, hk⟩ := rn_lr_get hl hx (fun q => by cases q)
    refine lv_iload_n C.1 C.2.1 hd rfl hv ?_
    exact rn_go0 hm h C hml hl ⟨⟨_, rfl, hk⟩, hs⟩ hz E
  case aload i =>
    have hc : (decide (nx = pc + 2) && decide (i = a)) = true := hc
    simp only [Bool.and_eq_true, decide_eq_true_eq] at hc
    obtain ⟨rfl, rfl⟩ := hc
    have hd : decode mt.2.1 pc = .ok (.aload i, pc + 2 - pc) := hd
    rw [Nat.add_sub_cancel_left] at hd
    obtain ⟨x, hx, h⟩ := rn_ldR_out h
    obtain ⟨v, hv, hk⟩ := rn_lr_get hl hx (fun q => by cases q)
    cases x with
    | none =>
      cases hk
      refine lv_aloadN C.1 C.2.1 hd hv ?_
      exact rn_go0 (st' := rn_N :: st) hm h C hml hl ⟨rfl, hs⟩ hz E
    | some q =>
      obtain ⟨hk1, rfl⟩ := hk
      refine lv_aload C.1 C.2.1 hd hv ?_
      exact rn_go0 (st' := rn_R q :: st) hm h C hml hl ⟨⟨hk1, rfl⟩, hs⟩ hz E
  case aload_n i =>
    have hc : (decide (nx = pc + 1) && decide (i.val = a)) = true := hc
    simp only [Bool.and_eq_true, decide_eq_true_eq] at hc
    obtain ⟨rfl, rfl⟩ := hc
    have hd : decode mt.2.1 pc = .ok (.aload_n i, pc + 1 - pc) := hd
    rw [Nat.add_sub_cancel_left] at hd
    obtain ⟨x, hx, h⟩ := rn_ldR_out h
    obtain ⟨v, hv, hk⟩ := rn_lr_get hl hx (fun q => by cases q)
    cases x with
    | none =>
      cases hk
      refine lv_aload_nN C.1 C.2.1 hd rfl hv ?_
      exact rn_go0 (st' := rn_N :: st) hm h C hml hl ⟨rfl, hs⟩ hz E
    | some q =>
      obtain ⟨hk1, rfl⟩ := hk
      refine lv_aload_n C.1 C.2.1 hd rfl hv ?_
      exact rn_go0 (st' := rn_R q :: st) hm h C hml hl ⟨⟨hk1, rfl⟩, hs⟩ hz E
  case istore i =>
    have hc : (decide (nx = pc + 2) && decide (i = a) && rn_kk k mt) = true := hc
    simp only [Bool.and_eq_true, decide_eq_true_eq] at hc
    obtain ⟨⟨rfl, rfl⟩, hk0⟩ := hc
    have hd : decode mt.2.1 pc = .ok (.istore i, pc + 2 - pc) := hd
    rw [Nat.add_sub_cancel_left] at hd
    obtain ⟨x, t', rfl, h⟩ := rn_st1_out h
    obtain ⟨hlt, h⟩ := rn_g_out h
    obtain ⟨hnl, h⟩ := rn_lkk_out hk0 h
    obtain ⟨kx, stk1, rfl, hk, hs1⟩ := rn_vs_I hs
    obtain ⟨lv, hv1, hv2⟩ := hl
    refine lv_istore C.1 C.2.1 hd hv1 (Nat.le_of_ble_eq_true hlt) rfl (fun ls' h' => ?_)
    exact rn_go0 hm h C (by rw [List.length_set]; exact hml) (rn_lr_set (v := .inl x) hnl rfl hv2 rfl ⟨kx, rfl, hk⟩ h') hs1 hz E
  case istore_n i =>
    have hc : (decide (nx = pc + 1) && decide (i.val = a) && rn_kk k mt) = true := hc
    simp only [Bool.and_eq_true, decide_eq_true_eq] at hc
    obtain ⟨⟨rfl, rfl⟩, hk0⟩ := hc
    have hd : decode mt.2.1 pc = .ok (.istore_n i, pc + 1 - pc) := hd
    rw [Nat.add_sub_cancel_left] at hd
    obtain ⟨x, t', rfl, h⟩ := rn_st1_out h
    obtain ⟨hlt, h⟩ := rn_g_out h
    obtain ⟨hnl, h⟩ := rn_lkk_out hk0 h
    obtain ⟨kx, stk1, rfl, hk, hs1⟩ := rn_vs_I hs
    obtain ⟨lv, hv1, hv2⟩ := hl
    refine lv_istore_n C.1 C.2.1 hd rfl hv1 (Nat.le_of_ble_eq_true hlt) rfl (fun ls' h' => ?_)
    exact rn_go0 hm h C (by rw [List.length_set]; exact hml) (rn_lr_set (v := .inl x) hnl rfl hv2 rfl ⟨kx, rfl, hk⟩ h') hs1 hz E
  case astore i =>
    have hc : (decide (nx = pc + 2) && decide (i = a) && rn_kk k mt) = true := hc
    simp only [Bool.and_eq_true, decide_eq_true_eq] at hc
    obtain ⟨⟨rfl, rfl⟩, hk0⟩ := hc
    have hd : decode mt.2.1 pc = .ok (.astore i, pc + 2 - pc) := hd
    rw [Nat.add_sub_cancel_left] at hd
    obtain ⟨r, t', rfl, h⟩ : ∃ r t', st = .inr (.inl (some r)) :: t' ∧ rn_g (Nat.blt i L.length) (rn_lkk k L i (rn_Snd l D A y (pc + 2) (L.set i (.inr (.inl (some r)))) t' M Q)) := by
      unfold rn_stp at h
      dsimp only at h
      split at h
      · exact ⟨_, _, rfl, h⟩
      · exact h.elim
    obtain ⟨hlt, h⟩ := rn_g_out h
    obtain ⟨hnl, h⟩ := rn_lkk_out hk0 h
    obtain ⟨lv, hv1, hv2⟩ := hl
    cases r with
    | none =>
      obtain ⟨stk1, rfl, hs1⟩ := rn_vs_N hs
      refine lv_astoreN C.1 C.2.1 hd hv1 (Nat.le_of_ble_eq_true hlt) rfl (fun ls' h' => ?_)
      exact rn_go0 hm h C (by rw [List.length_set]; exact hml) (rn_lr_set (v := rn_N) hnl rfl hv2 rfl rfl h') hs1 hz E
    | some r =>
      obtain ⟨stk1, rfl, hr, hs1⟩ := rn_vs_R hs
      refine lv_astore C.1 C.2.1 hd hv1 (Nat.le_of_ble_eq_true hlt) rfl (fun ls' h' => ?_)
      exact rn_go0 hm h C (by rw [List.length_set]; exact hml) (rn_lr_set (v := rn_R r) hnl rfl hv2 rfl ⟨hr, rfl⟩ h') hs1 hz E
  case astore_n i =>
    have hc : (decide (nx = pc + 1) && decide (i.val = a) && rn_kk k mt) = true := hc
    simp only [Bool.and_eq_true, decide_eq_true_eq] at hc
    obtain ⟨⟨rfl, rfl⟩, hk0⟩ := hc
    have hd : decode mt.2.1 pc = .ok (.astore_n i, pc + 1 - pc) := hd
    rw [Nat.add_sub_cancel_left] at hd
    obtain ⟨r, t', rfl, h⟩ : ∃ r t', st = .inr (.inl (some r)) :: t' ∧ rn_g (Nat.blt i.val L.length) (rn_lkk k L i.val (rn_Snd l D A y (pc + 1) (L.set i.val (.inr (.inl (some r)))) t' M Q)) := by
      unfold rn_stp at h
      dsimp only at h
      split at h
      · exact ⟨_, _, rfl, h⟩
      · exact h.elim
    obtain ⟨hlt, h⟩ := rn_g_out h
    obtain ⟨hnl, h⟩ := rn_lkk_out hk0 h
    obtain ⟨lv, hv1, hv2⟩ := hl
    cases r with
    | none =>
      obtain ⟨stk1, rfl, hs1⟩ := rn_vs_N hs
      refine lv_astore_nN C.1 C.2.1 hd rfl hv1 (Nat.le_of_ble_eq_true hlt) rfl (fun ls' h' => ?_)
      exact rn_go0 hm h C (by rw [List.length_set]; exact hml) (rn_lr_set (v := rn_N) hnl rfl hv2 rfl rfl h') hs1 hz E
    | some r =>
      obtain ⟨stk1, rfl, hr, hs1⟩ := rn_vs_R hs
      refine lv_astore_n C.1 C.2.1 hd rfl hv1 (Nat.le_of_ble_eq_true hlt) rfl (fun ls' h' => ?_)
      exact rn_go0 hm h C (by rw [List.length_set]; exact hml) (rn_lr_set (v := rn_R r) hnl rfl hv2 rfl ⟨hr, rfl⟩ h') hs1 hz E
  case iinc i n =>
    have hc : (decide (nx = pc + 3) && decide (i = a)) = true := hc
    simp only [Bool.and_eq_true, decide_eq_true_eq] at hc
    obtain ⟨rfl, rfl⟩ := hc
    have hd : decode mt.2.1 pc = .ok (.iinc i n, pc + 3 - pc) := hd
    rw [Nat.add_sub_cancel_left] at hd
    obtain ⟨x, hx, h⟩ := rn_ldI_out h
    obtain ⟨lv, hv1, hv2⟩ := hl
    have hnl := rn_lnk_of hv1 hv2.1 hx
    obtain ⟨z, hz1, kz, rfl, hk⟩ := hv2.1 i _ hx (fun q => by cases q)
    obtain ⟨j, hj⟩ := List.getElem?_of_mem hz1
    refine lv_iinc C.1 C.2.1 hd hv1 hj rfl (List.getElem?_eq_some_iff.mp hx).1 rfl (fun ls' h' => ?_)
    refine rn_go0 hm h C (by rw [List.length_set]; exact hml) (rn_lr_set (v := .inl (rn_wr (x + n))) (Or.inr hnl) rfl hv2 rfl ⟨_, rfl, ?_⟩ h') hs hz E
    rw [rn_add, rn_ofInt, hk, rn_wr_wr]
  case iadd =>
    obtain rfl : nx = pc + 1 := of_decide_eq_true hc
    have hd : decode mt.2.1 pc = .ok (.iadd, pc + 1 - pc) := hd
    rw [Nat.add_sub_cancel_left] at hd
    exact rn_i_bin (ins := .iadd) (fun x y => x + y) rn_add (fun x y rest q => lv_iadd C.1 C.2.1 hd q) hm h C hml hl hs hz E
  case isub =>
    obtain rfl : nx = pc + 1 := of_decide_eq_true hc
    have hd : decode mt.2.1 pc = .ok (.isub, pc + 1 - pc) := hd
    rw [Nat.add_sub_cancel_left] at hd
    exact rn_i_bin (ins := .isub) (fun x y => x - y) rn_sub (fun x y rest q => lv_isub C.1 C.2.1 hd q) hm h C hml hl hs hz E
  case imul =>
    obtain rfl : nx = pc + 1 := of_decide_eq_true hc
    have hd : decode mt.2.1 pc = .ok (.imul, pc + 1 - pc) := hd
    rw [Nat.add_sub_cancel_left] at hd
    exact rn_i_bin (ins := .imul) (fun x y => x * y) rn_mul (fun x y rest q => lv_imul C.1 C.2.1 hd q) hm h C hml hl hs hz E
  case iand =>
    obtain rfl : nx = pc + 1 := of_decide_eq_true hc
    have hd : decode mt.2.1 pc = .ok (.iand, pc + 1 - pc) := hd
    rw [Nat.add_sub_cancel_left] at hd
    exact rn_i_bin (ins := .iand) (f := rn_and) (fun x y => x &&& y) (fun x y => by unfold rn_and; rw [rn_back, rn_back]) (fun x y rest q => lv_iand C.1 C.2.1 hd q) hm h C hml hl hs hz E
  case ior =>
    obtain rfl : nx = pc + 1 := of_decide_eq_true hc
    have hd : decode mt.2.1 pc = .ok (.ior, pc + 1 - pc) := hd
    rw [Nat.add_sub_cancel_left] at hd
    exact rn_i_bin (ins := .ior) (f := rn_or) (fun x y => x ||| y) (fun x y => by unfold rn_or; rw [rn_back, rn_back]) (fun x y rest q => lv_ior C.1 C.2.1 hd q) hm h C hml hl hs hz E
  case ishl =>
    obtain rfl : nx = pc + 1 := of_decide_eq_true hc
    have hd : decode mt.2.1 pc = .ok (.ishl, pc + 1 - pc) := hd
    rw [Nat.add_sub_cancel_left] at hd
    exact rn_i_bin (ins := .ishl) (f := rn_shl) (fun x y => x <<< (y &&& 31)) (fun x y => by unfold rn_shl; rw [rn_back, rn_back]) (fun x y rest q => lv_ishl C.1 C.2.1 hd q) hm h C hml hl hs hz E
  case ishr =>
    obtain rfl : nx = pc + 1 := of_decide_eq_true hc
    have hd : decode mt.2.1 pc = .ok (.ishr, pc + 1 - pc) := hd
    rw [Nat.add_sub_cancel_left] at hd
    exact rn_i_bin (ins := .ishr) (f := rn_shr) (fun x y => x >>> (y &&& 31)) (fun x y => by unfold rn_shr; rw [rn_back, rn_back]) (fun x y rest q => lv_ishr C.1 C.2.1 hd q) hm h C hml hl hs hz E
  case ineg =>
    obtain rfl : nx = pc + 1 := of_decide_eq_true hc
    have hd : decode mt.2.1 pc = .ok (.ineg, pc + 1 - pc) := hd
    rw [Nat.add_sub_cancel_left] at hd
    obtain ⟨x, t', rfl, h⟩ := rn_st1_out h
    obtain ⟨kx, stk1, rfl, rfl, hs1⟩ := rn_vs_I hs
    refine lv_ineg C.1 C.2.1 hd ?_
    exact rn_go0 hm h C hml hl ⟨⟨_, rfl, by rw [← rn_neg, Int32.zero_sub]⟩, hs1⟩ hz E
  case i2c =>
    obtain rfl : nx = pc + 1 := of_decide_eq_true hc
    have hd : decode mt.2.1 pc = .ok (.i2c, pc + 1 - pc) := hd
    rw [Nat.add_sub_cancel_left] at hd
    obtain ⟨x, t', rfl, h0, h1, h⟩ := rn_st1_out h
    obtain ⟨kx, stk1, rfl, rfl, hs1⟩ := rn_vs_I hs
    obtain ⟨j, hj, rfl⟩ := nI_of (rn_tnn h0)
    have hj2 : (nI j).toInt = (j : Int) := nI_toInt hj
    rw [hj2] at h1
    refine lv_i2c (v := nI j) C.1 C.2.1 hd (by rw [pk_char, pk_tn (by omega), Nat.mod_eq_of_lt (by omega)]) ?_
    exact rn_go0 hm h C hml hl ⟨⟨_, rfl, rfl⟩, hs1⟩ hz E
  case dup =>
    obtain rfl : nx = pc + 1 := of_decide_eq_true hc
    have hd : decode mt.2.1 pc = .ok (.dup, pc + 1 - pc) := hd
    rw [Nat.add_sub_cancel_left] at hd
    obtain ⟨v, t', rfl, hca, h⟩ : ∃ v t', st = v :: t' ∧ rn_ca v = 1 ∧ rn_Snd l D A y (pc + 1) L (v :: v :: t') M Q := by
      unfold rn_stp at h
      dsimp only at h
      split at h
      · exact ⟨_, _, rfl, rfl, h⟩
      · exact ⟨_, _, rfl, rfl, h⟩
      · exact h.elim
    obtain ⟨x, r, rfl, hv, hs1⟩ := rn_vs_c hs
    refine lv_dup C.1 C.2.1 hd (rn_vr_cat hv hca) ?_
    exact rn_go0 hm h C hml hl ⟨hv, hv, hs1⟩ hz E
  case pop =>
    obtain rfl : nx = pc + 1 := of_decide_eq_true hc
    have hd : decode mt.2.1 pc = .ok (.pop, pc + 1 - pc) := hd
    rw [Nat.add_sub_cancel_left] at hd
    obtain ⟨v, t', rfl, hca, h⟩ : ∃ v t', st = v :: t' ∧ rn_ca v = 1 ∧ rn_Snd l D A y (pc + 1) L t' M Q := by
      unfold rn_stp at h
      dsimp only at h
      split at h
      · exact ⟨_, _, rfl, rfl, h⟩
      · exact ⟨_, _, rfl, rfl, h⟩
      · exact h.elim
    obtain ⟨x, r, rfl, hv, hs1⟩ := rn_vs_c hs
    refine lv_pop C.1 C.2.1 hd (rn_vr_cat hv hca) ?_
    exact rn_go0 hm h C hml hl hs1 hz E
  case goto o =>
    have hc : (decide (nx = pc + 3) && decide ((pc : Int) + o = (a : Int))) = true := hc
    simp only [Bool.and_eq_true, decide_eq_true_eq] at hc
    obtain ⟨rfl, ha⟩ := hc
    have hd : decode mt.2.1 pc = .ok (.goto o, pc + 3 - pc) := hd
    rw [Nat.add_sub_cancel_left] at hd
    exact lv_goto C.1 C.2.1 hd ha (rn_go0 hm h C hml hl hs hz E)
  case ifCond cnd o =>
    have hc : (decide (nx = pc + 3) && decide ((pc : Int) + o = (a : Int))) = true := by cases cnd <;> exact hc
    simp only [Bool.and_eq_true, decide_eq_true_eq] at hc
    obtain ⟨rfl, ha⟩ := hc
    have hd : decode mt.2.1 pc = .ok (.ifCond cnd o, pc + 3 - pc) := hd
    rw [Nat.add_sub_cancel_left] at hd
    have z0 : (0 : Int32).toInt = 0 := rfl
    cases cnd
    case eq => exact rn_i_if (nx := 0) (a := 0) (fun x rest q1 q2 => lv_if_eq C.1 C.2.1 hd ha (by rw [rn_i0]; exact q1) (by rw [rn_i0]; exact q2)) hm h C hml hl hs hz E
    case ne => exact rn_i_if (nx := 0) (a := 0) (fun x rest q1 q2 => lv_if_ne C.1 C.2.1 hd ha (by rw [rn_i0]; exact q2) (by rw [rn_i0]; exact q1)) hm h C hml hl hs hz E
    case lt => exact rn_i_if (nx := 0) (a := 0) (fun x rest q1 q2 => lv_if_lt C.1 C.2.1 hd ha (by rw [rn_il, z0]; exact q1) (by rw [rn_il, z0]; exact q2)) hm h C hml hl hs hz E
    case ge => exact rn_i_if (nx := 0) (a := 0) (fun x rest q1 q2 => lv_if_ge C.1 C.2.1 hd ha (by rw [rn_ile, z0]; exact q1) (by rw [rn_ile, z0]; exact q2)) hm h C hml hl hs hz E
    case gt => exact rn_i_if (nx := 0) (a := 0) (fun x rest q1 q2 => lv_if_gt C.1 C.2.1 hd ha (by rw [rn_il, z0]; exact q1) (by rw [rn_il, z0]; exact q2)) hm h C hml hl hs hz E
    case le => exact rn_i_if (nx := 0) (a := 0) (fun x rest q1 q2 => lv_if_le C.1 C.2.1 hd ha (by rw [rn_ile, z0]; exact q1) (by rw [rn_ile, z0]; exact q2)) hm h C hml hl hs hz E
  case if_icmp cnd o =>
    have hc : (decide (nx = pc + 3) && decide ((pc : Int) + o = (a : Int))) = true := by cases cnd <;> exact hc
    simp only [Bool.and_eq_true, decide_eq_true_eq] at hc
    obtain ⟨rfl, ha⟩ := hc
    have hd : decode mt.2.1 pc = .ok (.if_icmp cnd o, pc + 3 - pc) := hd
    rw [Nat.add_sub_cancel_left] at hd
    cases cnd
    case eq => exact rn_i_icmp (P := fun x y => x = y) (fun x y' rest q1 q2 => lv_icmp_eq C.1 C.2.1 hd ha (by rw [rn_ie]; exact q1) (by rw [rn_ie]; exact q2)) hm h C hml hl hs hz E
    case ne => exact rn_i_icmp (P := fun x y => x = y) (fun x y' rest q1 q2 => lv_icmp_ne C.1 C.2.1 hd ha (by rw [rn_ie]; exact q2) (by rw [rn_ie]; exact q1)) hm h C hml hl hs hz E
    case lt => exact rn_i_icmp (P := fun x y => x < y) (fun x y' rest q1 q2 => lv_icmp_lt C.1 C.2.1 hd ha (by rw [rn_il]; exact q1) (by rw [rn_il]; exact q2)) hm h C hml hl hs hz E
    case ge => exact rn_i_icmp (P := fun x y => x < y) (fun x y' rest q1 q2 => lv_icmp_ge C.1 C.2.1 hd ha (fun q => q2 (by rw [rn_ile] at q; omega)) (fun q => q1 (by rw [rn_ile] at q; omega))) hm h C hml hl hs hz E
    case gt => exact rn_i_icmp (P := fun x y => y < x) (fun x y' rest q1 q2 => lv_icmp_gt C.1 C.2.1 hd ha (by rw [rn_il]; exact q1) (by rw [rn_il]; exact q2)) hm h C hml hl hs hz E
    case le => exact rn_i_icmp (P := fun x y => x ≤ y) (fun x y' rest q1 q2 => lv_icmp_le C.1 C.2.1 hd ha (by rw [rn_ile]; exact q1) (by rw [rn_ile]; exact q2)) hm h C hml hl hs hz E
  case ifnull o =>
    have hc : (decide (nx = pc + 3) && decide ((pc : Int) + o = (a : Int))) = true := hc
    simp only [Bool.and_eq_true, decide_eq_true_eq] at hc
    obtain ⟨rfl, ha⟩ := hc
    have hd : decode mt.2.1 pc = .ok (.ifnull o, pc + 3 - pc) := hd
    rw [Nat.add_sub_cancel_left] at hd
    unfold rn_stp at h
    dsimp only at h
    split at h
    · obtain ⟨stk1, rfl, hs1⟩ := rn_vs_N hs
      exact lv_ifnullN C.1 C.2.1 hd ha (rn_go0 hm h C hml hl hs1 hz E)
    · obtain ⟨stk1, rfl, hr, hs1⟩ := rn_vs_R hs
      exact lv_ifnull C.1 C.2.1 hd (rn_go0 hm h C hml hl hs1 hz E)
    · exact h.elim
  case ifnonnull o =>
    have hc : (decide (nx = pc + 3) && decide ((pc : Int) + o = (a : Int))) = true := hc
    simp only [Bool.and_eq_true, decide_eq_true_eq] at hc
    obtain ⟨rfl, ha⟩ := hc
    have hd : decode mt.2.1 pc = .ok (.ifnonnull o, pc + 3 - pc) := hd
    rw [Nat.add_sub_cancel_left] at hd
    unfold rn_stp at h
    dsimp only at h
    split at h
    · obtain ⟨stk1, rfl, hs1⟩ := rn_vs_N hs
      exact lv_ifnonnullN C.1 C.2.1 hd (rn_go0 hm h C hml hl hs1 hz E)
    · obtain ⟨stk1, rfl, hr, hs1⟩ := rn_vs_R hs
      exact lv_ifnonnull C.1 C.2.1 hd ha (rn_go0 hm h C hml hl hs1 hz E)
    · exact h.elim
  case tableswitch d lo hi offs =>
    have hc : (decide ((pc : Int) + d = (a : Int)) && decide (offs.toList.map (fun (o : Int) => (pc : Int) + o) = ts.map (fun (n : Nat) => (n : Int))) && decide (-2147483648 ≤ lo)) = true := hc
    simp only [Bool.and_eq_true, decide_eq_true_eq] at hc
    obtain ⟨⟨ha, ho⟩, -⟩ := hc
    obtain ⟨x, t', rfl, h⟩ := rn_st1_out h
    obtain ⟨kx, stk1, rfl, rfl, hs1⟩ := rn_vs_I hs
    by_cases q : kx.toInt < lo ∨ hi < kx.toInt
    · exact lv_tableOut C.1 C.2.1 hd q ha (rn_go0 hm (h.1 q) C hml hl hs1 hz E)
    · have h2 := h.2 q
      unfold rn_sw at h2
      split at h2
      · rename_i tg htg
        obtain ⟨o, ho1, ho2⟩ := rn_offs ho htg
        exact lv_tableIn C.1 C.2.1 hd (fun z => q (Or.inl z)) (fun z => q (Or.inr z)) (by rw [← Array.getElem?_toList]; exact ho1) ho2 (rn_go0 hm h2 C hml hl hs1 hz E)
      · exact h2.elim
  case getfield idx =>
    have hx : nx = pc + 3 := by
      have hc : (decide (nx = pc + 3) && _) = true := hc
      rw [Bool.and_eq_true, decide_eq_true_eq] at hc
      exact hc.1
    subst hx
    have hd : decode mt.2.1 pc = .ok (.getfield idx, pc + 3 - pc) := hd
    rw [Nat.add_sub_cancel_left] at hd
    exact rn_i_get (a := a) (t := t) hm hd hc h C hml hl hs hz E
  case putfield idx =>
    have hx : nx = pc + 3 := by
      have h2 := hc
      unfold rn_chi at h2
      simp only [Bool.and_eq_true, decide_eq_true_eq] at h2
      exact h2.1.1.1.1.1.1.1
    subst hx
    have hd : decode mt.2.1 pc = .ok (.putfield idx, pc + 3 - pc) := hd
    rw [Nat.add_sub_cancel_left] at hd
    exact rn_i_put (a := a) (t := t) hm hd hc h C hml hl hs hz E
  case getstatic idx =>
    obtain ⟨z1, z2, z3, z4, z5, z6, z7⟩ := id hz
    have h8 : 8 ≤ M.1.length := by have := z1.2.2.2.1; omega
    unfold rn_chi at hc
    simp only [Bool.and_eq_true, decide_eq_true_eq] at hc
    obtain ⟨rfl, hc⟩ := hc
    have hd2 : decode mt.2.1 pc = .ok (.getstatic idx, pc + 3 - pc) := hd
    rw [Nat.add_sub_cancel_left] at hd2
    match b, hc, h with
    | 0, hc, h => cases hc
    | 1, hc, h =>
      match a, hc, h with
      | 0, hc, h => cases hc
      | 1, hc, h =>
        refine va_getsN C.1 C.2.1 z3.1 z4 C.2.2.1 (va_Nw.use rfl (z3.2.2.1 _ (rn_hn_mem hc))) (fun _ h9 => h9) hd2 ?_
        exact rn_go0 (st' := rn_R 1 :: st) hm h C hml hl ⟨⟨by omega, rfl⟩, hs⟩ hz E
      | 2, hc, h =>
        refine va_getsN C.1 C.2.1 z3.2.1 z4 C.2.2.1 (va_Nw.use rfl (z3.2.2.1 _ (rn_hn_mem hc))) (fun _ h9 => h9) hd2 ?_
        exact rn_go0 (st' := rn_R 2 :: st) hm h C hml hl ⟨⟨by omega, rfl⟩, hs⟩ hz E
      | n + 3, hc, h => cases hc
    | n + 2, hc, h => cases hc
  case ldc idx =>
    unfold rn_chi at hc
    simp only [Bool.and_eq_true, decide_eq_true_eq] at hc
    obtain ⟨⟨rfl, hw⟩, ha⟩ := hc
    have hd2 : decode mt.2.1 pc = .ok (.ldc idx, pc + 2 - pc) := hd
    rw [Nat.add_sub_cancel_left] at hd2
    refine lv_ldc C.1 C.2.1 C.2.2.1 (C.2.2.2.1 _ (rn_hw_mem hw)) hd2 ?_
    exact rn_go0 (st' := .inl (a : Int) :: st) hm h C hml hl ⟨⟨_, rfl, rn_i32 (by omega) ha⟩, hs⟩ hz E
  case ldc2_w idx =>
    have hc : (decide (nx = pc + 3) && rn_hw t (.constantLong mt.1.cls idx (Int64.ofNat a))) = true := hc
    simp only [Bool.and_eq_true, decide_eq_true_eq] at hc
    obtain ⟨rfl, hw⟩ := hc
    have hd2 : decode mt.2.1 pc = .ok (.ldc2_w idx, pc + 3 - pc) := hd
    rw [Nat.add_sub_cancel_left] at hd2
    refine lv_ldc2 C.1 C.2.1 C.2.2.1 (C.2.2.2.1 _ (rn_hw_mem hw)) hd2 ?_
    exact rn_go0 (st' := .inr (.inr (Int64.ofNat a)) :: st) hm h C hml hl ⟨rfl, hs⟩ hz E
  case lload i =>
    have hc : (decide (nx = pc + 2) && decide (i = a)) = true := hc
    simp only [Bool.and_eq_true, decide_eq_true_eq] at hc
    obtain ⟨rfl, rfl⟩ := hc
    have hd : decode mt.2.1 pc = .ok (.lload i, pc + 2 - pc) := hd
    rw [Nat.add_sub_cancel_left] at hd
    obtain ⟨x, hx, h⟩ := rn_ldL_out h
    obtain ⟨v, hv, rfl⟩ := rn_lr_get hl hx (fun q => by cases q)
    refine lv_lload C.1 C.2.1 hd hv ?_
    exact rn_go0 hm h C hml hl ⟨rfl, hs⟩ hz E
  case lload_n i =>
    have hc : (decide (nx = pc + 1) && decide (i.val = a)) = true := hc
    simp only [Bool.and_eq_true, decide_eq_true_eq] at hc
    obtain ⟨rfl, rfl⟩ := hc
    have hd : decode mt.2.1 pc = .ok (.lload_n i, pc + 1 - pc) := hd
    rw [Nat.add_sub_cancel_left] at hd
    obtain ⟨x, hx, h⟩ := rn_ldL_out h
    obtain ⟨v, hv, rfl⟩ := rn_lr_get hl hx (fun q => by cases q)
    refine lv_lload_n C.1 C.2.1 hd rfl hv ?_
    exact rn_go0 hm h C hml hl ⟨rfl, hs⟩ hz E
  case lstore i =>
    have hc : (decide (nx = pc + 2) && decide (i = a) && rn_kk k mt && rn_lg mt) = true := hc
    simp only [Bool.and_eq_true, decide_eq_true_eq] at hc
    obtain ⟨⟨⟨rfl, rfl⟩, hk0⟩, hlg⟩ := hc
    have hd : decode mt.2.1 pc = .ok (.lstore i, pc + 2 - pc) := hd
    rw [Nat.add_sub_cancel_left] at hd
    obtain ⟨x, t', rfl, h⟩ := rn_sl1_out h
    obtain ⟨hlt, h⟩ := rn_g_out h
    obtain ⟨hnl, h⟩ := rn_lkk_out hk0 h
    obtain ⟨stk1, rfl, hs1⟩ := rn_vs_G hs
    obtain ⟨lv, hv1, hv2⟩ := hl
    refine lv_lstore C.1 C.2.1 hd hv1 (Nat.le_of_ble_eq_true hlt) rfl (fun ls' h' => ?_)
    exact rn_go0 hm h C (by rw [List.length_set, List.length_set]; exact hml) (rn_lr_set2 (v := .inr (.inr x)) hlg hnl hv2 rfl rfl h') hs1 hz E
  case lstore_n i =>
    have hc : (decide (nx = pc + 1) && decide (i.val = a) && rn_kk k mt && rn_lg mt) = true := hc
    simp only [Bool.and_eq_true, decide_eq_true_eq] at hc
    obtain ⟨⟨⟨rfl, rfl⟩, hk0⟩, hlg⟩ := hc
    have hd : decode mt.2.1 pc = .ok (.lstore_n i, pc + 1 - pc) := hd
    rw [Nat.add_sub_cancel_left] at hd
    obtain ⟨x, t', rfl, h⟩ := rn_sl1_out h
    obtain ⟨hlt, h⟩ := rn_g_out h
    obtain ⟨hnl, h⟩ := rn_lkk_out hk0 h
    obtain ⟨stk1, rfl, hs1⟩ := rn_vs_G hs
    obtain ⟨lv, hv1, hv2⟩ := hl
    refine lv_lstore_n C.1 C.2.1 hd rfl hv1 (Nat.le_of_ble_eq_true hlt) rfl (fun ls' h' => ?_)
    exact rn_go0 hm h C (by rw [List.length_set, List.length_set]; exact hml) (rn_lr_set2 (v := .inr (.inr x)) hlg hnl hv2 rfl rfl h') hs1 hz E
  case ladd =>
    obtain rfl : nx = pc + 1 := of_decide_eq_true hc
    have hd : decode mt.2.1 pc = .ok (.ladd, pc + 1 - pc) := hd
    rw [Nat.add_sub_cancel_left] at hd
    obtain ⟨x, y', t', rfl, h⟩ := rn_sl2_out h
    obtain ⟨stk1, rfl, hs1⟩ := rn_vs_G hs
    obtain ⟨stk2, rfl, hs2⟩ := rn_vs_G hs1
    exact lv_ladd C.1 C.2.1 hd (rn_go0 hm h C hml hl ⟨rfl, hs2⟩ hz E)
  case lmul =>
    obtain rfl : nx = pc + 1 := of_decide_eq_true hc
    have hd : decode mt.2.1 pc = .ok (.lmul, pc + 1 - pc) := hd
    rw [Nat.add_sub_cancel_left] at hd
    obtain ⟨x, y', t', rfl, h⟩ := rn_sl2_out h
    obtain ⟨stk1, rfl, hs1⟩ := rn_vs_G hs
    obtain ⟨stk2, rfl, hs2⟩ := rn_vs_G hs1
    exact lv_lmul C.1 C.2.1 hd (rn_go0 hm h C hml hl ⟨rfl, hs2⟩ hz E)
  case lcmp =>
    obtain rfl : nx = pc + 1 := of_decide_eq_true hc
    have hd : decode mt.2.1 pc = .ok (.lcmp, pc + 1 - pc) := hd
    rw [Nat.add_sub_cancel_left] at hd
    obtain ⟨x, y', t', rfl, h⟩ := rn_sl2_out h
    obtain ⟨stk1, rfl, hs1⟩ := rn_vs_G hs
    obtain ⟨stk2, rfl, hs2⟩ := rn_vs_G hs1
    exact W.lcmp C.1 C.2.1 hd (rn_go0 hm h C hml hl ⟨⟨_, rfl, rfl⟩, hs2⟩ hz E)
  case i2l =>
    obtain rfl : nx = pc + 1 := of_decide_eq_true hc
    have hd : decode mt.2.1 pc = .ok (.i2l, pc + 1 - pc) := hd
    rw [Nat.add_sub_cancel_left] at hd
    obtain ⟨x, t', rfl, h⟩ := rn_st1_out h
    obtain ⟨kx, stk1, rfl, rfl, hs1⟩ := rn_vs_I hs
    refine lv_i2l C.1 C.2.1 hd rfl ?_
    refine rn_go0 hm h C hml hl ⟨?_, hs1⟩ hz E
    show Value.long kx.toInt64 = Value.long (Int32.ofInt kx.toInt).toInt64
    rw [rn_back]
  case idiv =>
    obtain rfl : nx = pc + 1 := of_decide_eq_true hc
    have hd : decode mt.2.1 pc = .ok (.idiv, pc + 1 - pc) := hd
    rw [Nat.add_sub_cancel_left] at hd
    obtain ⟨x, y', t', rfl, g1, g2, h⟩ := rn_st2_out h
    obtain ⟨ky, stk1, rfl, rfl, hs1⟩ := rn_vs_I hs
    obtain ⟨kx, stk2, rfl, rfl, hs2⟩ := rn_vs_I hs1
    refine lv_idiv C.1 C.2.1 hd (fun q => by rw [q] at g2; exact absurd g2 (by decide)) ?_
    exact rn_go0 hm h C hml hl ⟨⟨_, rfl, rn_div32 g1 g2⟩, hs2⟩ hz E
  case irem =>
    obtain rfl : nx = pc + 1 := of_decide_eq_true hc
    have hd : decode mt.2.1 pc = .ok (.irem, pc + 1 - pc) := hd
    rw [Nat.add_sub_cancel_left] at hd
    obtain ⟨x, y', t', rfl, g1, g2, h⟩ := rn_st2_out h
    obtain ⟨ky, stk1, rfl, rfl, hs1⟩ := rn_vs_I hs
    obtain ⟨kx, stk2, rfl, rfl, hs2⟩ := rn_vs_I hs1
    refine lv_irem C.1 C.2.1 hd (fun q => by rw [q] at g2; exact absurd g2 (by decide)) ?_
    exact rn_go0 hm h C hml hl ⟨⟨_, rfl, rn_rem32 g1 g2⟩, hs2⟩ hz E
  case ixor =>
    obtain rfl : nx = pc + 1 := of_decide_eq_true hc
    have hd : decode mt.2.1 pc = .ok (.ixor, pc + 1 - pc) := hd
    rw [Nat.add_sub_cancel_left] at hd
    exact rn_i_bin (ins := .ixor) (f := rn_xor) (fun x y => x ^^^ y) (fun x y => by unfold rn_xor; rw [rn_back, rn_back]) (fun x y rest q => lv_ixor C.1 C.2.1 hd q) hm h C hml hl hs hz E
  case iushr =>
    obtain rfl : nx = pc + 1 := of_decide_eq_true hc
    have hd : decode mt.2.1 pc = .ok (.iushr, pc + 1 - pc) := hd
    rw [Nat.add_sub_cancel_left] at hd
    exact rn_i_bin (ins := .iushr) (f := rn_usr) (fun x y => (x.toUInt32 >>> (y.toUInt32 &&& Int32.toUInt32 31)).toInt32) (fun x y => by unfold rn_usr; rw [rn_back, rn_back]) (fun x y rest q => lv_iushr C.1 C.2.1 hd rfl q) hm h C hml hl hs hz E
  case iaload =>
    obtain rfl : nx = pc + 1 := of_decide_eq_true hc
    have hd : decode mt.2.1 pc = .ok (.iaload, pc + 1 - pc) := hd
    rw [Nat.add_sub_cancel_left] at hd
    exact rn_i_iald hm hd h C hml hl hs hz E
  case aaload =>
    obtain rfl : nx = pc + 1 := of_decide_eq_true hc
    have hd : decode mt.2.1 pc = .ok (.aaload, pc + 1 - pc) := hd
    rw [Nat.add_sub_cancel_left] at hd
    exact rn_i_aald hm hd h C hml hl hs hz E
  case arraylength =>
    obtain rfl : nx = pc + 1 := of_decide_eq_true hc
    have hd : decode mt.2.1 pc = .ok (.arraylength, pc + 1 - pc) := hd
    rw [Nat.add_sub_cancel_left] at hd
    exact rn_i_alen hm hd h C hml hl hs hz E
  case iastore =>
    obtain rfl : nx = pc + 1 := of_decide_eq_true hc
    have hd : decode mt.2.1 pc = .ok (.iastore, pc + 1 - pc) := hd
    rw [Nat.add_sub_cancel_left] at hd
    unfold rn_stp at h
    dsimp only at h
    split at h
    · exact rn_i_iast hm hd h.1 h.2.1 h.2.2 C hml hl hs hz E
    · exact h.elim
  case aastore =>
    obtain rfl : nx = pc + 1 := of_decide_eq_true hc
    have hd : decode mt.2.1 pc = .ok (.aastore, pc + 1 - pc) := hd
    rw [Nat.add_sub_cancel_left] at hd
    unfold rn_stp at h
    dsimp only at h
    split at h
    · exact rn_i_aast hm hd h.1 h.2.1 h.2.2.1 h.2.2.2 C hml hl hs hz E
    · exact h.elim
  case new idx =>
    have hc : (decide (nx = pc + 3) && decide (a < 11) && rn_al mt && rn_hw t (.classLink mt.1.cls idx (rn_cn a)) && (match rn_cpl[a]? with | some (pa, pb) => rn_hw pa (.instantiable (rn_cn a) (rn_nf a)) && rn_hw pb (.initialized (rn_cn a)) | none => false)) = true := hc
    rw [Bool.and_eq_true, Bool.and_eq_true, Bool.and_eq_true, Bool.and_eq_true, decide_eq_true_eq, decide_eq_true_eq] at hc
    obtain ⟨⟨⟨⟨rfl, h1⟩, h2⟩, h3⟩, h4⟩ := hc
    have hd : decode mt.2.1 pc = .ok (.new idx, pc + 3 - pc) := hd
    rw [Nat.add_sub_cancel_left] at hd
    obtain ⟨g1, g2, g3⟩ := h
    exact rn_i_new hm hd h1 h2 h3 h4 g1 g2 g3 C hml hl hs hz E
  case newarray ty =>
    have hc : (decide (nx = pc + 2) && rn_al mt && decide (ty = .int)) = true := hc
    rw [Bool.and_eq_true, Bool.and_eq_true, decide_eq_true_eq, decide_eq_true_eq] at hc
    obtain ⟨⟨rfl, h2⟩, rfl⟩ := hc
    have hd : decode mt.2.1 pc = .ok (.newarray .int, pc + 2 - pc) := hd
    rw [Nat.add_sub_cancel_left] at hd
    obtain ⟨n, t', rfl, g1, g2, g3, g4, g5⟩ := rn_st1_out h
    exact rn_i_newa hm hd h2 g1 g2 g3 g4 g5 C hml hl hs hz E
  case anewarray idx =>
    have hc : (decide (nx = pc + 3) && rn_al mt && decide (a = 0 ∨ a = 3 ∨ a = 5 ∨ a = 8) && rn_hw t (.classLink mt.1.cls idx (rn_cn a))) = true := hc
    rw [Bool.and_eq_true, Bool.and_eq_true, Bool.and_eq_true, decide_eq_true_eq, decide_eq_true_eq] at hc
    obtain ⟨⟨⟨rfl, h2⟩, h3⟩, h4⟩ := hc
    have hd : decode mt.2.1 pc = .ok (.anewarray idx, pc + 3 - pc) := hd
    rw [Nat.add_sub_cancel_left] at hd
    obtain ⟨n, t', rfl, g1, g2, g3, g4, g5⟩ := rn_st1_out h
    exact rn_i_newq hm hd h2 h3 h4 g1 g2 g3 g4 g5 C hml hl hs hz E
  case invokevirtual idx =>
    unfold rn_chi at hc
    rw [Bool.and_eq_true, Bool.and_eq_true, Bool.and_eq_true, decide_eq_true_eq, decide_eq_true_eq] at hc
    obtain ⟨⟨⟨rfl, h2⟩, h3⟩, h4⟩ := hc
    have hd : decode mt.2.1 pc = .ok (.invokevirtual idx, pc + 3 - pc) := hd
    rw [Nat.add_sub_cancel_left] at hd
    exact rn_i_virt hm hd h3 h4 h C hml hl hs hz E
  case invokestatic idx =>
    have hx : nx = pc + 3 := by
      have h2 := hc
      unfold rn_chi at h2
      rw [Bool.and_eq_true, decide_eq_true_eq] at h2
      exact h2.1
    subst hx
    have hd2 : decode mt.2.1 pc = .ok (.invokestatic idx, pc + 3 - pc) := hd
    rw [Nat.add_sub_cancel_left] at hd2
    have hls : ls.size = L.length := by obtain ⟨lv, hv, -⟩ := hl; exact hv.1
    by_cases k3 : k = 3
    · subst k3
      have hc : (decide (pc + 3 = pc + 3) && (rn_hw t (.methodLink mt.1.cls idx arraycopyName) && decide (1 ≤ rn_fr mt) && decide (38 ≤ rn_lw mt))) = true := hc
      rw [Bool.and_eq_true, Bool.and_eq_true, Bool.and_eq_true, decide_eq_true_eq, decide_eq_true_eq, decide_eq_true_eq] at hc
      obtain ⟨-, ⟨h1, h2⟩, h3⟩ := hc
      obtain ⟨n, dp, d, sp, r, t', rfl, h⟩ := rn_acp_out h
      obtain ⟨hg, g1, g2, g3, g4, g5, g6, g7, g8⟩ := rn_g_out h
      exact rn_i_copy hm hd2 h1 h2 h3 (Nat.le_of_ble_eq_true hg) g1 g2 g3 g4 g5 g6 g7 g8 C hml hl hs hz E
    by_cases k5 : k = 5
    · subst k5
      have hc : (decide (pc + 3 = pc + 3) && (rn_hw t (.methodLink mt.1.cls idx Lib.Math.max.name) && decide (1 ≤ rn_fr mt) && decide (21 ≤ rn_lw mt))) = true := hc
      rw [Bool.and_eq_true, Bool.and_eq_true, Bool.and_eq_true, decide_eq_true_eq, decide_eq_true_eq, decide_eq_true_eq] at hc
      obtain ⟨-, ⟨h1, h2⟩, h3⟩ := hc
      exact rn_i_math (idx := idx) (t := t) (f := fun x y => max x y) (fun x y => if x < y then y else x) rn_max32 (fun x y' rest hr q => va_mmax C.1 C.2.1 (hml.trans hls.symm) C.2.2.1 (C.2.2.2.1 _ (rn_hw_mem h1)) (C.2.2.2.1 _ rn_p_maxs) (C.2.2.2.1 _ rn_p_mini) (C.2.2.2.1 _ rn_p_maxc) (Nat.le_trans h2 C.2.2.2.2.2.1) hr hz.2.2.2.2.1 hz.2.2.2.2.2.1 hd2 q) hm h3 h C hml hl hs hz E
    by_cases k6 : k = 6
    · subst k6
      have hc : (decide (pc + 3 = pc + 3) && (rn_hw t (.methodLink mt.1.cls idx Lib.Math.min.name) && decide (1 ≤ rn_fr mt) && decide (21 ≤ rn_lw mt))) = true := hc
      rw [Bool.and_eq_true, Bool.and_eq_true, Bool.and_eq_true, decide_eq_true_eq, decide_eq_true_eq, decide_eq_true_eq] at hc
      obtain ⟨-, ⟨h1, h2⟩, h3⟩ := hc
      exact rn_i_math (idx := idx) (t := t) (f := fun x y => min x y) (fun x y => if y < x then y else x) rn_min32 (fun x y' rest hr q => va_mmin C.1 C.2.1 (hml.trans hls.symm) C.2.2.1 (C.2.2.2.1 _ (rn_hw_mem h1)) (C.2.2.2.1 _ rn_p_mins) (C.2.2.2.1 _ rn_p_mini) (C.2.2.2.1 _ rn_p_minc) (Nat.le_trans h2 C.2.2.2.2.2.1) hr hz.2.2.2.2.1 hz.2.2.2.2.2.1 hd2 q) hm h3 h C hml hl hs hz E
    by_cases k7 : k = 7
    · subst k7
      have hc : (decide (pc + 3 = pc + 3) && (rn_hw t (.methodLink mt.1.cls idx Lib.Math.abs.name) && decide (1 ≤ rn_fr mt) && decide (21 ≤ rn_lw mt))) = true := hc
      rw [Bool.and_eq_true, Bool.and_eq_true, Bool.and_eq_true, decide_eq_true_eq, decide_eq_true_eq, decide_eq_true_eq] at hc
      obtain ⟨-, ⟨h1, h2⟩, h3⟩ := hc
      obtain ⟨x, t', rfl, h⟩ := rn_st1_out h
      obtain ⟨hg, h⟩ := rn_g_out h
      obtain ⟨kx, stk1, rfl, rfl, hs1⟩ := rn_vs_I hs
      have h8 := Nat.le_of_ble_eq_true hg
      refine va_mabs C.1 C.2.1 (hml.trans hls.symm) C.2.2.1 (C.2.2.2.1 _ (rn_hw_mem h1)) (C.2.2.2.1 _ rn_p_abss) (C.2.2.2.1 _ rn_p_mini) (C.2.2.2.1 _ rn_p_absc) (Nat.le_trans h2 C.2.2.2.2.2.1) (by rw [rn_vs_sum hs1]; have := C.2.2.2.2.2.2.1; omega) hz.2.2.2.2.1 hz.2.2.2.2.2.1 hd2 ?_
      exact rn_go0 hm h C hml hl ⟨⟨_, rfl, rn_abs32 kx⟩, hs1⟩ hz E
    have hc2 : (match (generalizing := false) ts with | [0] => rn_chc mt 1 a b k false t idx | [1] => rn_chc mt 1 a b k true t idx | _ => false) = true := by
      unfold rn_chi at hc
      rw [Bool.and_eq_true] at hc
      have hc := hc.2
      split at hc
      · exact absurd rfl k3
      · exact absurd rfl k5
      · exact absurd rfl k6
      · exact absurd rfl k7
      · exact hc
    have h2 : rn_g (Nat.ble b st.length && (Nat.ble (rn_sz (st.drop b)) 8 && rn_n2 (st.take b))) (rn_cal k a (rn_mcs a).1 (rn_mcs a).2 (st.take b).reverse M (fun z as M' Q' => rn_Snd l D A z 0 (rn_pad (rn_ml z) as) [] M' Q') fun v M' => rn_Snd l D A y (pc + 3) L (v.toList ++ st.drop b) M' Q) := by
      unfold rn_stp at h
      dsimp only at h
      split at h
      · exact absurd rfl k3
      · exact absurd rfl k5
      · exact absurd rfl k6
      · exact absurd rfl k7
      · exact h
    split at hc2
    · exact rn_i_stat hm hd2 hc2 h2 C hml hl hs hz E
    · exact rn_i_stat hm hd2 hc2 h2 C hml hl hs hz E
    · cases hc2
  case invokespecial idx =>
    have hx : nx = pc + 3 := by
      have h2 := hc
      unfold rn_chi at h2
      rw [Bool.and_eq_true, decide_eq_true_eq] at h2
      exact h2.1
    subst hx
    have hd2 : decode mt.2.1 pc = .ok (.invokespecial idx, pc + 3 - pc) := hd
    rw [Nat.add_sub_cancel_left] at hd2
    have hls : ls.size = L.length := by obtain ⟨lv, hv, -⟩ := hl; exact hv.1
    by_cases k2 : k = 2
    · subst k2
      have hc : (decide (pc + 3 = pc + 3) && (rn_hw t (.methodLink mt.1.cls idx Lib.objectInit) && decide (1 ≤ rn_fr mt) && decide (20 ≤ rn_lw mt))) = true := hc
      rw [Bool.and_eq_true, Bool.and_eq_true, Bool.and_eq_true, decide_eq_true_eq, decide_eq_true_eq, decide_eq_true_eq] at hc
      obtain ⟨-, ⟨h1, h2⟩, h3⟩ := hc
      obtain ⟨r, t', rfl, h⟩ := rn_stR_out h
      obtain ⟨hg, h⟩ := rn_g_out h
      obtain ⟨stk1, rfl, hr, hs1⟩ := rn_vs_R hs
      have h8 := Nat.le_of_ble_eq_true hg
      have hsum := rn_vs_sum hs1
      refine W.objInit C.1 C.2.1 C.2.2.1 (C.2.2.2.1 _ (rn_hw_mem h1)) (C.2.2.2.1 _ rn_p_obi) (C.2.2.2.1 _ rn_p_obc) rfl (hls.trans hml.symm) rfl hd2 (Nat.le_trans h2 C.2.2.2.2.2.1) ?_ ?_
      · have e0 : (F0 m pc ls (Value.ref (ad r) :: stk1)).monitorRoom = 0 := rfl
        rw [e0, hsum]
        have := C.2.2.2.2.2.2.1
        omega
      · exact rn_go0 hm h C hml hl hs1 hz E
    have hc2 : (match (generalizing := false) ts with | [0] => rn_chc mt 2 a b k false t idx | [1] => rn_chc mt 2 a b k true t idx | _ => false) = true := by
      unfold rn_chi at hc
      rw [Bool.and_eq_true] at hc
      have hc := hc.2
      split at hc
      · exact absurd rfl k2
      · exact hc
    have h2 : rn_g (Nat.ble b st.length && (Nat.ble (rn_sz (st.drop b)) 8 && rn_n2 (st.take b))) (rn_rcv (st.take b).reverse fun r => rn_kd M r = cc ∧ rn_cal k a (rn_mcs a).1 (rn_mcs a).2 (st.take b).reverse M (fun z as M' Q' => rn_Snd l D A z 0 (rn_pad (rn_ml z) as) [] M' Q') fun v M' => rn_Snd l D A y (pc + 3) L (v.toList ++ st.drop b) M' Q) := by
      unfold rn_stp at h
      dsimp only at h
      split at h
      · exact absurd rfl k2
      · exact h
    split at hc2
    · exact rn_i_spec hm hd2 hc2 h2 C hml hl hs hz E
    · exact rn_i_spec hm hd2 hc2 h2 C hml hl hs hz E
    · cases hc2
  case ireturn =>
    have hc : (decide (nx = pc + 1) && decide (k = rn_rk mt.2.2.2.1) && decide (k ≤ 3)) = true := hc
    rw [Bool.and_eq_true, Bool.and_eq_true, decide_eq_true_eq, decide_eq_true_eq, decide_eq_true_eq] at hc
    obtain ⟨⟨rfl, hk⟩, h3⟩ := hc
    have hd : decode mt.2.1 pc = .ok (.ireturn, pc + 1 - pc) := hd
    rw [Nat.add_sub_cancel_left] at hd
    obtain ⟨z1, z2, z3, z4, z5, z6, z7⟩ := id hz
    unfold rn_stp at h
    dsimp only at h
    split at h
    · rename_i x
      obtain ⟨kx, stk1, rfl, hx, hs1⟩ := rn_vs_I hs
      have e0 : stk1 = [] := by
        cases stk1 with
        | nil => rfl
        | cons _ _ => exact hs1.elim
      subst e0
      exact E (some (.inl x)) M ad tys ws H locs cells slots pc ls _ h.2 rn_xt_rf (fun _ => rfl) ⟨hd, by rw [← hk]; exact h3, by rw [← hk]; exact h.1, kx, rfl, hx⟩ z1 z4 z5 z6
    · exact h.elim
  case lreturn =>
    have hc : (decide (nx = pc + 1) && decide (rn_rk mt.2.2.2.1 = 6)) = true := hc
    rw [Bool.and_eq_true, decide_eq_true_eq, decide_eq_true_eq] at hc
    obtain ⟨rfl, hk⟩ := hc
    have hd : decode mt.2.1 pc = .ok (.lreturn, pc + 1 - pc) := hd
    rw [Nat.add_sub_cancel_left] at hd
    obtain ⟨z1, z2, z3, z4, z5, z6, z7⟩ := id hz
    unfold rn_stp at h
    dsimp only at h
    split at h
    · rename_i g
      obtain ⟨stk1, rfl, hs1⟩ := rn_vs_G hs
      have e0 : stk1 = [] := by
        cases stk1 with
        | nil => rfl
        | cons _ _ => exact hs1.elim
      subst e0
      exact E (some (.inr (.inr g))) M ad tys ws H locs cells slots pc ls _ h rn_xt_rf (fun _ => rfl) ⟨hd, hk, rfl⟩ z1 z4 z5 z6
    · exact h.elim
  case areturn =>
    have hc : (decide (nx = pc + 1) && decide (rn_rk mt.2.2.2.1 = 4)) = true := hc
    rw [Bool.and_eq_true, decide_eq_true_eq, decide_eq_true_eq] at hc
    obtain ⟨rfl, hk⟩ := hc
    have hd : decode mt.2.1 pc = .ok (.areturn, pc + 1 - pc) := hd
    rw [Nat.add_sub_cancel_left] at hd
    obtain ⟨z1, z2, z3, z4, z5, z6, z7⟩ := id hz
    unfold rn_stp at h
    dsimp only at h
    split at h
    · rename_i r
      obtain ⟨x, stk1, rfl, hx, hs1⟩ := rn_vs_c hs
      have e0 : stk1 = [] := by
        cases stk1 with
        | nil => rfl
        | cons _ _ => exact hs1.elim
      subst e0
      refine E (some (.inr (.inl (some r)))) M ad tys ws H locs cells slots pc ls _ h rn_xt_rf (fun _ => rfl) ⟨hd, hk, x, rfl, hx, ?_⟩ z1 z4 z5 z6
      cases r with
      | none => exact Or.inl hx
      | some q => exact Or.inr ⟨_, hx.2⟩
    · exact h.elim
  case return_ =>
    have hc : (decide (nx = pc + 1) && decide (rn_rk mt.2.2.2.1 = 5)) = true := hc
    rw [Bool.and_eq_true, decide_eq_true_eq, decide_eq_true_eq] at hc
    obtain ⟨rfl, hk⟩ := hc
    have hd : decode mt.2.1 pc = .ok (.return_, pc + 1 - pc) := hd
    rw [Nat.add_sub_cancel_left] at hd
    obtain ⟨z1, z2, z3, z4, z5, z6, z7⟩ := id hz
    unfold rn_stp at h
    dsimp only at h
    split at h
    · have e0 : stk = [] := by
        cases stk with
        | nil => rfl
        | cons _ _ => exact hs.elim
      subst e0
      exact E none M ad tys ws H locs cells slots pc ls _ h rn_xt_rf (fun _ => rfl) ⟨hd, hk, rfl⟩ z1 z4 z5 z6
    · exact h.elim
  all_goals exact h.elim
