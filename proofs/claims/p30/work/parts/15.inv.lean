theorem rn_mcs_eq {z : Nat} {mz : rn_Mt} (h : rn_mt z = some mz) : rn_mcs z = (rn_mc mz, rn_ms mz) := by unfold rn_mcs; rw [h]; rfl
theorem rn_ml_eq {z : Nat} {mz : rn_Mt} (h : rn_mt z = some mz) : rn_ml z = mz.2.2.1 := by unfold rn_ml; rw [h]
theorem rn_chc_out {mt : rn_Mt} {kd z b k t idx : Nat} {nst : Bool} (h : rn_chc mt kd z b k nst t idx = true) : ∃ (mz : rn_Mt) (pc pd : Nat), rn_mt z = some mz ∧ Cond.code mz.1 mz.2.1 mz.2.2.1 mz.2.2.2.1 ∈ rn_Wd ∧ Cond.initialized mz.1.cls ∈ rn_Wd ∧
    (match (generalizing := false) kd with
      | 0 => rn_hw pc (.instanceMethod mz.1) && rn_hw pd (.selects mz.1.cls mz.1 mz.1)
      | 1 => rn_hw pc (.static mz.1)
      | _ => rn_hw pc (.instanceMethod mz.1) && decide (mz.1.name = "<init>") && decide (mz.2.2.2.1 = none)) = true ∧
    (match (generalizing := false) nst with | true => rn_hn t (.methodLinkNest mt.1.cls idx mz.1 "RiverNames") | false => rn_hw t (.methodLink mt.1.cls idx mz.1)) = true ∧
    (mz.1.cls ≠ "java/lang/invoke/MethodHandle" ∧ mz.1.cls ≠ "java/lang/invoke/VarHandle") ∧ (parseMethodDescriptor mz.1.desc).map (fun d => d.parameters.length) = some (match (generalizing := false) kd with | 1 => b | _ => b - 1) ∧ (1 ≤ b ∨ kd = 1) ∧
    rn_fr mz + 1 ≤ rn_fr mt ∧ 8 + (mz.2.2.1 + 11) + rn_lw mz ≤ rn_lw mt ∧ (match (generalizing := false) k with | 4 => rn_al mt | _ => decide (rn_al mz = false) && decide (rn_mc mz = 0) && decide (rn_ms mz = 0)) = true ∧ plainName mz.1.cls = true ∧ b ≤ mz.2.2.1 := by
  unfold rn_chc at h
  split at h
  · rename_i mz kz pa pb pc pd h1 h2
    rw [Bool.and_eq_true, Bool.and_eq_true, Bool.and_eq_true, Bool.and_eq_true, Bool.and_eq_true, Bool.and_eq_true, Bool.and_eq_true, Bool.and_eq_true, Bool.and_eq_true, Bool.and_eq_true, Bool.and_eq_true, Bool.and_eq_true] at h
    obtain ⟨⟨⟨⟨⟨⟨⟨⟨⟨⟨⟨⟨g0, g1⟩, g2⟩, g3⟩, g4⟩, g5⟩, g6⟩, g7⟩, g8⟩, g9⟩, g10⟩, g11⟩, g12⟩ := h
    rw [decide_eq_true_eq] at g0 g6 g7 g8 g9 g12
    unfold rn_plain at g5
    rw [Bool.and_eq_true, decide_eq_true_eq, decide_eq_true_eq] at g5
    rw [Bool.or_eq_true] at g1
    exact ⟨mz, pc, pd, h1, g1.elim (fun q => rn_big_in h1 q) rn_hw_mem, rn_hw_mem g2, g3, g4, g5, g6, g7, g8, g9, g10, g11, g12⟩
  · cases h
section RNV
variable {l : Launch} {D : va_G} {A : Nat → Prop} {p : Program} {e : Env} {R : Room} {s : State} {m : MethodId} {args : Array Value} {below : List Frame} {meth : Method} {c : Code} {H : Heap} {locs : List Loc} {cells slots : Nat} {QQ : State → Prop} {ls : Array Slot} {stk : List Value} {ad : Nat → Nat} {tys : List (ClassId × FieldType)} {ws : va_W} {mt : rn_Mt} {y pc : Nat} {L st : List rn_V} {M : rn_M} {Q : rn_Q}
theorem rn_cal_go {z k : Nat} {mz : rn_Mt} {as : List rn_V} {vals rest : List Value} {t' : List rn_V} (hm : rn_mt y = some mt) (hmz : rn_mt z = some mz) (hpl : plainName mz.1.cls = true) (hn2 : rn_n2 as = true) (hla : as.length ≤ mz.2.2.1)
    (hkal : (match k with | 4 => rn_al mt | _ => decide (rn_al mz = false) && decide (rn_mc mz = 0) && decide (rn_ms mz = 0)) = true)
    (hcal : rn_cal k z (rn_mcs z).1 (rn_mcs z).2 as M (fun z as M' Q' => rn_Snd l D A z 0 (rn_pad (rn_ml z) as) [] M' Q') fun v M' => rn_Snd l D A y (pc + 3) L (v.toList ++ t') M' Q) (hvals : rn_vs M.1.length ad as vals)
    (hrun : ∀ (Pc : Array Value → State → Prop) (Qc : Array Value → State → Outcome → State → Prop) (free : Addr → Prop), Met l mz.1 (rn_ws mz) (rn_rm mz) Pc Qc (rn_mc mz) (rn_ms mz) free → FrameBlind Pc → (∀ U : State, U.heap = H → s.WarmedH U.vm → Pc vals.toArray U) → (cells + rn_mc mz ≤ R.cells ∧ slots + rn_ms mz ≤ R.slots) → va_Run p l e R s m args below meth c H locs cells slots (rn_mc mz) (rn_ms mz) (F0 m pc ls stk) rest (Qc vals.toArray) free)
    (C : rn_Cx A p R s m args meth c mt) (hml : c.maxLocals = L.length) (hl : rn_lr (rn_lg mt) M.1.length ad L ls) (hs : rn_vs M.1.length ad t' rest) (hz : rn_Dz D A R s mt ad tys ws M H locs cells slots) (E : rn_Ex l D A p e R s m args below meth c mt QQ ad M Q) : W p l e R s m args below meth c H locs cells slots QQ (F0 m pc ls stk) := by
  rw [rn_mcs_eq hmz] at hcal
  obtain ⟨z1, z2, z3, z4, z5, z6, z7⟩ := id hz
  by_cases hk4 : k = 4
  · subst hk4
    obtain ⟨hb1, hb2, hC⟩ := hcal
    rw [rn_ml_eq hmz] at hC
    have hal : rn_al mt = true := hkal
    have hz7 := z7 hal
    have hb1' : rn_mc mz ≤ M.2.1.1 := hb1
    have hb2' : rn_ms mz ≤ M.2.1.2 := hb2
    refine rn_after (M := M) (x1 := 0) (x2 := 0) (al := rn_al mz) (Mz := rn_sb M (rn_mc mz) (rn_ms mz)) (g := fun M' => rn_sb M' (M.2.1.1 - rn_mc mz) (M.2.1.2 - rn_ms mz)) (t' := t') hm (hrun _ _ _ (rn_met (ad := ad) (tys := tys) (ws := ws) (H := H) hmz hpl hn2 hla hC hvals (fun _ => rfl)) rn_Pc_blind (rn_Pc_at C hz rfl rfl) ⟨by omega, by omega⟩) ⟨rfl, rfl⟩ (fun _ => ⟨rfl, rfl⟩) (fun _ _ q => q) (fun M' _ => ⟨fun q => (by rw [hal] at q; cases q), fun _ => ⟨?_, ?_⟩⟩) ⟨by omega, by omega⟩ C hml hl hs hz E
    · show cells + rn_mc mz + (M.2.1.1 - rn_mc mz) ≤ R.cells
      omega
    · show slots + rn_ms mz + (M.2.1.2 - rn_ms mz) ≤ R.slots
      omega
  · have hkal : (decide (rn_al mz = false) && decide (rn_mc mz = 0) && decide (rn_ms mz = 0)) = true := by
      revert hkal
      split
      · exact absurd rfl hk4
      · exact id
    simp only [Bool.and_eq_true, decide_eq_true_eq] at hkal
    obtain ⟨⟨q1, q2⟩, q3⟩ := hkal
    have hC : rn_Snd l D A z 0 (rn_pad (rn_ml z) as) [] M (fun v M' => rn_Snd l D A y (pc + 3) L (v.toList ++ t') M' Q) := by
      revert hcal
      unfold rn_cal
      split
      · exact absurd rfl hk4
      · exact id
    rw [rn_ml_eq hmz] at hC
    refine rn_after (M := M) (x1 := 0) (x2 := 0) (al := rn_al mz) (Mz := M) (g := fun M' => M') (t' := t') hm (hrun _ _ _ (rn_met (ad := ad) (tys := tys) (ws := ws) (H := H) hmz hpl hn2 hla hC hvals (fun q => by rw [q1] at q; cases q)) rn_Pc_blind (rn_Pc_at C hz rfl rfl) ⟨by omega, by omega⟩) ⟨rfl, rfl⟩ (fun _ => ⟨rfl, rfl⟩) (fun _ _ q => q) (fun M' hb => ⟨fun _ => hb q1, fun q => ?_⟩) ⟨by omega, by omega⟩ C hml hl hs hz E
    rw [hb q1]
    have := z7 q
    omega
theorem rn_stk_split {n b : Nat} {ad : Nat → Nat} (hs : rn_vs n ad st stk) (hb : b ≤ st.length) : rn_vs n ad (st.take b).reverse (stk.take b).reverse ∧ rn_vs n ad (st.drop b) (stk.drop b) ∧ stk = (stk.take b).reverse.reverse ++ stk.drop b ∧ (stk.take b).reverse.length = b ∧ (st.take b).reverse.length = b := by
  have h1 := rn_vs_take b hs
  have h2 := rn_vs_len hs
  refine ⟨rn_vs_rev h1.1, h1.2, by rw [List.reverse_reverse, List.take_append_drop], ?_, ?_⟩ <;> simp <;> omega
theorem rn_i_virt {idx a b t k cc : Nat} (hm : rn_mt y = some mt) (hd : decode mt.2.1 pc = .ok (.invokevirtual idx, 3)) (hcl : (match cc with | 0 => false | c + 1 => decide (c < 11) && (match rn_mt a with | some mz => decide (mz.1.cls = rn_cn c) | none => false)) = true) (hc : rn_chc mt 0 a b k false t idx = true)
    (h : rn_g (Nat.ble b st.length && (Nat.ble (rn_sz (st.drop b)) 8 && rn_n2 (st.take b))) (rn_rcv (st.take b).reverse fun r => rn_kd M r = cc ∧ rn_cal k a (rn_mcs a).1 (rn_mcs a).2 (st.take b).reverse M (fun z as M' Q' => rn_Snd l D A z 0 (rn_pad (rn_ml z) as) [] M' Q') fun v M' => rn_Snd l D A y (pc + 3) L (v.toList ++ st.drop b) M' Q))
    (C : rn_Cx A p R s m args meth c mt) (hml : c.maxLocals = L.length) (hl : rn_lr (rn_lg mt) M.1.length ad L ls) (hs : rn_vs M.1.length ad st stk) (hz : rn_Dz D A R s mt ad tys ws M H locs cells slots) (E : rn_Ex l D A p e R s m args below meth c mt QQ ad M Q) : W p l e R s m args below meth c H locs cells slots QQ (F0 m pc ls stk) := by
  obtain ⟨hg, h⟩ := rn_g_out h
  rw [Bool.and_eq_true, Bool.and_eq_true] at hg
  have hb : b ≤ st.length := Nat.le_of_ble_eq_true hg.1
  have h8 : rn_sz (st.drop b) ≤ 8 := Nat.le_of_ble_eq_true hg.2.1
  have hn0 : rn_n2 (st.take b).reverse = true := rn_n2_rev hg.2.2
  obtain ⟨hv1, hv2, hst, hn1, hn2⟩ := rn_stk_split hs hb
  obtain ⟨mz, pc', pd', hmz, w1, w2, w3, w4, w5, w6, w7, w8, w9, w10, w11, w12⟩ := rn_chc_out hc
  obtain ⟨z1, z2, z3, z4, z5, z6, z7⟩ := id hz
  generalize (st.take b).reverse = as at h hv1 hn2 hn0
  generalize (stk.take b).reverse = vals at hv1 hst hn1
  unfold rn_rcv at h
  split at h
  · rename_i r as'
    obtain ⟨hkd, hcal⟩ := h
    obtain ⟨As, rfl, hr, hAs⟩ := rn_vs_R hv1
    have hrec : ∃ cellB : Cell, H[ad r]? = some cellB ∧ cellB.vm.isStatics = false ∧ s.vm.findClass mz.1.cls = some cellB.cls := by
      rw [hmz] at hcl
      cases cc with
      | zero => cases hcl
      | succ ci =>
        have hcl : (decide (ci < 11) && decide (mz.1.cls = rn_cn ci)) = true := hcl
        rw [Bool.and_eq_true, decide_eq_true_eq, decide_eq_true_eq] at hcl
        obtain ⟨f0, fs, f1, f2, f3⟩ := rn_W_obj z1.2.2.2 hr hkd hcl.1
        rw [hcl.2]
        exact va_recv z1.1 z1.2.1 (rn_cl_at ci hcl.1) f1
    have h9 : (match (0 : Nat) with | 1 => b | _ => b - 1) = b - 1 := rfl
    simp only [Bool.and_eq_true] at w3
    have hAl : As.length = b - 1 := by simp at hn1; omega
    have hsum : ((stk.drop b).map fun v => v.category).sum ≤ 8 := by rw [rn_vs_sum hv2]; exact h8
    refine rn_cal_go (vals := .ref (ad r) :: As) (rest := stk.drop b) hm hmz w11 hn0 (by rw [hn2]; exact w12) w10 hcal hv1 (fun Pc Qc free hM hbl hPc hf => ?_) C hml hl hv2 hz E
    exact va_runV (C := mz.1.cls) (n := b - 1) ⟨C.1, C.2.1, hml, C.2.2.1, C.2.2.2.1⟩ hM (cwV (b - 1) C.2.2.2.1 (rn_good (fun w hw => by
        unfold wsV at hw
        rcases List.mem_append.mp hw with q | q
        · simp only [List.mem_cons, List.not_mem_nil, or_false] at q
          rcases q with rfl | rfl | rfl | rfl
          · exact rn_hw_mem w4
          · exact rn_hw_mem w3.1
          · exact rn_hw_mem w3.2
          · exact w2
        · rcases List.mem_cons.mp q with rfl | q
          · exact w1
          · exact q)) rfl rfl rfl ⟨rfl, w5.1, w5.2, w6⟩ ⟨Nat.le_trans w8 C.2.2.2.2.2.1, Nat.le_trans w9 C.2.2.2.2.2.2.1⟩) ⟨hbl, hrec, hPc⟩ rfl hAl (by obtain ⟨lv, hv, -⟩ := hl; exact hv.1) (by show stk = As.reverse ++ Value.ref (ad r) :: stk.drop b; rw [List.reverse_cons, List.append_assoc] at hst; exact hst) (lv_room hsum) hd hf
  · exact h.elim
theorem rn_i_stat {idx a b t k : Nat} {nst : Bool} (hm : rn_mt y = some mt) (hd : decode mt.2.1 pc = .ok (.invokestatic idx, 3)) (hc : rn_chc mt 1 a b k nst t idx = true)
    (h : rn_g (Nat.ble b st.length && (Nat.ble (rn_sz (st.drop b)) 8 && rn_n2 (st.take b))) (rn_cal k a (rn_mcs a).1 (rn_mcs a).2 (st.take b).reverse M (fun z as M' Q' => rn_Snd l D A z 0 (rn_pad (rn_ml z) as) [] M' Q') fun v M' => rn_Snd l D A y (pc + 3) L (v.toList ++ st.drop b) M' Q))
    (C : rn_Cx A p R s m args meth c mt) (hml : c.maxLocals = L.length) (hl : rn_lr (rn_lg mt) M.1.length ad L ls) (hs : rn_vs M.1.length ad st stk) (hz : rn_Dz D A R s mt ad tys ws M H locs cells slots) (E : rn_Ex l D A p e R s m args below meth c mt QQ ad M Q) : W p l e R s m args below meth c H locs cells slots QQ (F0 m pc ls stk) := by
  obtain ⟨hg, hcal⟩ := rn_g_out h
  rw [Bool.and_eq_true, Bool.and_eq_true] at hg
  have hb : b ≤ st.length := Nat.le_of_ble_eq_true hg.1
  have h8 : rn_sz (st.drop b) ≤ 8 := Nat.le_of_ble_eq_true hg.2.1
  have hn0 : rn_n2 (st.take b).reverse = true := rn_n2_rev hg.2.2
  obtain ⟨hv1, hv2, hst, hn1, hn2⟩ := rn_stk_split hs hb
  obtain ⟨mz, pc', pd', hmz, w1, w2, w3, w4, w5, w6, w7, w8, w9, w10, w11, w12⟩ := rn_chc_out hc
  obtain ⟨z1, z2, z3, z4, z5, z6, z7⟩ := id hz
  have hsum : ((stk.drop b).map fun v => v.category).sum ≤ 8 := by rw [rn_vs_sum hv2]; exact h8
  have hw3 : Cond.static mz.1 ∈ rn_Wd := rn_hw_mem w3
  refine rn_cal_go (vals := (stk.take b).reverse) (rest := stk.drop b) hm hmz w11 hn0 (by rw [hn2]; exact w12) w10 hcal hv1 (fun Pc Qc free hM hbl hPc hf => ?_) C hml hl hv2 hz E
  have hR : (rn_rm mz).frames + 1 ≤ R.frames ∧ 8 + (mz.2.2.1 + 11) + (rn_rm mz).locals ≤ R.locals := ⟨Nat.le_trans w8 C.2.2.2.2.2.1, Nat.le_trans w9 C.2.2.2.2.2.2.1⟩
  cases nst with
  | false =>
    exact va_runS (n := b) ⟨C.1, C.2.1, hml, C.2.2.1, C.2.2.2.1⟩ hM (va_cwS b C.2.2.2.1 (rn_good (fun w hw => by
        unfold va_wsS at hw
        rcases List.mem_append.mp hw with q | q
        · simp only [List.mem_cons, List.not_mem_nil, or_false] at q
          rcases q with rfl | rfl | rfl
          · exact rn_hw_mem w4
          · exact hw3
          · exact w2
        · rcases List.mem_cons.mp q with rfl | q
          · exact w1
          · exact q)) rfl rfl rfl ⟨w5.1, w5.2, w6⟩ hR) ⟨hbl, hPc⟩ rfl hn1 (by obtain ⟨lv, hv, -⟩ := hl; exact hv.1) hst (lv_room hsum) hd hf
  | true =>
    exact va_runSN (n := b) ⟨C.1, C.2.1, hml, C.2.2.1, C.2.2.2.1⟩ hM ⟨va_cnB b C.2.2.2.1 (rn_good (fun w hw => by
        rcases List.mem_cons.mp hw with rfl | q
        · exact w1
        · exact q)) rfl rfl rfl (z3.2.2.1 _ (rn_hn_mem w4)) (C.2.2.2.1 _ w2) ⟨w5.1, w5.2, w6⟩ hR, C.2.2.2.1 _ hw3, trivial⟩ ⟨hbl, hPc⟩ rfl hn1 (by obtain ⟨lv, hv, -⟩ := hl; exact hv.1) hst (lv_room hsum) hd hf
theorem rn_i_spec {idx a b t k cc : Nat} {nst : Bool} (hm : rn_mt y = some mt) (hd : decode mt.2.1 pc = .ok (.invokespecial idx, 3)) (hc : rn_chc mt 2 a b k nst t idx = true)
    (h : rn_g (Nat.ble b st.length && (Nat.ble (rn_sz (st.drop b)) 8 && rn_n2 (st.take b))) (rn_rcv (st.take b).reverse fun r => rn_kd M r = cc ∧ rn_cal k a (rn_mcs a).1 (rn_mcs a).2 (st.take b).reverse M (fun z as M' Q' => rn_Snd l D A z 0 (rn_pad (rn_ml z) as) [] M' Q') fun v M' => rn_Snd l D A y (pc + 3) L (v.toList ++ st.drop b) M' Q))
    (C : rn_Cx A p R s m args meth c mt) (hml : c.maxLocals = L.length) (hl : rn_lr (rn_lg mt) M.1.length ad L ls) (hs : rn_vs M.1.length ad st stk) (hz : rn_Dz D A R s mt ad tys ws M H locs cells slots) (E : rn_Ex l D A p e R s m args below meth c mt QQ ad M Q) : W p l e R s m args below meth c H locs cells slots QQ (F0 m pc ls stk) := by
  obtain ⟨hg, h⟩ := rn_g_out h
  rw [Bool.and_eq_true, Bool.and_eq_true] at hg
  have hb : b ≤ st.length := Nat.le_of_ble_eq_true hg.1
  have h8 : rn_sz (st.drop b) ≤ 8 := Nat.le_of_ble_eq_true hg.2.1
  have hn0 : rn_n2 (st.take b).reverse = true := rn_n2_rev hg.2.2
  obtain ⟨hv1, hv2, hst, hn1, hn2⟩ := rn_stk_split hs hb
  obtain ⟨mz, pc', pd', hmz, w1, w2, w3, w4, w5, w6, w7, w8, w9, w10, w11, w12⟩ := rn_chc_out hc
  obtain ⟨z1, z2, z3, z4, z5, z6, z7⟩ := id hz
  generalize (st.take b).reverse = as at h hv1 hn2 hn0
  generalize (stk.take b).reverse = vals at hv1 hst hn1
  unfold rn_rcv at h
  split at h
  · rename_i r as'
    obtain ⟨hkd, hcal⟩ := h
    obtain ⟨As, rfl, hr, hAs⟩ := rn_vs_R hv1
    simp only [Bool.and_eq_true, decide_eq_true_eq] at w3
    obtain ⟨⟨w3a, w3b⟩, w3c⟩ := w3
    have hAl : As.length = b - 1 := by simp at hn1; omega
    have hsum : ((stk.drop b).map fun v => v.category).sum ≤ 8 := by rw [rn_vs_sum hv2]; exact h8
    have hR : (rn_rm mz).frames + 1 ≤ R.frames ∧ 8 + (mz.2.2.1 + 11) + (rn_rm mz).locals ≤ R.locals := ⟨Nat.le_trans w8 C.2.2.2.2.2.1, Nat.le_trans w9 C.2.2.2.2.2.2.1⟩
    have hws : rn_ws mz = Cond.code mz.1 mz.2.1 mz.2.2.1 none :: rn_Wd := by unfold rn_ws; rw [w3c]
    have hgo : GoodIn rn_Wd (rn_ws mz) := rn_good (fun w hw => by
        rcases List.mem_cons.mp hw with rfl | q
        · exact w1
        · exact q)
    have hst2 : stk = As.reverse ++ Value.ref (ad r) :: stk.drop b := by rw [List.reverse_cons, List.append_assoc] at hst; exact hst
    refine rn_cal_go (vals := .ref (ad r) :: As) (rest := stk.drop b) hm hmz w11 hn0 (by rw [hn2]; exact w12) w10 hcal hv1 (fun Pc Qc free hM hbl hPc hf => ?_) C hml hl hv2 hz E
    cases nst with
    | false =>
      exact va_runI (n := b - 1) ⟨C.1, C.2.1, hml, C.2.2.1, C.2.2.2.1⟩ hM (cwI (b - 1) C.2.2.2.1 hgo hws rfl rfl (C.2.2.2.1 _ w2) (C.2.2.2.1 _ (rn_hw_mem w4)) (C.2.2.2.1 _ (rn_hw_mem w3a)) w3b ⟨w5.1, w5.2, w6⟩ hR) ⟨hbl, hPc⟩ rfl hAl (by obtain ⟨lv, hv, -⟩ := hl; exact hv.1) hst2 (lv_room hsum) hd hf
    | true =>
      exact va_runIN (n := b - 1) ⟨C.1, C.2.1, hml, C.2.2.1, C.2.2.2.1⟩ hM ⟨va_cnB (b - 1) C.2.2.2.1 hgo hws rfl rfl (z3.2.2.1 _ (rn_hn_mem w4)) (C.2.2.2.1 _ w2) ⟨w5.1, w5.2, w6⟩ hR, w3b, C.2.2.2.1 _ (rn_hw_mem w3a)⟩ ⟨hbl, hPc⟩ rfl hAl (by obtain ⟨lv, hv, -⟩ := hl; exact hv.1) hst2 (lv_room hsum) hd hf
  · exact h.elim
end RNV
