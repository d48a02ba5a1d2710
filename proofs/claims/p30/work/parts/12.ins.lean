section RNI
variable {l : Launch} {D : va_G} {A : Nat → Prop} {p : Program} {e : Env} {R : Room} {s : State} {m : MethodId} {args : Array Value} {below : List Frame} {meth : Method} {c : Code} {H : Heap} {locs : List Loc} {cells slots : Nat} {QQ : State → Prop} {ls : Array Slot} {stk : List Value} {ad : Nat → Nat} {tys : List (ClassId × FieldType)} {ws : va_W} {mt : rn_Mt} {y pc : Nat} {L st : List rn_V} {M : rn_M} {Q : rn_Q}
theorem rn_i_get {idx a b t k cc : Nat} (hm : rn_mt y = some mt) (hd : decode mt.2.1 pc = .ok (.getfield idx, 3)) (hc : rn_chi mt pc (.getfield idx, pc + 3, a, b, t, k, cc, []) = true) (h : rn_stR st fun r t => rn_kd M r = cc ∧ rn_Snd l D A y (pc + 3) L (rn_fv k M r b :: t) M Q)
    (C : rn_Cx A p R s m args meth c mt) (hml : c.maxLocals = L.length) (hl : rn_lr (rn_lg mt) M.1.length ad L ls) (hs : rn_vs M.1.length ad st stk) (hz : rn_Dz D A R s mt ad tys ws M H locs cells slots) (E : rn_Ex l D A p e R s m args below meth c mt QQ ad M Q) : W p l e R s m args below meth c H locs cells slots QQ (F0 m pc ls stk) := by
  obtain ⟨r, t', rfl, hkd, hg⟩ := rn_stR_out h
  obtain ⟨stk', rfl, hr, hs'⟩ := rn_vs_R hs
  obtain ⟨z1, z2, z3, z4, z5, z6, z7⟩ := id hz
  unfold rn_chi at hc
  simp only [Bool.and_eq_true, decide_eq_true_eq] at hc
  obtain ⟨-, hc⟩ := hc
  obtain ⟨⟨⟨⟨rfl, ha⟩, hb⟩, rfl⟩, hw⟩ := hc
  obtain ⟨-, fs, g1, g2, g3⟩ := rn_W_obj z1.2.2.2 hr hkd ha
  obtain ⟨x, g4, g5⟩ := g3 b hb
  refine va_get (D := D) (C := rn_cn a) (T := rn_T a) (N := rn_nf a) (Ts := rn_Wd) C.1 C.2.1 C.2.2.2.1 (fun w hw => List.mem_filter.mpr (rn_cl_in a ha w hw)) C.2.2.1 z1.1 z1.2.1 (r - 8) g1 (rn_cl_at a ha) b hb (C.2.2.2.1 _ (rn_hw_mem hw)) (fun _ h9 => h9) g4 hd ?_
  exact rn_go0 hm hg C hml hl ⟨g5, hs'⟩ hz E
theorem rn_fk_b {a b k : Nat} (hk : k = rn_fk a b) {v : rn_V} : True := trivial
/-- the write of a field, whatever it is -/
theorem rn_i_putW {idx a b t r : Nat} {M1 : rn_M} {t' : List rn_V} {stk' : List Value} {v : Value} (hm : rn_mt y = some mt) (hd : decode mt.2.1 pc = .ok (.putfield idx, 3)) (ha : a < 11) (hb : b < rn_nf a) (hw : rn_hw t (.fieldLink mt.1.cls idx (rn_T a b).1 (rn_T a b).2.1 (rn_T a b).2.2.1) = true)
    (hfin : (match (rn_T a b).2.2.2 with | true => decide (mt.1.name = "<init>") && decide ((rn_T a b).1 = mt.1.cls) | false => true) = true) (hr : r < M.1.length) (hkd : rn_kd M r = a + 1) (hn : narrow (rn_ty a b) v = v) (hfit : fits (rn_ty a b) v = true)
    (h1 : M1.1 = M.1) (h1b : M1.2.1 = M.2.1) (h2 : ∀ a, a ≠ r → ∀ j, rn_gi M1 a j = rn_gi M a j ∧ rn_gr M1 a j = rn_gr M a j) (h3 : ∀ b', b' ≠ b → rn_fv (rn_fk a b') M1 r b' = rn_fv (rn_fk a b') M r b') (h4 : rn_vr M.1.length ad (rn_fv (rn_fk a b) M1 r b) v)
    (k : rn_Snd l D A y (pc + 3) L t' M1 Q) (C : rn_Cx A p R s m args meth c mt) (hml : c.maxLocals = L.length) (hl : rn_lr (rn_lg mt) M.1.length ad L ls) (hs : rn_vs M.1.length ad t' stk') (hz : rn_Dz D A R s mt ad tys ws M H locs cells slots) (E : rn_Ex l D A p e R s m args below meth c mt QQ ad M Q) : W p l e R s m args below meth c H locs cells slots QQ (F0 m pc ls (v :: .ref (ad r) :: stk')) := by
  obtain ⟨z1, z2, z3, z4, z5, z6, z7⟩ := id hz
  obtain ⟨h8, fs, g1, g2, g3⟩ := rn_W_obj z1.2.2.2 hr hkd ha
  have kk : ∀ (H1 : Heap) (locs1 : List Loc), va_P D rn_cl (ws.set (r - 8) (ad r, .inr (a, fs.set b v))) H1 → va_D A (ws.set (r - 8) (ad r, .inr (a, fs.set b v))) → va_S A s.heap H1 locs1 → W p l e R s m args below meth c H1 locs1 cells slots QQ (F0 m (pc + 3) ls stk') := by
    intro H1 locs1 hP hD hS
    refine rn_go1 hm k C hml hl hs hz h1 h1b (fun q hq => ⟨fun j => (h2 q (by omega) j).1, fun j => (h2 q (by omega) j).2⟩) hP hD hS (rn_Ws_set z1.2.2.2 h8 hr h1 h2 ?_) E
    refine ⟨by unfold rn_kd at hkd ⊢; rw [h1]; exact hkd, ha, by rw [List.length_set]; exact g2, fun b' hb' => ?_⟩
    by_cases e : b = b'
    · subst e
      rw [List.getElem?_set_self (by rw [g2]; exact hb)]
      exact ⟨v, rfl, h4⟩
    · rw [List.getElem?_set_ne e, h3 b' (Ne.symm e)]
      exact g3 b' hb'
  cases hf : (rn_T a b).2.2.2 with
  | false =>
    exact va_put (D := D) (ci := a) (C := rn_cn a) (T := rn_T a) (N := rn_nf a) (Ts := rn_Wd) C.1 C.2.1 C.2.2.2.1 (fun w hw => List.mem_filter.mpr (rn_cl_in a ha w hw)) (rn_ty a) (rn_cl_ty a ha) (rn_cl_nm a ha) C.2.2.1 z1.1 z1.2.1 z1.2.2.1 z4 (r - 8) g1 (rn_cl_at a ha) b hb (C.2.2.2.1 _ (rn_hw_mem hw)) (fun _ h9 => h9) hf (rn_cl_ty a ha b hb) hn hfit (by rw [g2]; exact hb) hd kk
  | true =>
    rw [hf] at hfin
    simp only [Bool.and_eq_true, decide_eq_true_eq] at hfin
    exact va_putF (D := D) (ci := a) (C := rn_cn a) (T := rn_T a) (N := rn_nf a) (Ts := rn_Wd) C.1 C.2.1 C.2.2.2.1 (fun w hw => List.mem_filter.mpr (rn_cl_in a ha w hw)) (rn_ty a) (rn_cl_ty a ha) (rn_cl_nm a ha) C.2.2.1 z1.1 z1.2.1 z1.2.2.1 z4 (r - 8) g1 (rn_cl_at a ha) b hb (C.2.2.2.1 _ (rn_hw_mem hw)) (fun _ h9 => h9) hf (C.2.2.2.2.1 hfin.1) hfin.2 (rn_cl_ty a ha b hb) hn hfit (by rw [g2]; exact hb) hd kk
theorem rn_si_ne {a b k j : Nat} {v : Int} (h : ¬ (b = a ∧ j = k)) : rn_gi (rn_si M a k v) b j = rn_gi M b j := by unfold rn_gi rn_si; simp only [if_neg h]
theorem rn_si_eq {a k : Nat} {v : Int} : rn_gi (rn_si M a k v) a k = v := by simp [rn_gi, rn_si]
theorem rn_si_gr {a b k j : Nat} {v : Int} : rn_gr (rn_si M a k v) b j = rn_gr M b j := rfl
theorem rn_sr_ne {a b k j : Nat} {v : Option Nat} (h : ¬ (b = a ∧ j = k)) : rn_gr (rn_sr M a k v) b j = rn_gr M b j := by unfold rn_gr rn_sr; simp only [if_neg h]
theorem rn_sr_eq {a k : Nat} {v : Option Nat} : rn_gr (rn_sr M a k v) a k = v := by simp [rn_gr, rn_sr]
theorem rn_sr_gi {a b k j : Nat} {v : Option Nat} : rn_gi (rn_sr M a k v) b j = rn_gi M b j := rfl
theorem rn_fv_cong {k r b : Nat} {M1 : rn_M} (h1 : rn_gi M1 r b = rn_gi M r b) (h2 : rn_gr M1 r b = rn_gr M r b) : rn_fv k M1 r b = rn_fv k M r b := by unfold rn_fv; split <;> simp [h1, h2]
theorem rn_i_put {idx a b t k cc : Nat} (hm : rn_mt y = some mt) (hd : decode mt.2.1 pc = .ok (.putfield idx, 3)) (hc : rn_chi mt pc (.putfield idx, pc + 3, a, b, t, k, cc, []) = true) (h : rn_put k st M b fun r M' t => rn_kd M r = cc ∧ rn_Snd l D A y (pc + 3) L t M' Q)
    (C : rn_Cx A p R s m args meth c mt) (hml : c.maxLocals = L.length) (hl : rn_lr (rn_lg mt) M.1.length ad L ls) (hs : rn_vs M.1.length ad st stk) (hz : rn_Dz D A R s mt ad tys ws M H locs cells slots) (E : rn_Ex l D A p e R s m args below meth c mt QQ ad M Q) : W p l e R s m args below meth c H locs cells slots QQ (F0 m pc ls stk) := by
  unfold rn_chi at hc
  simp only [Bool.and_eq_true, decide_eq_true_eq] at hc
  obtain ⟨⟨⟨⟨⟨⟨⟨-, rfl⟩, ha⟩, hb⟩, hk⟩, hw⟩, hty⟩, hfin⟩ := hc
  unfold rn_put at h
  split at h
  · split at h
    · rename_i x r t'
      obtain ⟨hkd, h⟩ := h
      obtain ⟨kx, stk1, rfl, hx, hs1⟩ := rn_vs_I hs
      obtain ⟨stk2, rfl, hr, hs2⟩ := rn_vs_R hs1
      have ety : rn_ty a b = .int := by revert hty; cases rn_ty a b <;> simp
      exact rn_i_putW (M1 := rn_si M r b x) hm hd ha hb hw hfin hr hkd (by rw [ety]; rfl) (by rw [ety]; rfl) rfl rfl (fun q hq j => ⟨rn_si_ne (fun z => hq z.1), rfl⟩) (fun b' hb' => rn_fv_cong (rn_si_ne (fun z => hb' z.2)) rfl) (by rw [← hk]; exact ⟨kx, rfl, by rw [rn_si_eq]; exact hx⟩) h C hml hl hs2 hz E
    · exact h.elim
  · split at h
    · rename_i x r t'
      obtain ⟨hx01, hkd, h⟩ := h
      obtain ⟨kx, stk1, rfl, hx, hs1⟩ := rn_vs_I hs
      obtain ⟨stk2, rfl, hr, hs2⟩ := rn_vs_R hs1
      have ety : rn_ty a b = .boolean := by revert hty; cases rn_ty a b <;> simp
      have ek : kx = 0 ∨ kx = 1 := by
        rcases hx01 with q | q
        · exact Or.inl (Int32.toInt_inj.mp (by rw [hx, q]; rfl))
        · exact Or.inr (Int32.toInt_inj.mp (by rw [hx, q]; rfl))
      exact rn_i_putW (M1 := rn_si M r b x) hm hd ha hb hw hfin hr hkd (by rw [ety]; rcases ek with q | q <;> subst q <;> rfl) (by rw [ety]; rcases ek with q | q <;> subst q <;> rfl) rfl rfl (fun q hq j => ⟨rn_si_ne (fun z => hq z.1), rfl⟩) (fun b' hb' => rn_fv_cong (rn_si_ne (fun z => hb' z.2)) rfl) (by rw [← hk]; exact ⟨kx, rfl, by rw [rn_si_eq]; exact hx⟩) h C hml hl hs2 hz E
    · exact h.elim
  · rename_i hk0 hk1
    split at h
    · rename_i v r t'
      obtain ⟨hkd, h⟩ := h
      obtain ⟨x, stk1, rfl, hx, hs1⟩ := rn_vs_c hs
      obtain ⟨stk2, rfl, hr, hs2⟩ := rn_vs_R hs1
      have e2 : rn_fk a b = 2 ∧ ((∃ n, rn_ty a b = .object n) ∨ ∃ q, rn_ty a b = .array q) := by
        have hk2 : k = 2 := by
          match k, hk0, hk1, hty with
          | 0, h, _, _ => exact (h rfl).elim
          | 1, _, h, _ => exact (h rfl).elim
          | 2, _, _, _ => rfl
          | n + 3, _, _, h => revert h; cases rn_ty a b <;> simp
        rw [← hk, hk2]
        rw [hk2] at hty
        refine ⟨rfl, ?_⟩
        revert hty
        cases rn_ty a b <;> simp
      have hv : x = .null ∨ ∃ q, x = .ref q := by
        cases v with
        | none => exact Or.inl hx
        | some q => exact Or.inr ⟨_, hx.2⟩
      refine rn_i_putW (M1 := rn_sr M r b v) hm hd ha hb hw hfin hr hkd ?_ ?_ rfl rfl (fun q hq j => ⟨rfl, rn_sr_ne (fun z => hq z.1)⟩) (fun b' hb' => rn_fv_cong rfl (rn_sr_ne (fun z => hb' z.2))) ?_ h C hml hl hs2 hz E
      · rcases e2.2 with ⟨n, q⟩ | ⟨n, q⟩ <;> rw [q] <;> rcases hv with q | ⟨z, q⟩ <;> subst q <;> rfl
      · rcases e2.2 with ⟨n, q⟩ | ⟨n, q⟩ <;> rw [q] <;> rcases hv with q | ⟨z, q⟩ <;> subst q <;> rfl
      · rw [e2.1]
        show rn_vr M.1.length ad (.inr (.inl (some (rn_gr (rn_sr M r b v) r b)))) x
        rw [rn_sr_eq]
        exact hx
    · exact h.elim
end RNI
