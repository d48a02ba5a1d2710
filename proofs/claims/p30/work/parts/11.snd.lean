/-! soundness: what the abstract machine does, the machine does -/
theorem rn_st1_out {st : List rn_V} {f : Int → List rn_V → Prop} (h : rn_st1 st f) : ∃ x t, st = .inl x :: t ∧ f x t := by
  unfold rn_st1 at h; split at h
  · exact ⟨_, _, rfl, h⟩
  · exact h.elim
theorem rn_sl1_out {st : List rn_V} {f : Int64 → List rn_V → Prop} (h : rn_sl1 st f) : ∃ x t, st = .inr (.inr x) :: t ∧ f x t := by
  unfold rn_sl1 at h; split at h
  · exact ⟨_, _, rfl, h⟩
  · exact h.elim
theorem rn_sl2_out {st : List rn_V} {f : Int64 → Int64 → List rn_V → Prop} (h : rn_sl2 st f) : ∃ x y t, st = .inr (.inr y) :: .inr (.inr x) :: t ∧ f x y t := by
  unfold rn_sl2 at h; split at h
  · exact ⟨_, _, _, rfl, h⟩
  · exact h.elim
theorem rn_ldL_out {L : List rn_V} {i : Nat} {f : Int64 → Prop} (h : rn_ldL L i f) : ∃ x, L[i]? = some (.inr (.inr x)) ∧ f x := by
  unfold rn_ldL at h; split at h
  · exact ⟨_, by assumption, h⟩
  · exact h.elim
theorem rn_vs_G {n : Nat} {ad : Nat → Nat} {g : Int64} {t : List rn_V} {stk : List Value} (h : rn_vs n ad (.inr (.inr g) :: t) stk) : ∃ (r : List Value), stk = .long g :: r ∧ rn_vs n ad t r := by
  cases stk with
  | nil => exact h.elim
  | cons v r =>
    obtain ⟨rfl, h2⟩ := h
    exact ⟨r, rfl, h2⟩
theorem rn_st2_out {st : List rn_V} {f : Int → Int → List rn_V → Prop} (h : rn_st2 st f) : ∃ x y t, st = .inl y :: .inl x :: t ∧ f x y t := by
  unfold rn_st2 at h; split at h
  · exact ⟨_, _, _, rfl, h⟩
  · exact h.elim
theorem rn_stR_out {st : List rn_V} {f : Nat → List rn_V → Prop} (h : rn_stR st f) : ∃ a t, st = .inr (.inl (some (some a))) :: t ∧ f a t := by
  unfold rn_stR at h; split at h
  · exact ⟨_, _, rfl, h⟩
  · exact h.elim
theorem rn_stA_out {st : List rn_V} {f : Nat → Int → List rn_V → Prop} (h : rn_stA st f) : ∃ a i t, st = .inl i :: .inr (.inl (some (some a))) :: t ∧ f a i t := by
  unfold rn_stA at h; split at h
  · exact ⟨_, _, _, rfl, h⟩
  · exact h.elim
theorem rn_ldI_out {L : List rn_V} {i : Nat} {f : Int → Prop} (h : rn_ldI L i f) : ∃ x, L[i]? = some (.inl x) ∧ f x := by
  unfold rn_ldI at h; split at h
  · exact ⟨_, by assumption, h⟩
  · exact h.elim
theorem rn_ldR_out {L : List rn_V} {i : Nat} {f : Option Nat → Prop} (h : rn_ldR L i f) : ∃ x, L[i]? = some (.inr (.inl (some x))) ∧ f x := by
  unfold rn_ldR at h; split at h
  · exact ⟨_, by assumption, h⟩
  · exact h.elim
theorem rn_g_out {b : Bool} {P : Prop} (h : rn_g b P) : b = true ∧ P := by cases b; exact h.elim; exact ⟨rfl, h⟩
theorem rn_vs_I {n : Nat} {ad : Nat → Nat} {x : Int} {t : List rn_V} {stk : List Value} (h : rn_vs n ad (.inl x :: t) stk) : ∃ (k : Int32) (r : List Value), stk = .int k :: r ∧ k.toInt = x ∧ rn_vs n ad t r := by
  cases stk with
  | nil => exact h.elim
  | cons v r =>
    obtain ⟨⟨k, rfl, hk⟩, h2⟩ := h
    exact ⟨k, r, rfl, hk, h2⟩
theorem rn_vs_R {n : Nat} {ad : Nat → Nat} {a : Nat} {t : List rn_V} {stk : List Value} (h : rn_vs n ad (.inr (.inl (some (some a))) :: t) stk) : ∃ (r : List Value), stk = .ref (ad a) :: r ∧ a < n ∧ rn_vs n ad t r := by
  cases stk with
  | nil => exact h.elim
  | cons v r =>
    obtain ⟨⟨h1, rfl⟩, h2⟩ := h
    exact ⟨r, rfl, h1, h2⟩
theorem rn_vs_N {n : Nat} {ad : Nat → Nat} {t : List rn_V} {stk : List Value} (h : rn_vs n ad (.inr (.inl (some none)) :: t) stk) : ∃ (r : List Value), stk = .null :: r ∧ rn_vs n ad t r := by
  cases stk with
  | nil => exact h.elim
  | cons v r =>
    obtain ⟨h1, h2⟩ := h
    cases h1
    exact ⟨r, rfl, h2⟩
theorem rn_vs_c {n : Nat} {ad : Nat → Nat} {v : rn_V} {t : List rn_V} {stk : List Value} (h : rn_vs n ad (v :: t) stk) : ∃ (x : Value) (r : List Value), stk = x :: r ∧ rn_vr n ad v x ∧ rn_vs n ad t r := by
  cases stk with
  | nil => exact h.elim
  | cons x r => exact ⟨x, r, rfl, h.1, h.2⟩
theorem rn_i0 {k : Int32} : (k = 0) = (k.toInt = 0) := propext ⟨fun h => by rw [h]; rfl, fun h => Int32.toInt_inj.mp h⟩
theorem rn_ie {k j : Int32} : (k = j) = (k.toInt = j.toInt) := propext ⟨fun h => by rw [h], fun h => Int32.toInt_inj.mp h⟩
theorem rn_il {k j : Int32} : (k < j) = (k.toInt < j.toInt) := propext Int32.lt_iff_toInt_lt
theorem rn_ile {k j : Int32} : (k ≤ j) = (k.toInt ≤ j.toInt) := propext Int32.le_iff_toInt_le
theorem rn_wr_wr (x n : Int) : rn_wr (x + rn_wr n) = rn_wr (x + n) := by unfold rn_wr; omega
theorem rn_wr_id {x : Int} (h : -2147483648 ≤ x) (h2 : x ≤ 2147483647) : rn_wr x = x := by unfold rn_wr; omega
def rn_Cx (A : Nat → Prop) (p : Program) (R : Room) (s : State) (m : MethodId) (args : Array Value) (meth : Method) (c : Code) (mt : rn_Mt) : Prop :=
  p.tables.exec = Jvm.exec ∧ c.code = mt.2.1 ∧ s.vm.findClass mt.1.cls = some m.cls ∧ (∀ w ∈ rn_Wd, w.before args s = true) ∧ (mt.1.name = "<init>" → meth.name = "<init>") ∧ rn_fr mt ≤ R.frames ∧ rn_lw mt ≤ R.locals ∧ ∀ q, s.heap.size ≤ q → A q
def rn_Dz (D : va_G) (A : Nat → Prop) (R : Room) (s : State) (mt : rn_Mt) (ad : Nat → Nat) (tys : List (ClassId × FieldType)) (ws : va_W) (M : rn_M) (H : Heap) (locs : List Loc) (cells slots : Nat) : Prop :=
  rn_W D A tys ws ad M s H ∧ rn_Ev ad M A s s.heap ∧ rn_Ef ad A s s.heap ∧ va_S A s.heap H locs ∧ cells ≤ R.cells ∧ slots ≤ R.slots ∧ (rn_al mt = true → cells + M.2.1.1 ≤ R.cells ∧ slots + M.2.1.2 ≤ R.slots)
def rn_Rt (mt : rn_Mt) (r : Option rn_V) (pc n : Nat) (ad : Nat → Nat) (stk : List Value) : Prop := match r with
  | none => decode mt.2.1 pc = .ok (.return_, 1) ∧ rn_rk mt.2.2.2.1 = 5 ∧ stk = []
  | some (.inl x) => decode mt.2.1 pc = .ok (.ireturn, 1) ∧ rn_rk mt.2.2.2.1 ≤ 3 ∧ rn_okr (rn_rk mt.2.2.2.1) x ∧ ∃ k : Int32, stk = [.int k] ∧ k.toInt = x
  | some (.inr (.inr g)) => decode mt.2.1 pc = .ok (.lreturn, 1) ∧ rn_rk mt.2.2.2.1 = 6 ∧ stk = [.long g]
  | some (.inr (.inl v)) => decode mt.2.1 pc = .ok (.areturn, 1) ∧ rn_rk mt.2.2.2.1 = 4 ∧ ∃ z, stk = [z] ∧ rn_vr n ad (.inr (.inl v)) z ∧ (z = .null ∨ ∃ a, z = .ref a)
def rn_Ex (l : Launch) (D : va_G) (A : Nat → Prop) (p : Program) (e : Env) (R : Room) (s : State) (m : MethodId) (args : Array Value) (below : List Frame) (meth : Method) (c : Code) (mt : rn_Mt) (QQ : State → Prop) (ad : Nat → Nat) (M : rn_M) (Q : rn_Q) : Prop :=
  ∀ (r : Option rn_V) (M' : rn_M) (ad' : Nat → Nat) (tys' : List (ClassId × FieldType)) (ws' : va_W) (H' : Heap) (locs' : List Loc) (cells' slots' pc' : Nat) (ls' : Array Slot) (stk' : List Value), Q r M' → rn_xt M M' ad ad' → (rn_al mt = false → M'.2.1 = M.2.1) → rn_Rt mt r pc' M'.1.length ad' stk' → rn_W D A tys' ws' ad' M' s H' → va_S A s.heap H' locs' → cells' ≤ R.cells → slots' ≤ R.slots → W p l e R s m args below meth c H' locs' cells' slots' QQ (F0 m pc' ls' stk')
def rn_Snd (l : Launch) (D : va_G) (A : Nat → Prop) : rn_X := fun y pc L st M Q => ∀ (mt : rn_Mt), rn_mt y = some mt → ∀ (p : Program) (e : Env) (R : Room) (s : State) (m : MethodId) (args : Array Value) (below : List Frame) (meth : Method) (c : Code) (H : Heap) (locs : List Loc) (cells slots : Nat) (QQ : State → Prop) (ls : Array Slot) (stk : List Value) (ad : Nat → Nat) (tys : List (ClassId × FieldType)) (ws : va_W),
  rn_Cx A p R s m args meth c mt → c.maxLocals = L.length → rn_lr (rn_lg mt) M.1.length ad L ls → rn_vs M.1.length ad st stk → rn_Dz D A R s mt ad tys ws M H locs cells slots → rn_Ex l D A p e R s m args below meth c mt QQ ad M Q → W p l e R s m args below meth c H locs cells slots QQ (F0 m pc ls stk)
theorem rn_Snd_mon {l : Launch} {D : va_G} {A : Nat → Prop} : rn_mon (rn_Snd l D A) := by
  intro y pc L st M Q Q' hQ h mt hm p e R s m args below meth c H locs cells slots QQ ls stk ad tys ws C hml hl hs hz E
  exact h mt hm p e R s m args below meth c H locs cells slots QQ ls stk ad tys ws C hml hl hs hz (fun r M' ad' tys' ws' H' locs' cells' slots' pc' ls' stk' hq => E r M' ad' tys' ws' H' locs' cells' slots' pc' ls' stk' (hQ _ _ hq))
section RNS
variable {l : Launch} {D : va_G} {A : Nat → Prop} {p : Program} {e : Env} {R : Room} {s : State} {m : MethodId} {args : Array Value} {below : List Frame} {meth : Method} {c : Code} {H : Heap} {locs : List Loc} {cells slots : Nat} {QQ : State → Prop} {ls : Array Slot} {stk : List Value} {ad : Nat → Nat} {tys : List (ClassId × FieldType)} {ws : va_W} {mt : rn_Mt} {y pc : Nat} {L st : List rn_V} {M : rn_M} {Q : rn_Q}
theorem rn_Ex_xt {M1 : rn_M} {ad1 : Nat → Nat} (hx : rn_xt M M1 ad ad1) (hb : rn_al mt = false → M1.2.1 = M.2.1) (E : rn_Ex l D A p e R s m args below meth c mt QQ ad M Q) : rn_Ex l D A p e R s m args below meth c mt QQ ad1 M1 Q :=
  fun r M' ad' tys' ws' H' locs' cells' slots' pc' ls' stk' hq hx2 hb2 => E r M' ad' tys' ws' H' locs' cells' slots' pc' ls' stk' hq (rn_xt_tr hx hx2) (fun q => (hb2 q).trans (hb q))
theorem rn_go0 {pc' : Nat} {L' st' : List rn_V} {ls' : Array Slot} {stk' : List Value} (hm : rn_mt y = some mt) (k : rn_Snd l D A y pc' L' st' M Q) (C : rn_Cx A p R s m args meth c mt) (hml : c.maxLocals = L'.length) (hl : rn_lr (rn_lg mt) M.1.length ad L' ls') (hs : rn_vs M.1.length ad st' stk') (hz : rn_Dz D A R s mt ad tys ws M H locs cells slots) (E : rn_Ex l D A p e R s m args below meth c mt QQ ad M Q) :
    W p l e R s m args below meth c H locs cells slots QQ (F0 m pc' ls' stk') := k mt hm p e R s m args below meth c H locs cells slots QQ ls' stk' ad tys ws C hml hl hs hz E
/-- on with another memory of the same shape and room -/
theorem rn_go1 {pc' : Nat} {st' : List rn_V} {stk' : List Value} {M1 : rn_M} {ws1 : va_W} {H1 : Heap} {locs1 : List Loc} (hm : rn_mt y = some mt) (k : rn_Snd l D A y pc' L st' M1 Q) (C : rn_Cx A p R s m args meth c mt) (hml : c.maxLocals = L.length) (hl : rn_lr (rn_lg mt) M.1.length ad L ls) (hs : rn_vs M.1.length ad st' stk') (hz : rn_Dz D A R s mt ad tys ws M H locs cells slots)
    (h1 : M1.1 = M.1) (h2 : M1.2.1 = M.2.1) (h3 : ∀ a, a < 8 → (∀ j, rn_gi M1 a j = rn_gi M a j) ∧ ∀ j, rn_gr M1 a j = rn_gr M a j) (hP : va_P D rn_cl ws1 H1) (hD : va_D A ws1) (hS : va_S A s.heap H1 locs1) (hW : rn_Ws tys ad M1 ws1) (E : rn_Ex l D A p e R s m args below meth c mt QQ ad M Q) :
    W p l e R s m args below meth c H1 locs1 cells slots QQ (F0 m pc' ls stk') := by
  obtain ⟨z1, z2, z3, z4, z5, z6, z7⟩ := hz
  have hx : rn_xt M M1 ad ad := ⟨by rw [h1]; exact Nat.le_refl _, fun _ _ => rfl, fun a ha => ⟨by unfold rn_kd; rw [h1], by unfold rn_ln; rw [h1], (h3 a ha).1, (h3 a ha).2⟩⟩
  have h8 : 8 ≤ M.1.length := by have := z1.2.2.2.1; omega
  refine k mt hm p e R s m args below meth c H1 locs1 cells slots QQ ls stk' ad tys ws1 C hml (by rw [h1]; exact hl) (by rw [h1]; exact hs) ⟨⟨z1.1, hP, hD, hW⟩, rn_Ev_xt h8 hx z2, z3, hS, z5, z6, by rw [h2]; exact z7⟩ (rn_Ex_xt hx (fun _ => h2) E)
/-- on with a new cell -/
theorem rn_go2 {pc' k0 n0 q : Nat} {st' : List rn_V} {stk' : List Value} {tys1 : List (ClassId × FieldType)} {el : va_E} {H1 : Heap} {locs1 : List Loc} (hm : rn_mt y = some mt) (k : rn_Snd l D A y pc' L (rn_R M.1.length :: st') (rn_nw M k0 n0) Q) (C : rn_Cx A p R s m args meth c mt) (hml : c.maxLocals = L.length) (hl : rn_lr (rn_lg mt) M.1.length ad L ls) (hs : rn_vs M.1.length ad st' stk') (hz : rn_Dz D A R s mt ad tys ws M H locs cells slots)
    (hal : rn_al mt = true) (hb1 : 1 ≤ M.2.1.1) (hb2 : n0 ≤ M.2.1.2) (hK : va_K D rn_cl tys1 s) (hP : va_P D rn_cl (ws ++ [(q, el)]) H1) (hD : va_D A (ws ++ [(q, el)])) (hS : va_S A s.heap H1 locs1) (ht : ∀ (t : Nat) (q : ClassId × FieldType), tys[t]? = some q → ∃ t2 : Nat, tys1[t2]? = some q)
    (hel : rn_el tys1 (M.1.length + 1) (rn_ad ad M.1.length q) (rn_nw M k0 n0) M.1.length el) (E : rn_Ex l D A p e R s m args below meth c mt QQ ad M Q) :
    W p l e R s m args below meth c H1 locs1 (cells + 1) (slots + n0) QQ (F0 m pc' ls (.ref q :: stk')) := by
  obtain ⟨z1, z2, z3, z4, z5, z6, z7⟩ := hz
  have h8 : 8 ≤ M.1.length := by have := z1.2.2.2.1; omega
  have hx : rn_xt M (rn_nw M k0 n0) ad (rn_ad ad M.1.length q) := rn_nw_xt h8
  have hb := z7 hal
  have e1 : (rn_nw M k0 n0).2.1.1 = M.2.1.1 - 1 := rfl
  have e2 : (rn_nw M k0 n0).2.1.2 = M.2.1.2 - n0 := rfl
  refine k mt hm p e R s m args below meth c H1 locs1 (cells + 1) (slots + n0) QQ ls _ (rn_ad ad M.1.length q) tys1 (ws ++ [(q, el)]) C hml (rn_lr_ext hx.1 hx.2.1 hl) ⟨⟨by rw [rn_nw_len]; omega, by rw [rn_ad_n]⟩, rn_vs_ext hx.1 hx.2.1 hs⟩ ⟨⟨hK, hP, hD, rn_Ws_app z1.2.2.2 ht hel⟩, rn_Ev_xt h8 hx z2, rn_Ef_xt h8 hx z3, hS, by omega, by omega, fun _ => ⟨by rw [e1]; omega, by rw [e2]; omega⟩⟩ (rn_Ex_xt hx (fun q => by rw [hal] at q; cases q) E)
end RNS
