theorem rn_good {X : List Cond} (h : ∀ w ∈ X, w ∈ rn_Wd) : GoodIn rn_Wd X := fun w hw => rn_Wd_good w (h w hw)
def rn_rm (mz : rn_Mt) : Room := { frames := rn_fr mz, cells := rn_mc mz, slots := rn_ms mz, locals := rn_lw mz }
def rn_ws (mz : rn_Mt) : List Cond := Cond.code mz.1 mz.2.1 mz.2.2.1 mz.2.2.2.1 :: rn_Wd
def rn_Pc (D : va_G) (A : Nat → Prop) (ad : Nat → Nat) (tys : List (ClassId × FieldType)) (ws : va_W) (M : rn_M) (H : Heap) (vals : List Value) : Array Value → State → Prop := fun a U => a = vals.toArray ∧ U.heap = H ∧ rn_W D A tys ws ad M U U.heap ∧ rn_Ev ad M A U U.heap ∧ rn_Ef ad A U U.heap ∧ ∀ q, U.heap.size ≤ q → A q
def rn_rr (n : Nat) (ad : Nat → Nat) (v : Option rn_V) (r : Option Value) : Prop := match v, r with
  | none, none => True
  | some v, some x => rn_vr n ad v x
  | _, _ => False
def rn_Qc (D : va_G) (A : Nat → Prop) (al : Bool) (ad : Nat → Nat) (M : rn_M) (Q : rn_Q) : Array Value → State → Outcome → State → Prop := fun _ st o t =>
  (∃ (v : Option rn_V) (M' : rn_M) (ad' : Nat → Nat) (tys' : List (ClassId × FieldType)) (ws' : va_W) (r : Option Value), Q v M' ∧ o = .returned r ∧ rn_rr M'.1.length ad' v r ∧ rn_xt M M' ad ad' ∧ (al = false → M'.2.1 = M.2.1) ∧ rn_W D A tys' ws' ad' M' t t.heap) ∧ va_F A st t
theorem rn_sl_len {n : Nat} {ad : Nat → Nat} : ∀ {vs : List rn_V} {xs : List Value}, rn_n2 vs = true → rn_vs n ad vs xs → (lg_sl xs).length = xs.length
  | [], [], _, _ => rfl
  | _ :: vs, x :: xs, n2, h => by
    have e : lg_sl (x :: xs) = .val x :: lg_sl xs := by
      show (if x.category = 2 then [Slot.val x, Slot.second] else [Slot.val x]) ++ lg_sl xs = _
      rw [if_neg (by rw [rn_vr_cat h.1 (rn_n2_c n2).1]; decide)]
      rfl
    rw [e, List.length_cons, List.length_cons, rn_sl_len (rn_n2_c n2).2 h.2]
theorem rn_args_mem {n : Nat} {ad : Nat → Nat} : ∀ {vs : List rn_V} {xs : List Value} (k : Nat), rn_n2 vs = true → rn_vs n ad vs xs → ∀ (i : Nat) (v : rn_V), vs[i]? = some v → ∃ x, (k + i, x) ∈ lv_args k xs ∧ rn_vr n ad v x
  | [], [], _, _, _, i, v, h => by simp at h
  | w :: vs, x :: xs, k, n2, h, i, v, hi => by
    have e : lv_args k (x :: xs) = (k, x) :: lv_args (k + 1) xs := by
      show (k, x) :: lv_args (if x.category = 2 then k + 2 else k + 1) xs = _
      rw [if_neg (by rw [rn_vr_cat h.1 (rn_n2_c n2).1]; decide)]
    rw [e]
    cases i with
    | zero =>
      simp only [List.getElem?_cons_zero, Option.some.injEq] at hi
      subst hi
      exact ⟨x, List.mem_cons_self, h.1⟩
    | succ i =>
      rw [List.getElem?_cons_succ] at hi
      obtain ⟨z, h1, h2⟩ := rn_args_mem (k + 1) (rn_n2_c n2).2 h.2 i v hi
      refine ⟨z, List.mem_cons_of_mem _ ?_, h2⟩
      rw [show k + (i + 1) = k + 1 + i by omega]
      exact h1
theorem rn_lr_entry {b : Bool} {n ml : Nat} {ad : Nat → Nat} {as : List rn_V} {vals : List Value} (n2 : rn_n2 as = true) (h : rn_vs n ad as vals) (hl : as.length ≤ ml) : rn_lr b n ad (rn_pad ml as) ((lg_sl vals ++ List.replicate (ml - (lg_sl vals).length) Slot.unset).toArray) := by
  have e1 : (lg_sl vals).length = as.length := by rw [rn_sl_len n2 h, rn_vs_len h]
  have e2 : (rn_pad ml as).length = ml := by unfold rn_pad; simp; omega
  refine ⟨lv_args 0 vals, by rw [e2]; exact lv_entry vals (by omega), fun i v hi hv => ?_, fun _ v hv => ?_⟩
  rotate_left
  · unfold rn_pad at hv
    rcases List.mem_append.mp hv with q | q
    · exact rn_n2_to n2 v q
    · rw [(List.mem_replicate.mp q).2]; rfl
  unfold rn_pad at hi
  rcases Nat.lt_or_ge i as.length with g | g
  · rw [List.getElem?_append_left g] at hi
    obtain ⟨x, h1, h2⟩ := rn_args_mem 0 n2 h i v hi
    rw [Nat.zero_add] at h1
    exact ⟨x, h1, h2⟩
  · rw [List.getElem?_append_right g] at hi
    have := List.mem_of_getElem? hi
    rw [List.mem_replicate] at this
    exact absurd this.2 hv
theorem rn_narrow {ty : FieldType} {k : Int32} (h : rn_rk (some ty) ≤ 3) (hk : rn_okr (rn_rk (some ty)) k.toInt) : narrow ty (.int k) = .int k := by
  cases ty
  case int => rfl
  case boolean =>
    have e : k = 0 ∨ k = 1 := by
      rcases (show k.toInt = 0 ∨ k.toInt = 1 from hk) with q | q
      · exact Or.inl (Int32.toInt_inj.mp q)
      · exact Or.inr (Int32.toInt_inj.mp q)
    rcases e with q | q <;> subst q <;> rfl
  case byte =>
    have e : k = 0 := Int32.toInt_inj.mp (show k.toInt = 0 from hk)
    subst e
    rfl
  case char =>
    obtain ⟨h1, h2⟩ := (show 0 ≤ k.toInt ∧ k.toInt ≤ 65535 from hk)
    obtain ⟨j, hj, rfl⟩ := nI_of (rn_tnn h1)
    rw [nI_toInt hj] at h2
    exact (pk_charN (by omega)).1
  all_goals (exfalso; revert h; simp [rn_rk])
/-- a method's contract out of what the abstract machine says of it -/
theorem rn_met {l : Launch} {D : va_G} {A : Nat → Prop} {z : Nat} {mz : rn_Mt} {as : List rn_V} {M : rn_M} {Q : rn_Q} {ad : Nat → Nat} {tys : List (ClassId × FieldType)} {ws : va_W} {H : Heap} {vals : List Value} (hm : rn_mt z = some mz) (hpl : plainName mz.1.cls = true) (hn2 : rn_n2 as = true) (hla : as.length ≤ mz.2.2.1) (hk : rn_Snd l D A z 0 (rn_pad mz.2.2.1 as) [] M Q) (hv : rn_vs M.1.length ad as vals) (hb : rn_al mz = true → M.2.1 = (rn_mc mz, rn_ms mz)) :
    Met l mz.1 (rn_ws mz) (rn_rm mz) (rn_Pc D A ad tys ws M H vals) (rn_Qc D A (rn_al mz) ad M Q) (rn_mc mz) (rn_ms mz) A := by
  refine Met.ofW (cc := mz.2.1) (maxL := mz.2.2.1) (ret := mz.2.2.2.1) hpl rfl ?_
  intro p e s m args below meth c s₁ B hml hP
  obtain ⟨rfl, hH, hW, hEv, hEf, hA⟩ := hP
  have hts : ∀ w ∈ rn_ws mz, w.before vals.toArray s = true := atoms_spec (ws := rn_ws mz) B.pre
  have hr := B.returns
  have hlocks := B.notSynchronized
  rw [lg_entry_eq]
  have e2 : (rn_pad mz.2.2.1 as).length = mz.2.2.1 := by unfold rn_pad; simp; omega
  refine hk mz hm p e _ s m _ below meth c s.heap [] 0 0 _ _ [] ad tys ws ⟨B.exec, B.bytes, findClass_of_methodNamed B.named, fun w hw => hts w (List.mem_cons_of_mem _ hw), fun q => by rw [← q]; exact (name_of_methodNamed B.named B.method).1, Nat.le_refl _, Nat.le_refl _, hA⟩ (by rw [hml, e2]) (rn_lr_entry hn2 hv hla) trivial ⟨hW, hEv, hEf, va_S.rf, Nat.zero_le _, Nat.zero_le _, fun q => by rw [hb q, Nat.zero_add, Nat.zero_add]; exact ⟨Nat.le_refl _, Nat.le_refl _⟩⟩ ?_
  intro r M' ad' tys' ws' H' locs' cells' slots' pc' ls' stk' hq hx hb2 hR hW' hS' hc1 hc2
  refine W.widen (k := rn_mc mz) (n := rn_ms mz) hc1 hc2 ?_
  have fin : ∀ (rv : Option Value), rn_rr M'.1.length ad' r rv → ∀ t : State, t.heap = H' → s.WarmedH t.vm → rn_Qc D A (rn_al mz) ad M Q vals.toArray s (.returned rv) t := by
    intro rv hrv t ht hw
    exact ⟨⟨r, M', ad', tys', ws', rv, hq, rfl, hrv, hx, hb2, by rw [ht]; exact rn_W_moved hw.alike hW'⟩, hS'.F ht⟩
  match r, hR, fin with
  | none, hR, fin =>
    obtain ⟨hd, hk2, rfl⟩ := hR
    have er : mz.2.2.2.1 = none := by
      revert hk2
      rcases mz.2.2.2.1 with _ | ty
      · intro _; rfl
      · cases ty <;> simp [rn_rk]
    exact W.vret B.exec B.bytes (by rw [hr, er]) (fin none trivial) hS'.2.2 hd hlocks
  | some (.inl x), hR, fin =>
    obtain ⟨hd, hk2, hok, k, rfl, hkx⟩ := hR
    obtain ⟨ty, er⟩ : ∃ ty, mz.2.2.2.1 = some ty := by
      revert hk2
      rcases mz.2.2.2.1 with _ | ty
      · simp [rn_rk]
      · intro _; exact ⟨ty, rfl⟩
    rw [er] at hk2 hok
    exact W.zret (ty := ty) B.exec B.bytes (by rw [hr, er]) (rn_narrow hk2 (by rw [hkx]; exact hok)) (fin (some (.int k)) ⟨k, rfl, hkx⟩) hS'.2.2 hd hlocks
  | some (.inr (.inr g)), hR, fin =>
    obtain ⟨hd, hk2, rfl⟩ := hR
    have er : mz.2.2.2.1 = some .long := by
      revert hk2
      rcases mz.2.2.2.1 with _ | ty
      · simp [rn_rk]
      · cases ty <;> simp [rn_rk]
    exact W.lret B.exec B.bytes (by rw [hr, er]) (fin (some (.long g)) rfl) hS'.2.2 hd hlocks
  | some (.inr (.inl v)), hR, fin =>
    obtain ⟨hd, hk2, zv, rfl, hv2, hn⟩ := hR
    obtain ⟨n, er⟩ : ∃ n, mz.2.2.2.1 = some (.object n) := by
      revert hk2
      rcases mz.2.2.2.1 with _ | ty
      · simp [rn_rk]
      · cases ty <;> simp [rn_rk]
    exact W.aret (rt := .object n) B.exec B.bytes (by rw [hr, er]) (Or.inl ⟨n, rfl⟩) hn (fin (some zv) hv2) hS'.2.2 hd hlocks
theorem rn_Pc_blind {D : va_G} {A : Nat → Prop} {ad : Nat → Nat} {tys : List (ClassId × FieldType)} {ws : va_W} {M : rn_M} {H : Heap} {vals : List Value} : FrameBlind (rn_Pc D A ad tys ws M H vals) := by
  intro a U g mk h
  obtain ⟨h1, h2, h3, h4, h5, h6⟩ := h
  have ha : U.vm.Alike (U.calling g mk a).vm := Vm.Alike.refl U.vm
  exact ⟨h1, h2, rn_W_moved ha h3, rn_Ev_moved ha h4, (show rn_Ef ad A (U.calling g mk a) U.heap from rn_Ef_same (u := U) (U := U.calling g mk a) rfl h5), h6⟩
section RNC
variable {l : Launch} {D : va_G} {A : Nat → Prop} {p : Program} {e : Env} {R : Room} {s : State} {m : MethodId} {args : Array Value} {below : List Frame} {meth : Method} {c : Code} {H : Heap} {locs : List Loc} {cells slots : Nat} {QQ : State → Prop} {ls : Array Slot} {stk : List Value} {ad : Nat → Nat} {tys : List (ClassId × FieldType)} {ws : va_W} {mt : rn_Mt} {y pc : Nat} {L st : List rn_V} {M : rn_M} {Q : rn_Q}
theorem rn_Pc_at {vals : List Value} {Mz : rn_M} (C : rn_Cx A p R s m args meth c mt) (hz : rn_Dz D A R s mt ad tys ws M H locs cells slots) (h1 : Mz.1 = M.1) (h2 : Mz.2.2 = M.2.2) : ∀ U : State, U.heap = H → s.WarmedH U.vm → rn_Pc D A ad tys ws Mz H vals vals.toArray U := by
  intro U hU hW
  obtain ⟨z1, z2, z3, z4, z5, z6, z7⟩ := hz
  have e : Mz = (M.1, Mz.2.1, M.2.2) := by rw [← h1, ← h2]
  rw [e]
  refine ⟨rfl, hU, ?_, ?_, ?_, fun q hq => C.2.2.2.2.2.2.2 q (Nat.le_trans z4.1 (by rw [← hU]; exact hq))⟩
  · rw [hU]; exact rn_W_moved hW.alike z1
  · rw [hU]; exact rn_Ev_moved hW.alike (rn_Ev_kept z2 z4.2.1)
  · rw [hU]; exact rn_Ef_warm hW (rn_Ef_kept z3 z4.2.1)
/-- behind a call -/
theorem rn_after {mc ms x1 x2 : Nat} {al : Bool} {Mz : rn_M} {Qz : rn_Q} {a : Array Value} {t' : List rn_V} {rest : List Value} {g : rn_M → rn_M} (hm : rn_mt y = some mt) (hr : va_Run p l e R s m args below meth c H locs cells slots mc ms (F0 m pc ls stk) rest (rn_Qc D A al ad Mz Qz a) A)
    (hMz : Mz.1 = M.1 ∧ Mz.2.2 = M.2.2) (hg1 : ∀ M', (g M').1 = M'.1 ∧ (g M').2.2 = M'.2.2) (hQz : ∀ v M', Qz v M' → rn_Snd l D A y (pc + 3) L (v.toList ++ t') (g M') Q)
    (hgb : ∀ M', (al = false → M'.2.1 = Mz.2.1) → (rn_al mt = false → (g M').2.1 = M.2.1) ∧ (rn_al mt = true → cells + mc + (g M').2.1.1 ≤ R.cells ∧ slots + ms + (g M').2.1.2 ≤ R.slots)) (hcc : cells + mc ≤ R.cells ∧ slots + ms ≤ R.slots)
    (C : rn_Cx A p R s m args meth c mt) (hml : c.maxLocals = L.length) (hl : rn_lr (rn_lg mt) M.1.length ad L ls) (hs : rn_vs M.1.length ad t' rest) (hz : rn_Dz D A R s mt ad tys ws M H locs cells slots) (E : rn_Ex l D A p e R s m args below meth c mt QQ ad M Q) : W p l e R s m args below meth c H locs cells slots QQ (F0 m pc ls stk) := by
  intro T hT X
  obtain ⟨v, st₀, t, T', Lc, h0, X', hL, e1, e2, ⟨⟨rv, M1, ad1, tys1, ws1, r, hq, hv, hrr, hx, hb, hW1⟩, hz1, hk1⟩, stp⟩ := hr T hT X
  cases hv
  rw [h0] at hz1 hk1
  obtain ⟨z1, z2, z3, z4, z5, z6, z7⟩ := hz
  have hxM : rn_xt M (g M1) ad ad1 := by
    obtain ⟨f1, f2, f3⟩ := hx
    rw [hMz.1] at f1 f2
    refine ⟨by rw [(hg1 M1).1]; exact f1, f2, fun q hq => ?_⟩
    obtain ⟨g1, g2, g3, g4⟩ := f3 q hq
    unfold rn_kd rn_ln rn_gi rn_gr at *
    rw [(hg1 M1).1, (hg1 M1).2]
    rw [hMz.1, hMz.2] at *
    exact ⟨g1, g2, g3, g4⟩
  have h8 : 8 ≤ M.1.length := by have := z1.2.2.2.1; omega
  have eg : g M1 = (M1.1, (g M1).2.1, M1.2.2) := by rw [← (hg1 M1).1, ← (hg1 M1).2]
  have hWg : rn_W D A tys1 ws1 ad1 (g M1) s t.heap := by
    have := rn_W_moved (X'.warmed.alike.symm) (by rw [e2]; exact rn_W_moved (Vm.Alike.refl _) hW1 : rn_W D A tys1 ws1 ad1 M1 (t.setVm T'.vm) t.heap)
    rw [eg]
    exact this
  have hlen : (g M1).1.length = M1.1.length := by rw [(hg1 M1).1]
  have hgb2 := hgb M1 hb
  have hS1 : va_S A s.heap T'.heap (locs ++ Lc) := ⟨Nat.le_trans z4.1 (by rw [e1]; exact hz1), fun q h1 h2 => by rw [e1, hk1 q (Nat.lt_of_lt_of_le h1 z4.1) h2]; exact z4.2.1 q h1 h2, fun q hq => by
    rcases List.mem_append.mp hq with h | h
    · exact z4.2.2 q h
    · exact hL q h⟩
  have hst : rn_vs (g M1).1.length ad1 (rv.toList ++ t') (v.toList ++ rest) := by
    refine rn_vs_app ?_ (rn_vs_ext hxM.1 hxM.2.1 hs)
    rw [hlen]
    match rv, v, hrr with
    | none, none, _ => trivial
    | some _, some _, h => exact ⟨h, trivial⟩
  obtain ⟨t2, a1, b1⟩ := hQz rv M1 hq mt hm p e R s m args below meth c T'.heap (locs ++ Lc) (cells + mc) (slots + ms) QQ ls _ ad1 tys1 ws1 C hml (rn_lr_ext hxM.1 hxM.2.1 hl) hst ⟨by rw [e1]; exact hWg, rn_Ev_xt h8 hxM z2, rn_Ef_xt h8 hxM z3, hS1, hcc.1, hcc.2, hgb2.2⟩ (rn_Ex_xt hxM hgb2.1 E) T' rfl X'
  exact ⟨t2, stp t2 a1, b1⟩
end RNC
