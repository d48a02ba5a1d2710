/-! the relation between the abstract machine and the machine -/
theorem rn_i32 {x : Int} (h : -2147483648 ≤ x) (h2 : x ≤ 2147483647) : (Int32.ofInt x).toInt = x := Int32.toInt_ofInt_of_le h (by omega)
theorem rn_wr_eq (z : Int) : rn_wr z = z.bmod 4294967296 := by
  rw [Int.bmod_def]
  unfold rn_wr
  omega
theorem rn_ofInt (x : Int) : (Int32.ofInt x).toInt = rn_wr x := by
  rw [rn_wr_eq]; exact Int32.toInt_ofInt
theorem rn_rng (x : Int32) : -2147483648 ≤ x.toInt ∧ x.toInt ≤ 2147483647 := ⟨Int32.le_toInt x, Int32.toInt_le x⟩
theorem rn_back (x : Int32) : Int32.ofInt x.toInt = x := Int32.ofInt_toInt x
theorem rn_add (x y : Int32) : (x + y).toInt = rn_wr (x.toInt + y.toInt) := by rw [rn_wr_eq]; exact Int32.toInt_add x y
theorem rn_sub (x y : Int32) : (x - y).toInt = rn_wr (x.toInt - y.toInt) := by rw [rn_wr_eq]; exact Int32.toInt_sub x y
theorem rn_mul (x y : Int32) : (x * y).toInt = rn_wr (x.toInt * y.toInt) := by rw [rn_wr_eq]; exact Int32.toInt_mul x y
theorem rn_neg (x : Int32) : (0 - x).toInt = rn_wr (-x.toInt) := by
  rw [rn_sub]
  show rn_wr (0 - x.toInt) = _
  rw [Int.zero_sub]
def rn_Wd : List Cond := lw_tbl.filter goodWord
theorem rn_Wd_mem {t : Nat} {w : Cond} (h : lw_tbl[t]? = some w) (hg : goodWord w = true) : w ∈ rn_Wd := List.mem_filter.mpr ⟨List.mem_of_getElem? h, hg⟩
theorem rn_Wd_good : GoodIn rn_Wd rn_Wd := fun w hw => ⟨hw, good_of_word (List.mem_filter.mp hw).2⟩
def rn_isN : Cond → Bool
  | .fieldLinkNest _ _ _ _ _ _ => true
  | .methodLinkNest _ _ _ _ => true
  | _ => false
def rn_nst : List Cond := lw_tbl.filter rn_isN
def rn_vr (n : Nat) (ad : Nat → Nat) (v : rn_V) (x : Value) : Prop := match v with
  | .inl i => ∃ k : Int32, x = .int k ∧ k.toInt = i
  | .inr (.inl none) => x.category = 1
  | .inr (.inl (some none)) => x = .null
  | .inr (.inl (some (some a))) => a < n ∧ x = .ref (ad a)
  | .inr (.inr g) => x = .long g
def rn_ca (v : rn_V) : Nat := match v with | .inr (.inr _) => 2 | _ => 1
theorem rn_vr_ca {n : Nat} {ad : Nat → Nat} {v : rn_V} {x : Value} (h : rn_vr n ad v x) : x.category = rn_ca v := by
  unfold rn_vr at h
  split at h
  · obtain ⟨k, rfl, -⟩ := h; rfl
  · exact h
  · rw [h]; rfl
  · rw [h.2]; rfl
  · rw [h]; rfl
theorem rn_vr_cat {n : Nat} {ad : Nat → Nat} {v : rn_V} {x : Value} (h : rn_vr n ad v x) (hc : rn_ca v = 1) : x.category = 1 := (rn_vr_ca h).trans hc
theorem rn_ca12 (v : rn_V) : rn_ca v = 1 ∨ rn_ca v = 2 := by unfold rn_ca; split <;> simp
theorem rn_sz_c (v : rn_V) (t : List rn_V) : rn_sz (v :: t) = rn_ca v + rn_sz t := by
  unfold rn_ca
  rcases v with x | (r | g) <;> rfl
theorem rn_n2_c {v : rn_V} {t : List rn_V} (h : rn_n2 (v :: t) = true) : rn_ca v = 1 ∧ rn_n2 t = true := by
  rcases v with x | (r | g)
  · exact ⟨rfl, h⟩
  · exact ⟨rfl, h⟩
  · cases h
theorem rn_n2_of : ∀ (t : List rn_V), (∀ v ∈ t, rn_ca v = 1) → rn_n2 t = true
  | [], _ => rfl
  | v :: t, h => by
    have h1 := h v List.mem_cons_self
    have h2 := rn_n2_of t (fun w hw => h w (List.mem_cons_of_mem _ hw))
    rcases v with x | (r | g)
    · exact h2
    · exact h2
    · cases h1
theorem rn_n2_to : ∀ {t : List rn_V}, rn_n2 t = true → ∀ v ∈ t, rn_ca v = 1
  | v :: t, h, w, hw => by
    rcases List.mem_cons.mp hw with e | q
    · rw [e]; exact (rn_n2_c h).1
    · exact rn_n2_to (rn_n2_c h).2 w q
theorem rn_n2_rev {t : List rn_V} (h : rn_n2 t = true) : rn_n2 t.reverse = true := rn_n2_of _ (fun v hv => rn_n2_to h v (List.mem_reverse.mp hv))
theorem rn_vr_ext {n n' : Nat} {ad ad' : Nat → Nat} {v : rn_V} {x : Value} (hn : n ≤ n') (ha : ∀ a, a < n → ad' a = ad a) (h : rn_vr n ad v x) : rn_vr n' ad' v x := by
  unfold rn_vr at h ⊢
  split
  · exact h
  · exact h
  · exact h
  · exact ⟨Nat.lt_of_lt_of_le h.1 hn, by rw [ha _ h.1]; exact h.2⟩
  · exact h
def rn_vs (n : Nat) (ad : Nat → Nat) : List rn_V → List Value → Prop
  | [], [] => True
  | v :: vs, x :: xs => rn_vr n ad v x ∧ rn_vs n ad vs xs
  | _, _ => False
theorem rn_vs_ext {n n' : Nat} {ad ad' : Nat → Nat} (hn : n ≤ n') (ha : ∀ a, a < n → ad' a = ad a) : ∀ {vs : List rn_V} {xs : List Value}, rn_vs n ad vs xs → rn_vs n' ad' vs xs
  | [], [], h => h
  | _ :: _, _ :: _, h => ⟨rn_vr_ext hn ha h.1, rn_vs_ext hn ha h.2⟩
theorem rn_vs_len {n : Nat} {ad : Nat → Nat} : ∀ {vs : List rn_V} {xs : List Value}, rn_vs n ad vs xs → vs.length = xs.length
  | [], [], _ => rfl
  | _ :: _, _ :: _, h => by simp [rn_vs_len h.2]
theorem rn_vs_app {n : Nat} {ad : Nat → Nat} : ∀ {vs ws : List rn_V} {xs ys : List Value}, rn_vs n ad vs xs → rn_vs n ad ws ys → rn_vs n ad (vs ++ ws) (xs ++ ys)
  | [], _, [], _, _, h => h
  | _ :: _, _, _ :: _, _, h1, h => ⟨h1.1, rn_vs_app h1.2 h⟩
theorem rn_vs_rev {n : Nat} {ad : Nat → Nat} : ∀ {vs : List rn_V} {xs : List Value}, rn_vs n ad vs xs → rn_vs n ad vs.reverse xs.reverse
  | [], [], h => h
  | _ :: _, _ :: _, h => by
    rw [List.reverse_cons, List.reverse_cons]
    exact rn_vs_app (rn_vs_rev h.2) ⟨h.1, trivial⟩
theorem rn_vs_take {n : Nat} {ad : Nat → Nat} : ∀ (k : Nat) {vs : List rn_V} {xs : List Value}, rn_vs n ad vs xs → rn_vs n ad (vs.take k) (xs.take k) ∧ rn_vs n ad (vs.drop k) (xs.drop k)
  | 0, _, _, h => ⟨trivial, h⟩
  | _ + 1, [], [], _ => ⟨trivial, trivial⟩
  | k + 1, _ :: _, _ :: _, h => ⟨⟨h.1, (rn_vs_take k h.2).1⟩, (rn_vs_take k h.2).2⟩
theorem rn_vs_sum {n : Nat} {ad : Nat → Nat} : ∀ {vs : List rn_V} {xs : List Value}, rn_vs n ad vs xs → (xs.map fun v => v.category).sum = rn_sz vs
  | [], [], _ => rfl
  | _ :: vs, x :: xs, h => by
    rw [List.map_cons, List.sum_cons, rn_vs_sum h.2, rn_vr_ca h.1, rn_sz_c]
/-- locals -/
def rn_lr (b : Bool) (n : Nat) (ad : Nat → Nat) (L : List rn_V) (ls : Array Slot) : Prop := ∃ lv : List (Nat × Value), lv_has ls L.length lv ∧ (∀ (i : Nat) (v : rn_V), L[i]? = some v → v ≠ rn_J → ∃ x, (i, x) ∈ lv ∧ rn_vr n ad v x) ∧ (b = false → ∀ v ∈ L, rn_ca v = 1)
theorem rn_lr_ext {b : Bool} {n n' : Nat} {ad ad' : Nat → Nat} {L : List rn_V} {ls : Array Slot} (hn : n ≤ n') (ha : ∀ a, a < n → ad' a = ad a) (h : rn_lr b n ad L ls) : rn_lr b n' ad' L ls := by
  obtain ⟨lv, h1, h2, h3⟩ := h
  refine ⟨lv, h1, fun i v hi hv => ?_, h3⟩
  obtain ⟨x, h3, h4⟩ := h2 i v hi hv
  exact ⟨x, h3, rn_vr_ext hn ha h4⟩
theorem rn_lr_get {b : Bool} {n : Nat} {ad : Nat → Nat} {L : List rn_V} {ls : Array Slot} {i : Nat} {v : rn_V} (h : rn_lr b n ad L ls) (hi : L[i]? = some v) (hv : v ≠ rn_J) : ∃ x, ls[i]? = some (.val x) ∧ rn_vr n ad v x := by
  obtain ⟨lv, h1, h2, -⟩ := h
  obtain ⟨x, h3, h4⟩ := h2 i v hi hv
  exact ⟨x, h1.2.2 _ h3, h4⟩
theorem rn_mem_set {L : List rn_V} {i : Nat} {v w : rn_V} (h : w ∈ L.set i v) : w = v ∨ w ∈ L := by
  rcases List.mem_or_eq_of_mem_set h with q | q
  · exact Or.inr q
  · exact Or.inl q
/-- what a write to a local asks -/
theorem rn_lkk_out {k a : Nat} {L : List rn_V} {P : Prop} {b : Bool} (hk : (match k with | 0 => !b | _ => true) = true) (h : rn_lkk k L a P) : (b = false ∨ rn_lnk L a = true) ∧ P := by
  unfold rn_lkk at h
  cases k with
  | zero => exact ⟨Or.inl (by cases b; rfl; cases hk), h⟩
  | succ n => exact ⟨Or.inr h.1, h.2⟩
theorem rn_lnk_at {L : List rn_V} {i j : Nat} {w : rn_V} (h : rn_lnk L i = true) (e : j + 1 = i) (hj : L[j]? = some w) : rn_ca w = 1 := by
  subst e
  unfold rn_lnk at h
  dsimp only at h
  rw [hj] at h
  rcases w with x | (r | g)
  · rfl
  · rfl
  · cases h
theorem rn_lr_set {b : Bool} {n nL : Nat} {ad : Nat → Nat} {L : List rn_V} {ls' : Array Slot} {lv : List (Nat × Value)} {i : Nat} {v : rn_V} {x : Value} (hnl : b = false ∨ rn_lnk L i = true) (hcv : rn_ca v = 1) (h2 : (∀ (i : Nat) (v : rn_V), L[i]? = some v → v ≠ rn_J → ∃ x, (i, x) ∈ lv ∧ rn_vr n ad v x) ∧ (b = false → ∀ v ∈ L, rn_ca v = 1)) (hnL : nL = L.length) (hx : rn_vr n ad v x)
    (h' : lv_has ls' nL ((i, x) :: lv.filter (fun q => !(q.1 == i) && !(q.1 + 1 == i && q.2.category == 2)))) : rn_lr b n ad (L.set i v) ls' := by
  subst hnL
  refine ⟨_, by rw [List.length_set]; exact h', fun j w hj hw => ?_, fun q w hw => (rn_mem_set hw).elim (fun e => by rw [e]; exact hcv) (fun h => h2.2 q w h)⟩
  by_cases e : i = j
  · subst e
    rw [List.getElem?_set_self (by
      rcases Nat.lt_or_ge i L.length with q | q
      · exact q
      · rw [List.getElem?_eq_none (by rw [List.length_set]; exact q)] at hj; cases hj)] at hj
    cases hj
    exact ⟨x, List.mem_cons_self, hx⟩
  · rw [List.getElem?_set_ne e] at hj
    obtain ⟨z, h3, h4⟩ := h2.1 j w hj hw
    refine ⟨z, List.mem_cons_of_mem _ (List.mem_filter.mpr ⟨h3, ?_⟩), h4⟩
    by_cases e2 : j + 1 = i
    · have h5 := rn_vr_cat h4 (hnl.elim (fun q => h2.2 q _ (List.mem_of_getElem? hj)) (fun q => rn_lnk_at q e2 hj))
      simp [h5]
      exact fun q => e q.symm
    · simp [e2]
      exact fun q => e q.symm
theorem rn_lr_set2 {b : Bool} {n nL : Nat} {ad : Nat → Nat} {L : List rn_V} {ls' : Array Slot} {lv : List (Nat × Value)} {i : Nat} {v : rn_V} {x : Value} (hb : b = true) (hnl : b = false ∨ rn_lnk L i = true) (h2 : (∀ (i : Nat) (v : rn_V), L[i]? = some v → v ≠ rn_J → ∃ x, (i, x) ∈ lv ∧ rn_vr n ad v x) ∧ (b = false → ∀ v ∈ L, rn_ca v = 1)) (hnL : nL = L.length) (hx : rn_vr n ad v x)
    (h' : lv_has ls' nL ((i, x) :: lv.filter (fun q => !(q.1 == i) && (!(q.1 == i + 1) && !(q.1 + 1 == i && q.2.category == 2))))) : rn_lr b n ad ((L.set i v).set (i + 1) rn_J) ls' := by
  subst hnL
  refine ⟨_, by rw [List.length_set, List.length_set]; exact h', fun j w hj hw => ?_, fun q => by rw [hb] at q; cases q⟩
  by_cases e1 : i + 1 = j
  · subst e1
    rcases Nat.lt_or_ge (i + 1) (L.set i v).length with q | q
    · rw [List.getElem?_set_self q] at hj
      cases hj
      exact absurd rfl hw
    · rw [List.getElem?_eq_none (by rw [List.length_set]; exact q)] at hj; cases hj
  rw [List.getElem?_set_ne e1] at hj
  by_cases e : i = j
  · subst e
    rw [List.getElem?_set_self (by
      rcases Nat.lt_or_ge i L.length with q | q
      · exact q
      · rw [List.getElem?_eq_none (by rw [List.length_set]; exact q)] at hj; cases hj)] at hj
    cases hj
    exact ⟨x, List.mem_cons_self, hx⟩
  · rw [List.getElem?_set_ne e] at hj
    obtain ⟨z, h3, h4⟩ := h2.1 j w hj hw
    refine ⟨z, List.mem_cons_of_mem _ (List.mem_filter.mpr ⟨h3, ?_⟩), h4⟩
    by_cases e2 : j + 1 = i
    · have h5 := rn_vr_cat h4 (hnl.elim (fun q => h2.2 q _ (List.mem_of_getElem? hj)) (fun q => rn_lnk_at q e2 hj))
      simp [h5]
      exact ⟨fun q => e q.symm, fun q => e1 q.symm⟩
    · simp [e2]
      exact ⟨fun q => e q.symm, fun q => e1 q.symm⟩
/-- a cell of the world -/
def rn_el (tys : List (ClassId × FieldType)) (n : Nat) (ad : Nat → Nat) (M : rn_M) (a : Nat) (el : va_E) : Prop := match el with
  | .inr (ci, fs) => rn_kd M a = ci + 1 ∧ ci < 11 ∧ fs.length = rn_nf ci ∧ ∀ b, b < rn_nf ci → ∃ x, fs[b]? = some x ∧ rn_vr n ad (rn_fv (rn_fk ci b) M a b) x
  | .inl (cA, len, .inl f) => rn_kd M a = 20 ∧ rn_ln M a = len ∧ len ≤ 100000 ∧ (∃ t : Nat, tys[t]? = some (cA, .int)) ∧ ∀ j, j < len → (f j).toInt = rn_gi M a j
  | .inl (cA, len, .inr (.inr (.inr (.inr f)))) => ∃ ci, rn_kd M a = ci + 30 ∧ ci < 11 ∧ rn_ln M a = len ∧ len ≤ 100000 ∧ (∃ t : Nat, tys[t]? = some (cA, .object (rn_cn ci))) ∧ ∀ j, j < len → rn_vr n ad (.inr (.inl (some (rn_gr M a j)))) (va_rf (f j))
  | _ => False
def rn_Ws (tys : List (ClassId × FieldType)) (ad : Nat → Nat) (M : rn_M) (ws : va_W) : Prop :=
  ws.length + 8 = M.1.length ∧ (∀ a, a < 8 → 21 ≤ rn_kd M a ∧ rn_kd M a ≤ 24) ∧ ∀ k, k < ws.length → ∃ el, ws[k]? = some (ad (k + 8), el) ∧ rn_el tys M.1.length ad M (k + 8) el
def rn_W (D : va_G) (A : Nat → Prop) (tys : List (ClassId × FieldType)) (ws : va_W) (ad : Nat → Nat) (M : rn_M) (U : State) (H : Heap) : Prop :=
  va_K D rn_cl tys U ∧ va_P D rn_cl ws H ∧ va_D A ws ∧ rn_Ws tys ad M ws
/-- what was there before -/
def rn_Ev (ad : Nat → Nat) (M : rn_M) (A : Nat → Prop) (U : State) (H : Heap) : Prop := ∀ a, a < 8 →
  (rn_kd M a = 21 → rn_ln M a ≤ 100000 ∧ va_T .int (ad a) (rn_ln M a) (fun j => .int (Int32.ofInt (rn_gi M a j))) A U H ∧ ∀ j, j < rn_ln M a → (Int32.ofInt (rn_gi M a j)).toInt = rn_gi M a j)
/-- what is fixed: statics, texts, links within the nest, classes of arrays -/
def rn_Ef (ad : Nat → Nat) (A : Nat → Prop) (U : State) (H : Heap) : Prop :=
  va_Z "RiverNames" "STEPS_RIGHT" "[I" (.ref (ad 1)) A U H ∧ va_Z "RiverNames" "STEPS_DOWN" "[I" (.ref (ad 2)) A U H ∧ (∀ w ∈ rn_nst, va_Nw w U) ∧ ∀ ci, (ci = 0 ∨ ci = 3 ∨ ci = 5 ∨ ci = 8) → va_AO (rn_cn ci) U
/-- the foreign cells stay, the world grows -/
def rn_xt (M M' : rn_M) (ad ad' : Nat → Nat) : Prop := M.1.length ≤ M'.1.length ∧ (∀ a, a < M.1.length → ad' a = ad a) ∧ ∀ a, a < 8 → rn_kd M' a = rn_kd M a ∧ rn_ln M' a = rn_ln M a ∧ (∀ j, rn_gi M' a j = rn_gi M a j) ∧ ∀ j, rn_gr M' a j = rn_gr M a j
theorem rn_xt_rf {M : rn_M} {ad : Nat → Nat} : rn_xt M M ad ad := ⟨Nat.le_refl _, fun _ _ => rfl, fun _ _ => ⟨rfl, rfl, fun _ => rfl, fun _ => rfl⟩⟩
theorem rn_xt_tr {M M1 M2 : rn_M} {ad ad1 ad2 : Nat → Nat} (h1 : rn_xt M M1 ad ad1) (h2 : rn_xt M1 M2 ad1 ad2) : rn_xt M M2 ad ad2 := by
  refine ⟨Nat.le_trans h1.1 h2.1, fun a ha => ?_, fun a ha => ?_⟩
  · rw [h2.2.1 a (Nat.lt_of_lt_of_le ha h1.1), h1.2.1 a ha]
  · obtain ⟨q1, q2, q3, q4⟩ := h1.2.2 a ha
    obtain ⟨r1, r2, r3, r4⟩ := h2.2.2 a ha
    exact ⟨r1.trans q1, r2.trans q2, fun j => (r3 j).trans (q3 j), fun j => (r4 j).trans (q4 j)⟩
theorem rn_Ev_xt {M M' : rn_M} {ad ad' : Nat → Nat} {A : Nat → Prop} {U : State} {H : Heap} (hn : 8 ≤ M.1.length) (hx : rn_xt M M' ad ad') (h : rn_Ev ad M A U H) : rn_Ev ad' M' A U H := by
  intro a ha
  have h1 := h a ha
  obtain ⟨r1, r2, r3, r4⟩ := hx.2.2 a ha
  have e : ad' a = ad a := hx.2.1 a (Nat.lt_of_lt_of_le ha hn)
  rw [r1, r2, e]
  simp only [r3]
  exact h1
theorem rn_Ef_xt {M M' : rn_M} {ad ad' : Nat → Nat} {A : Nat → Prop} {U : State} {H : Heap} (hn : 8 ≤ M.1.length) (hx : rn_xt M M' ad ad') (h : rn_Ef ad A U H) : rn_Ef ad' A U H := by
  unfold rn_Ef at h ⊢
  rw [hx.2.1 1 (by omega), hx.2.1 2 (by omega)]
  exact h
theorem rn_Ev_kept {M : rn_M} {ad : Nat → Nat} {A : Nat → Prop} {U : State} {H H1 : Heap} (h : rn_Ev ad M A U H) (hq : ∀ a : Nat, a < H.size → ¬ A a → H1[a]? = H[a]?) : rn_Ev ad M A U H1 := by
  intro a ha q
  obtain ⟨g0, g1, g2⟩ := h a ha q
  exact ⟨g0, g1.kept hq, g2⟩
theorem rn_Ev_moved {M : rn_M} {ad : Nat → Nat} {A : Nat → Prop} {u U : State} {H : Heap} (hvm : u.vm.Alike U.vm) (h : rn_Ev ad M A u H) : rn_Ev ad M A U H := by
  intro a ha q
  obtain ⟨g0, g1, g2⟩ := h a ha q
  exact ⟨g0, g1.moved hvm, g2⟩
theorem rn_Ef_kept {ad : Nat → Nat} {A : Nat → Prop} {U : State} {H H1 : Heap} (h : rn_Ef ad A U H) (hq : ∀ a : Nat, a < H.size → ¬ A a → H1[a]? = H[a]?) : rn_Ef ad A U H1 :=
  ⟨h.1.kept hq, h.2.1.kept hq, h.2.2⟩
theorem rn_Nw_warm {w : Cond} (hn : rn_isN w = true) {s U : State} (hW : s.WarmedH U.vm) (hZ : va_Nw w s) : va_Nw w U := by
  cases w <;> first | exact va_Nw.warmF hW hZ | exact va_Nw.warmM hW hZ | cases hn
theorem rn_Nw_same {w : Cond} (hn : rn_isN w = true) {u U : State} (h : u.vm = U.vm) (hZ : va_Nw w u) : va_Nw w U := by
  cases w <;> first | exact va_Nw.same rfl h hZ | cases hn
theorem rn_Ef_warm {ad : Nat → Nat} {A : Nat → Prop} {s U : State} {H : Heap} (hW : s.WarmedH U.vm) (h : rn_Ef ad A s H) : rn_Ef ad A U H :=
  ⟨h.1.moved hW.alike, h.2.1.moved hW.alike, fun w hw => rn_Nw_warm (List.mem_filter.mp hw).2 hW (h.2.2.1 w hw), fun ci hc => (h.2.2.2 ci hc).moved hW.alike⟩
theorem rn_Ef_same {ad : Nat → Nat} {A : Nat → Prop} {u U : State} {H : Heap} (hv : U.vm = u.vm) (h : rn_Ef ad A u H) : rn_Ef ad A U H := by
  have ha : u.vm.Alike U.vm := by rw [hv]; exact Vm.Alike.refl _
  exact ⟨h.1.moved ha, h.2.1.moved ha, fun w hw => rn_Nw_same (List.mem_filter.mp hw).2 hv.symm (h.2.2.1 w hw), fun ci hc => (h.2.2.2 ci hc).moved ha⟩
theorem rn_W_moved {D : va_G} {A : Nat → Prop} {tys : List (ClassId × FieldType)} {ws : va_W} {ad : Nat → Nat} {M : rn_M} {u U : State} {H : Heap} (ha : u.vm.Alike U.vm) (h : rn_W D A tys ws ad M u H) : rn_W D A tys ws ad M U H := ⟨h.1.moved ha, h.2⟩
