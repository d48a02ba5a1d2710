/-! the world's cells: read, written, made -/
theorem rn_kd_si {M : rn_M} {a k : Nat} {v : Int} (b : Nat) : rn_kd (rn_si M a k v) b = rn_kd M b := rfl
theorem rn_el_cong {tys : List (ClassId × FieldType)} {n : Nat} {ad : Nat → Nat} {M M' : rn_M} {a : Nat} {el : va_E} (h1 : rn_kd M' a = rn_kd M a) (h2 : rn_ln M' a = rn_ln M a) (h3 : ∀ j, rn_gi M' a j = rn_gi M a j) (h4 : ∀ j, rn_gr M' a j = rn_gr M a j) (h : rn_el tys n ad M a el) : rn_el tys n ad M' a el := by
  revert h
  unfold rn_el
  split
  · intro h
    simp only [rn_fv, h1, h3, h4] at h ⊢
    exact h
  · intro h
    simp only [h1, h2, h3] at h ⊢
    exact h
  · intro h
    simp only [h1, h2, h4] at h ⊢
    exact h
  · exact id
theorem rn_el_ext {tys tys' : List (ClassId × FieldType)} {n n' : Nat} {ad ad' : Nat → Nat} {M : rn_M} {a : Nat} {el : va_E} (hn : n ≤ n') (ha : ∀ a, a < n → ad' a = ad a) (ht : ∀ (t : Nat) (q : ClassId × FieldType), tys[t]? = some q → ∃ t2 : Nat, tys'[t2]? = some q) (h : rn_el tys n ad M a el) : rn_el tys' n' ad' M a el := by
  revert h
  unfold rn_el
  split
  · intro h
    refine ⟨h.1, h.2.1, h.2.2.1, fun b hb => ?_⟩
    obtain ⟨x, h5, h6⟩ := h.2.2.2 b hb
    exact ⟨x, h5, rn_vr_ext hn ha h6⟩
  · intro h
    obtain ⟨g1, g2, g3, ⟨t, g4⟩, g5⟩ := h
    exact ⟨g1, g2, g3, ht t _ g4, g5⟩
  · intro h
    obtain ⟨ci, g1, g2, g3, g6, ⟨t, g4⟩, g5⟩ := h
    exact ⟨ci, g1, g2, g3, g6, ht t _ g4, fun j hj => rn_vr_ext hn ha (g5 j hj)⟩
  · exact id
section RNW
variable {tys : List (ClassId × FieldType)} {ad : Nat → Nat} {M : rn_M} {ws : va_W}
theorem rn_Ws_8 {r : Nat} (h : rn_Ws tys ad M ws) (hk : rn_kd M r < 21 ∨ 24 < rn_kd M r) : 8 ≤ r := by
  rcases Nat.lt_or_ge r 8 with q | q
  · have := h.2.1 r q; omega
  · exact q
theorem rn_W_at {r : Nat} (h : rn_Ws tys ad M ws) (hr : r < M.1.length) (h8 : 8 ≤ r) : ∃ el, ws[r - 8]? = some (ad r, el) ∧ rn_el tys M.1.length ad M r el := by
  obtain ⟨el, h1, h2⟩ := h.2.2 (r - 8) (by have := h.1; omega)
  rw [Nat.sub_add_cancel h8] at h1 h2
  exact ⟨el, h1, h2⟩
theorem rn_W_obj {r ci : Nat} (h : rn_Ws tys ad M ws) (hr : r < M.1.length) (hk : rn_kd M r = ci + 1) (hc : ci < 11) : 8 ≤ r ∧ ∃ fs, ws[r - 8]? = some (ad r, .inr (ci, fs)) ∧ fs.length = rn_nf ci ∧ ∀ b, b < rn_nf ci → ∃ x, fs[b]? = some x ∧ rn_vr M.1.length ad (rn_fv (rn_fk ci b) M r b) x := by
  have h8 := rn_Ws_8 h (r := r) (by omega)
  obtain ⟨el, h1, h2⟩ := rn_W_at h hr h8
  refine ⟨h8, ?_⟩
  unfold rn_el at h2
  split at h2
  · rename_i c2 fs
    obtain ⟨g1, g2, g3, g4⟩ := h2
    have e : c2 = ci := by omega
    subst e
    exact ⟨fs, h1, g3, g4⟩
  · have := h2.1; omega
  · obtain ⟨ci2, g1, g2, -⟩ := h2; omega
  · exact h2.elim
theorem rn_W_arr {r : Nat} (h : rn_Ws tys ad M ws) (hr : r < M.1.length) (hk : rn_kd M r = 20) : 8 ≤ r ∧ rn_ln M r ≤ 100000 ∧ ∃ (cA : ClassId) (f : Nat → Int32) (t : Nat), ws[r - 8]? = some (ad r, .inl (cA, rn_ln M r, .inl f)) ∧ tys[t]? = some (cA, .int) ∧ ∀ j, j < rn_ln M r → (f j).toInt = rn_gi M r j := by
  have h8 := rn_Ws_8 h (r := r) (by omega)
  obtain ⟨el, h1, h2⟩ := rn_W_at h hr h8
  refine ⟨h8, ?_⟩
  unfold rn_el at h2
  split at h2
  · have := h2.1; have := h2.2.1; omega
  · rename_i cA len f
    obtain ⟨g1, rfl, g3, ⟨t, g4⟩, g5⟩ := h2
    exact ⟨g3, cA, f, t, h1, g4, g5⟩
  · obtain ⟨ci2, g1, g2, -⟩ := h2; omega
  · exact h2.elim
theorem rn_W_arq {r : Nat} (h : rn_Ws tys ad M ws) (hr : r < M.1.length) (hk : 30 ≤ rn_kd M r) : 8 ≤ r ∧ rn_ln M r ≤ 100000 ∧ ∃ (ci : Nat) (cA : ClassId) (f : Nat → Option Nat) (t : Nat), rn_kd M r = ci + 30 ∧ ci < 11 ∧ ws[r - 8]? = some (ad r, .inl (cA, rn_ln M r, .inr (.inr (.inr (.inr f))))) ∧ tys[t]? = some (cA, .object (rn_cn ci)) ∧ ∀ j, j < rn_ln M r → rn_vr M.1.length ad (.inr (.inl (some (rn_gr M r j)))) (va_rf (f j)) := by
  have h8 := rn_Ws_8 h (r := r) (by omega)
  obtain ⟨el, h1, h2⟩ := rn_W_at h hr h8
  refine ⟨h8, ?_⟩
  unfold rn_el at h2
  split at h2
  · have := h2.1; have := h2.2.1; omega
  · have := h2.1; omega
  · rename_i cA len f
    obtain ⟨ci, g1, g2, rfl, g3, ⟨t, g4⟩, g5⟩ := h2
    exact ⟨g3, ci, cA, f, t, g1, g2, h1, g4, g5⟩
  · exact h2.elim
theorem rn_Ws_set {M' : rn_M} {r : Nat} {el : va_E} (h : rn_Ws tys ad M ws) (h8 : 8 ≤ r) (hr : r < M.1.length) (h1 : M'.1 = M.1) (h2 : ∀ a, a ≠ r → ∀ j, rn_gi M' a j = rn_gi M a j ∧ rn_gr M' a j = rn_gr M a j) (h3 : rn_el tys M.1.length ad M' r el) : rn_Ws tys ad M' (ws.set (r - 8) (ad r, el)) := by
  have hk : ∀ a, rn_kd M' a = rn_kd M a := fun a => by unfold rn_kd; rw [h1]
  have hl : ∀ a, rn_ln M' a = rn_ln M a := fun a => by unfold rn_ln; rw [h1]
  refine ⟨by rw [List.length_set, h1]; exact h.1, fun a ha => by rw [hk]; exact h.2.1 a ha, fun k hk2 => ?_⟩
  rw [List.length_set] at hk2
  rw [h1]
  by_cases e : r - 8 = k
  · subst e
    rw [List.getElem?_set_self hk2, Nat.sub_add_cancel h8]
    exact ⟨el, rfl, h3⟩
  · rw [List.getElem?_set_ne e]
    obtain ⟨el2, g1, g2⟩ := h.2.2 k hk2
    refine ⟨el2, g1, rn_el_cong (hk _) (hl _) (fun j => (h2 _ ?_ j).1) (fun j => (h2 _ ?_ j).2) g2⟩ <;> omega
end RNW
theorem rn_nw_kd {M : rn_M} {k n a : Nat} (h : a < M.1.length) : rn_kd (rn_nw M k n) a = rn_kd M a ∧ rn_ln (rn_nw M k n) a = rn_ln M a := by
  unfold rn_kd rn_ln rn_nw
  simp only [List.getD_eq_getElem?_getD, List.getElem?_append_left h]
  exact ⟨trivial, trivial⟩
theorem rn_nw_kn {M : rn_M} {k n : Nat} : rn_kd (rn_nw M k n) M.1.length = k ∧ rn_ln (rn_nw M k n) M.1.length = n := by
  unfold rn_kd rn_ln rn_nw
  simp [List.getD_eq_getElem?_getD]
theorem rn_nw_gi {M : rn_M} {k n a : Nat} (h : a < M.1.length) (j : Nat) : rn_gi (rn_nw M k n) a j = rn_gi M a j ∧ rn_gr (rn_nw M k n) a j = rn_gr M a j := by
  have e : a ≠ M.1.length := Nat.ne_of_lt h
  unfold rn_gi rn_gr rn_nw
  simp only [if_neg e]
  exact ⟨trivial, trivial⟩
theorem rn_nw_gn {M : rn_M} {k n : Nat} (j : Nat) : rn_gi (rn_nw M k n) M.1.length j = 0 ∧ rn_gr (rn_nw M k n) M.1.length j = none := by
  unfold rn_gi rn_gr rn_nw
  simp
def rn_ad (ad : Nat → Nat) (n q : Nat) : Nat → Nat := fun a => if a = n then q else ad a
theorem rn_ad_lt {ad : Nat → Nat} {n q a : Nat} (h : a < n) : rn_ad ad n q a = ad a := by
  unfold rn_ad
  rw [if_neg (Nat.ne_of_lt h)]
theorem rn_ad_n {ad : Nat → Nat} {n q : Nat} : rn_ad ad n q n = q := by simp [rn_ad]
theorem rn_nw_len {M : rn_M} {k n : Nat} : (rn_nw M k n).1.length = M.1.length + 1 := by simp [rn_nw]
theorem rn_nw_xt {M : rn_M} {ad : Nat → Nat} {k n q : Nat} (h8 : 8 ≤ M.1.length) : rn_xt M (rn_nw M k n) ad (rn_ad ad M.1.length q) := by
  refine ⟨by rw [rn_nw_len]; omega, fun a h => rn_ad_lt h, fun a h => ?_⟩
  have h2 : a < M.1.length := by omega
  exact ⟨(rn_nw_kd h2).1, (rn_nw_kd h2).2, fun j => (rn_nw_gi h2 j).1, fun j => (rn_nw_gi h2 j).2⟩
theorem rn_Ws_app {tys tys' : List (ClassId × FieldType)} {ad : Nat → Nat} {M : rn_M} {ws : va_W} {k n q : Nat} {el : va_E} (h : rn_Ws tys ad M ws) (ht : ∀ (t : Nat) (q : ClassId × FieldType), tys[t]? = some q → ∃ t2 : Nat, tys'[t2]? = some q)
    (hel : rn_el tys' (M.1.length + 1) (rn_ad ad M.1.length q) (rn_nw M k n) M.1.length el) : rn_Ws tys' (rn_ad ad M.1.length q) (rn_nw M k n) (ws ++ [(q, el)]) := by
  have hl := h.1
  refine ⟨by rw [rn_nw_len, List.length_append, List.length_singleton]; omega, fun a ha => by rw [(rn_nw_kd (by omega)).1]; exact h.2.1 a ha, fun k2 hk2 => ?_⟩
  rw [List.length_append] at hk2
  simp only [List.length_cons, List.length_nil] at hk2
  rw [rn_nw_len]
  rcases Nat.lt_or_ge k2 ws.length with g | g
  · rw [List.getElem?_append_left g]
    obtain ⟨el2, g1, g2⟩ := h.2.2 k2 g
    have h5 : k2 + 8 < M.1.length := by omega
    rw [rn_ad_lt h5]
    refine ⟨el2, g1, ?_⟩
    exact rn_el_ext (n := M.1.length) (by omega) (fun a ha => rn_ad_lt ha) ht (rn_el_cong (rn_nw_kd h5).1 (rn_nw_kd h5).2 (fun j => (rn_nw_gi h5 j).1) (fun j => (rn_nw_gi h5 j).2) g2)
  · have e : k2 = ws.length := by omega
    subst e
    rw [List.getElem?_append_right (Nat.le_refl _), hl, rn_ad_n]
    refine ⟨el, by simp, hel⟩
theorem rn_in_vp {M : rn_M} {r : Nat} {i : Int32} (h : rn_in M r i.toInt) (hl : rn_ln M r ≤ 100000) : vp_in i (rn_ln M r) ∧ i.toNatClampNeg = i.toInt.toNat ∧ i.toInt.toNat < rn_ln M r := by
  obtain ⟨h1, h2⟩ := h
  have e : i.toNatClampNeg = i.toInt.toNat := rfl
  refine ⟨vp_in_iff.mpr ⟨h1, h2⟩, e, by omega⟩
