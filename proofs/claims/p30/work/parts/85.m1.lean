/-! sums over the labels; sets of rivers; letters on cells -/
theorem rl_pick_or {P : Prop} {a b : Int} : rn_pick P a b = a ∨ rn_pick P a b = b := by
  by_cases c : P
  · exact Or.inl (rn_pick_t c a b)
  · exact Or.inr (rn_pick_f c a b)
theorem rl_why_r {N : Nat → Int} {r s k but : Int} : 0 ≤ rn_why N r s k but ∧ rn_why N r s k but ≤ 4 := by
  have h4 := @rl_pick_or (rn_w4 N r s k but) 4 0
  have h3 := @rl_pick_or (rn_w3 N r s k) 3 (rn_pick (rn_w4 N r s k but) 4 0)
  have h2 := @rl_pick_or (rn_cr N r s but) 2 (rn_pick (rn_w3 N r s k) 3 (rn_pick (rn_w4 N r s k but) 4 0))
  have h1 := @rl_pick_or (s + rn_o N r 0 ≤ rn_o N r 5 + 1) (rn_pick (rn_cr N r s but) 2 (rn_pick (rn_w3 N r s k) 3 (rn_pick (rn_w4 N r s k but) 4 0))) 1
  unfold rn_why
  omega
theorem rl_card_dj {S S' : Nat → Prop} : ∀ n : Nat, (∀ c, c < n → S c → ¬ S' c) → rn_card (fun c => S c ∨ S' c) n = rn_card S n + rn_card S' n
  | 0, _ => rfl
  | n + 1, h => by
    have h1 := rl_card_dj n (fun c hc => h c (by omega))
    have h2 : rn_b (S n ∨ S' n) = rn_b (S n) + rn_b (S' n) := by
      by_cases c : S n
      · rw [rn_bt (P := S n ∨ S' n) (Or.inl c), rn_bt c, rn_bf (h n (by omega) c)]; rfl
      · rw [rn_bf c, rn_b_iff (P := S n ∨ S' n) (P' := S' n) ⟨fun z => z.elim (fun q => absurd q c) id, Or.inr⟩]; omega
    unfold rn_card
    rw [h1, h2]
    omega
theorem rl_card_all {S : Nat → Prop} : ∀ n : Nat, (∀ c, c < n → S c) → rn_card S n = n
  | 0, _ => rfl
  | n + 1, h => by
    unfold rn_card
    rw [rl_card_all n (fun c hc => h c (by omega)), rn_bt (h n (by omega))]
    omega
/-- the cells of the areas, one label after the other -/
noncomputable def rl_ca (N : Nat → Int) : Nat → Int
  | 0 => 0
  | n + 1 => rl_ca N n + rn_card (rn_ar N (rn_lb N n 0) (rn_lb N n 1)) 2400
/-- the labels of the rivers below k -/
noncomputable def rl_ls (N : Nat → Int) : Nat → Int
  | 0 => 0
  | k + 1 => rl_ls N k + rn_lo N k
/-- the set of rivers that the labels below n name -/
def rl_st (N : Nat → Int) : Nat → Int
  | 0 => 0
  | n + 1 => rn_or (rl_st N n) (rn_shl 1 (rn_lb N n 0))
section LM
variable {N : Nat → Int}
theorem rl_ls_eq : ∀ k : Nat, rl_ls N k = rn_card (fun l => 0 ≤ rn_lb N l 0 ∧ rn_lb N l 0 < k) (N 2).toNat
  | 0 => by
    rw [rl_card_0 _ (fun c _ z => by omega)]
    rfl
  | k + 1 => by
    unfold rl_ls
    rw [rl_ls_eq k]
    unfold rn_lo
    rw [← rl_card_dj _ (fun c _ z1 z2 => by omega)]
    exact rn_card_congr _ (fun c _ => by omega)
theorem rl_ls_all (v : rn_vd N) : rl_ls N (N 0).toNat = N 2 := by
  have v0 := v.1
  have v2 := v.2.2.1
  rw [rl_ls_eq, rl_card_all]
  · omega
  · intro c hc
    have := (v.2.2.2.2.2.2 c (by omega) (by omega)).1
    omega
theorem rl_lo_r (v : rn_vd N) {r : Int} : 0 ≤ rn_lo N r ∧ rn_lo N r ≤ 20 := by
  have v2 := v.2.2.1
  have := rn_card_r (fun l => rn_lb N l 0 = r) (N 2).toNat
  unfold rn_lo
  omega
theorem rl_ls_r (v : rn_vd N) : ∀ k : Nat, 0 ≤ rl_ls N k ∧ rl_ls N k ≤ 20 * k
  | 0 => ⟨Int.le_refl _, Int.le_refl _⟩
  | k + 1 => by
    have h1 := rl_ls_r v k
    have h2 := rl_lo_r v (r := k)
    unfold rl_ls
    omega
theorem rl_cs_r (v : rn_vd N) : ∀ n : Nat, (n : Int) ≤ N 2 → 0 ≤ rn_cs N n ∧ rn_cs N n ≤ 2600 * n
  | 0, _ => ⟨Int.le_refl _, Int.le_refl _⟩
  | n + 1, h => by
    have h1 := rl_cs_r v n (by omega)
    have vl := v.2.2.2.2.2.2 n (by omega) (by omega)
    have h2 := rn_cost_r (v.2.2.2.2.1 _ vl.1.1 vl.1.2) vl.2.1.1 vl.2.2
    unfold rn_cs
    omega
theorem rl_ca_r (v : rn_vd N) : ∀ n : Nat, (n : Int) ≤ N 2 → (n : Int) ≤ rl_ca N n ∧ rl_ca N n ≤ 2400 * n
  | 0, _ => ⟨Int.le_refl _, Int.le_refl _⟩
  | n + 1, h => by
    have h1 := rl_ca_r v n (by omega)
    have vl := v.2.2.2.2.2.2 n (by omega) (by omega)
    have h2 := rl_card_ar1 (v.2.2.2.2.1 _ vl.1.1 vl.1.2) vl.2.1.1 vl.2.2
    have h3 := rn_card_r (rn_ar N (rn_lb N n 0) (rn_lb N n 1)) 2400
    unfold rl_ca
    omega
theorem rl_cv_le : ∀ n : Nat, rn_card (rn_cv2 N n) 2400 ≤ rl_ca N n
  | 0 => by
    rw [rl_card_0 _ (fun c _ z => by obtain ⟨l, h1, h2, -⟩ := z; omega)]
    exact Int.le_refl _
  | n + 1 => by
    have h1 := rl_cv_le n
    have h2 := @rl_card_or (rn_cv2 N n) (rn_ar N (rn_lb N n 0) (rn_lb N n 1)) 2400
    have h3 : rn_card (rn_cv2 N ((n + 1 : Nat) : Int)) 2400 ≤ rn_card (fun c => rn_cv2 N n c ∨ rn_ar N (rn_lb N n 0) (rn_lb N n 1) c) 2400 := by
      refine rl_card_mono _ (fun c _ z => ?_)
      obtain ⟨l, g1, g2, g3⟩ := z
      by_cases e : l = n
      · exact Or.inr (e ▸ g3)
      · exact Or.inl ⟨l, g1, by omega, g3⟩
    unfold rl_ca
    omega
theorem rl_cv_one : rn_card (rn_cv2 N 1) 2400 = rl_ca N 1 := by
  unfold rl_ca
  rw [show rl_ca N 0 = 0 from rfl, Int.zero_add]
  refine rn_card_congr _ (fun c _ => ⟨fun z => ?_, fun z => ⟨0, by omega, by omega, z⟩⟩)
  obtain ⟨l, g1, g2, g3⟩ := z
  obtain rfl : l = 0 := by omega
  exact g3
/-- no cell is covered: no label stands -/
theorem rl_cv_0 (v : rn_vd N) (h : rn_card (rn_cv2 N (N 2)) 2400 = 0) : N 2 = 0 := by
  have v2 := v.2.2.1
  rcases Int.lt_or_le 0 (N 2) with q | q
  · have vl := v.2.2.2.2.2.2 0 (by omega) q
    have h2 := rl_card_ar1 (v.2.2.2.2.1 _ vl.1.1 vl.1.2) vl.2.1.1 vl.2.2
    have h3 : rn_card (rn_ar N (rn_lb N 0 0) (rn_lb N 0 1)) 2400 ≤ rn_card (rn_cv2 N (N 2)) 2400 := rl_card_mono _ (fun c _ z => ⟨0, by omega, q, z⟩)
    omega
  · omega
theorem rl_bits : ∀ a : Nat, a < 64 → ∀ q : Nat, q < 6 → (0 ≤ rn_or (a : Int) (rn_shl 1 (q : Int)) ∧ rn_or (a : Int) (rn_shl 1 (q : Int)) < 64) ∧ ∀ r : Nat, r < 6 → (rn_and (rn_shr (rn_or (a : Int) (rn_shl 1 (q : Int))) (r : Int)) 1 = 0 ↔ rn_and (rn_shr (a : Int) (r : Int)) 1 = 0 ∧ r ≠ q) := by decide +kernel
theorem rl_st_ok (v : rn_vd N) : ∀ n : Nat, (n : Int) ≤ N 2 → (0 ≤ rl_st N n ∧ rl_st N n < 64) ∧ ∀ r : Nat, r < 6 → (rn_and (rn_shr (rl_st N n) (r : Int)) 1 = 0 ↔ ∀ i : Int, 0 ≤ i → i < n → rn_lb N i 0 ≠ r)
  | 0, _ => ⟨by unfold rl_st; omega, fun r hr => ⟨fun _ i i0 i1 => by omega, fun _ => by
      unfold rl_st
      rcases (by omega : r = 0 ∨ r = 1 ∨ r = 2 ∨ r = 3 ∨ r = 4 ∨ r = 5) with e | e | e | e | e | e <;> subst e <;> decide⟩⟩
  | n + 1, h => by
    have v0 := v.1
    obtain ⟨h1, h2⟩ := rl_st_ok v n (by omega)
    have vl := (v.2.2.2.2.2.2 n (by omega) (by omega)).1
    obtain ⟨a, ha⟩ : ∃ a : Nat, rl_st N n = a := ⟨(rl_st N n).toNat, by omega⟩
    obtain ⟨q, hq⟩ : ∃ q : Nat, rn_lb N n 0 = q := ⟨(rn_lb N n 0).toNat, by omega⟩
    unfold rl_st
    rw [ha] at h1 h2
    rw [ha, hq]
    obtain ⟨b1, b2⟩ := rl_bits a (by omega) q (by omega)
    refine ⟨b1, fun r hr => ?_⟩
    rw [b2 r hr, h2 r hr]
    refine ⟨fun z i i0 i1 => ?_, fun z => ⟨fun i i0 i1 => z i i0 (by omega), fun e => z n (by omega) (by omega) (by rw [hq, e])⟩⟩
    by_cases e : i = n
    · rw [e, hq]; exact fun w => z.2 (by omega)
    · exact z.1 i i0 (by omega)
/-- the bit of a river without a label -/
theorem rl_st_lo (v : rn_vd N) {r : Int} (r0 : 0 ≤ r) (r1 : r < N 0) : rn_and (rn_shr (rl_st N (N 2).toNat) r) 1 = 0 ↔ rn_lo N r = 0 := by
  have v0 := v.1
  have v2 := v.2.2.1
  have h := (rl_st_ok v (N 2).toNat (by omega)).2 r.toNat (by omega)
  rw [show ((r.toNat : Nat) : Int) = r by omega] at h
  rw [h]
  unfold rn_lo
  refine ⟨fun z => rl_card_0 _ (fun c hc => z c (by omega) (by omega)), fun z i i0 i1 => ?_⟩
  have := rl_card_z z i.toNat (by omega)
  rw [show ((i.toNat : Nat) : Int) = i by omega] at this
  exact this
theorem rl_or0 {x : Int} (h : -2147483648 ≤ x ∧ x ≤ 2147483647) : rn_or x 0 = x := by
  unfold rn_or
  rw [show Int32.ofInt x ||| Int32.ofInt 0 = Int32.ofInt x by rw [show Int32.ofInt 0 = 0 from rfl]; simp]
  exact rn_i32 h.1 h.2
theorem rl_wo_r : ∀ n : Nat, -2147483648 ≤ rn_wo N n ∧ rn_wo N n ≤ 2147483647
  | 0 => by unfold rn_wo; omega
  | n + 1 => by
    unfold rn_wo
    rcases @rl_pick_or (rn_lo N n = 0) (rn_or (rn_wo N n) (rn_shl 1 n)) (rn_wo N n) with e | e <;> rw [e]
    · unfold rn_or; exact rn_rng _
    · exact rl_wo_r n
/-! letters -/
theorem rl_wb_ne {x y : Int} : ∀ n : Nat, (∃ l : Nat, l < n ∧ rn_plo N (rn_lb N l 0) (rn_lb N l 1) x y ≠ -9) → rn_wb N x y n ≠ -9
  | 0, h => by obtain ⟨l, h1, -⟩ := h; omega
  | n + 1, h => by
    obtain ⟨l, h1, h2⟩ := h
    have r := rn_wb_r (N := N) (x := x) (y := y) n
    unfold rn_wb
    by_cases c : (rn_wb N x y n = -9 ∨ rn_o N (rn_lb N (rn_wb N x y n) 0) 1 < rn_o N (rn_lb N n 0) 1) ∧ rn_plo N (rn_lb N n 0) (rn_lb N n 1) x y ≠ -9
    · rw [rn_pick_t c]; omega
    · rw [rn_pick_f c]
      by_cases e : l = n
      · subst e
        exact fun z => c ⟨Or.inl z, h2⟩
      · exact rl_wb_ne n ⟨l, by omega, h2⟩
theorem rl_wb_pl {x y : Int} : ∀ n : Nat, rn_wb N x y n ≠ -9 → rn_plo N (rn_lb N (rn_wb N x y n) 0) (rn_lb N (rn_wb N x y n) 1) x y ≠ -9
  | 0, h => absurd rfl h
  | n + 1, h => by
    unfold rn_wb at h ⊢
    by_cases c : (rn_wb N x y n = -9 ∨ rn_o N (rn_lb N (rn_wb N x y n) 0) 1 < rn_o N (rn_lb N n 0) 1) ∧ rn_plo N (rn_lb N n 0) (rn_lb N n 1) x y ≠ -9
    · rw [rn_pick_t c]; exact c.2
    · rw [rn_pick_f c] at h ⊢; exact rl_wb_pl n h
theorem rl_plo_at {r s k : Int} (s0 : 0 ≤ s) (k0 : 0 ≤ k) (k1 : k < rn_o N r 0) : ∃ j : Int, 0 ≤ j ∧ j < rn_o N r 0 ∧ rn_plo N r s (rn_px N r (s + k).toNat) (rn_py N r (s + k).toNat) = s + j ∧ rn_on N r (s + j) (rn_px N r (s + k).toNat) (rn_py N r (s + k).toNat) := by
  rcases rn_pl_r (N := N) (r := r) (x := rn_px N r (s + k).toNat) (y := rn_py N r (s + k).toNat) s0 (rn_o N r 0).toNat with ⟨h1, h2⟩ | ⟨j, h1, h2, h3⟩
  · refine absurd ?_ (h2 k.toNat (by omega))
    rw [show ((k.toNat : Nat) : Int) = k by omega]
    exact ⟨rfl, rfl⟩
  · exact ⟨j, by omega, by omega, h2, h3⟩
theorem rl_written (v : rn_vd N) (g : rn_gd N) {l k : Int} (l0 : 0 ≤ l) (l1 : l < N 2) (k0 : 0 ≤ k) (k1 : k < rn_o N (rn_lb N l 0) 0) : 97 ≤ rn_aWritten N (rn_px N (rn_lb N l 0) (rn_lb N l 1 + k).toNat) (rn_py N (rn_lb N l 0) (rn_lb N l 1 + k).toNat) ∧ rn_aWritten N (rn_px N (rn_lb N l 0) (rn_lb N l 1 + k).toNat) (rn_py N (rn_lb N l 0) (rn_lb N l 1 + k).toNat) ≤ 122 := by
  have vl := v.2.2.2.2.2.2 l l0 l1
  have vr := v.2.2.2.2.1 _ vl.1.1 vl.1.2
  have vl2 := vl.2
  have vc := vr.2.2.2.2.2.2 (rn_lb N l 1 + k) (by omega) (by omega)
  obtain ⟨j, j0, j1, j2, -⟩ := rl_plo_at (N := N) vl.2.1.1 k0 k1
  generalize rn_px N (rn_lb N l 0) (rn_lb N l 1 + k).toNat = x at *
  generalize rn_py N (rn_lb N l 0) (rn_lb N l 1 + k).toNat = y at *
  have hne : rn_wb N x y (N 2).toNat ≠ -9 := rl_wb_ne _ ⟨l.toNat, by omega, by rw [show ((l.toNat : Nat) : Int) = l by omega]; omega⟩
  have hpl := rl_wb_pl _ hne
  have hr := rn_wb_r (N := N) (x := x) (y := y) (N 2).toNat
  unfold rn_aWritten rn_wv
  rw [if_neg (by omega), rn_pick_f hne]
  generalize rn_wb N x y (N 2).toNat = w at *
  have wl := v.2.2.2.2.2.2 w (by omega) (by omega)
  have pr := rn_plo_r (N := N) (r := rn_lb N w 0) (x := x) (y := y) wl.2.1.1
  unfold rn_lto
  rcases @rl_pick_or (rn_trn N (rn_lb N w 0) (rn_lb N w 1)) (rn_o N (rn_lb N w 0) 0 - 1 - (rn_plo N (rn_lb N w 0) (rn_lb N w 1) x y - rn_lb N w 1)) (rn_plo N (rn_lb N w 0) (rn_lb N w 1) x y - rn_lb N w 1) with e | e <;> rw [e]
  · exact g _ _ wl.1.1 wl.1.2 (by omega) (by omega)
  · exact g _ _ wl.1.1 wl.1.2 (by omega) (by omega)
/-- a river that comes to no cell twice -/
theorem rl_dist {r : Int} (h : rn_card (rn_clr N r) 2400 = rn_o N r 5 + 1) {i j : Int} (i0 : 0 ≤ i) (ij : i < j) (j1 : j ≤ rn_o N r 5) : ¬ (rn_px N r i.toNat = rn_px N r j.toNat ∧ rn_py N r i.toNat = rn_py N r j.toNat) := by
  rintro ⟨ex, ey⟩
  have u1 := rl_card_un (S := fun k c => (c : Int) = rn_py N r k.toNat * 60 + rn_px N r k.toNat) (n := 2400) (a := 0) (b := 1) j.toNat (fun i _ _ => rl_card_at)
  have u2 := rl_card_un (S := fun k c => (c : Int) = rn_py N r k.toNat * 60 + rn_px N r k.toNat) (n := 2400) (a := j + 1) (b := 1) (rn_o N r 5 - j).toNat (fun i _ _ => rl_card_at)
  have u3 := @rl_card_or (fun c => ∃ i : Int, 0 ≤ i ∧ i < 0 + (j.toNat : Nat) ∧ (c : Int) = rn_py N r i.toNat * 60 + rn_px N r i.toNat) (fun c => ∃ i : Int, j + 1 ≤ i ∧ i < j + 1 + ((rn_o N r 5 - j).toNat : Nat) ∧ (c : Int) = rn_py N r i.toNat * 60 + rn_px N r i.toNat) 2400
  have u4 : rn_card (rn_clr N r) 2400 ≤ rn_card (fun c => (∃ i : Int, 0 ≤ i ∧ i < 0 + (j.toNat : Nat) ∧ (c : Int) = rn_py N r i.toNat * 60 + rn_px N r i.toNat) ∨ ∃ i : Int, j + 1 ≤ i ∧ i < j + 1 + ((rn_o N r 5 - j).toNat : Nat) ∧ (c : Int) = rn_py N r i.toNat * 60 + rn_px N r i.toNat) 2400 := by
    refine rl_card_mono _ (fun c _ z => ?_)
    obtain ⟨k, k0, k1, e⟩ := z
    rcases (by omega : k < j ∨ k = j ∨ j < k) with q | q | q
    · exact Or.inl ⟨k, k0, by omega, e⟩
    · subst q
      exact Or.inl ⟨i, i0, by omega, by rw [ex, ey]; exact e⟩
    · exact Or.inr ⟨k, by omega, by omega, e⟩
  omega
theorem rl_plo_first {r s : Int} (s0 : 0 ≤ s) (n0 : 1 ≤ rn_o N r 0) : rn_plo N r s (rn_px N r s.toNat) (rn_py N r s.toNat) = s := by
  have h1 : rn_pl N r s (rn_px N r s.toNat) (rn_py N r s.toNat) 1 = s := by
    refine (rn_pick_t ⟨rfl, ?_⟩ _ _).trans (Int.add_zero s)
    rw [show s + ((0 : Nat) : Int) = s by omega]
    exact ⟨rfl, rfl⟩
  have h2 := rn_pl_st (N := N) (r := r) (s := s) (x := rn_px N r s.toNat) (y := rn_py N r s.toNat) (n := 1) (by omega) ((rn_o N r 0).toNat - 1)
  unfold rn_plo
  rw [show (rn_o N r 0).toNat = 1 + ((rn_o N r 0).toNat - 1) by omega, h2, h1]
theorem rl_plo_last {r s : Int} (h : rn_card (rn_clr N r) 2400 = rn_o N r 5 + 1) (s0 : 0 ≤ s) (n0 : 1 ≤ rn_o N r 0) (s1 : s + rn_o N r 0 ≤ rn_o N r 5 + 1) : rn_plo N r s (rn_px N r (s + rn_o N r 0 - 1).toNat) (rn_py N r (s + rn_o N r 0 - 1).toNat) = s + rn_o N r 0 - 1 := by
  obtain ⟨j, j0, j1, j2, j3⟩ := rl_plo_at (N := N) (r := r) (k := rn_o N r 0 - 1) s0 (by omega) (by omega)
  rw [show s + (rn_o N r 0 - 1) = s + rn_o N r 0 - 1 by omega] at j2 j3
  rw [j2]
  rcases (by omega : j = rn_o N r 0 - 1 ∨ j < rn_o N r 0 - 1) with e | e
  · omega
  · exact absurd j3 (rl_dist h (i := s + j) (by omega) (by omega) (by omega))
/-- the only label's letters at its ends -/
theorem rl_one (v : rn_vd N) (h1 : N 2 = 1) {k : Int} (k0 : 0 ≤ k) (k1 : k < rn_o N (rn_lb N 0 0) 0) (hp : rn_plo N (rn_lb N 0 0) (rn_lb N 0 1) (rn_px N (rn_lb N 0 0) (rn_lb N 0 1 + k).toNat) (rn_py N (rn_lb N 0 0) (rn_lb N 0 1 + k).toNat) = rn_lb N 0 1 + k) : rn_aWritten N (rn_px N (rn_lb N 0 0) (rn_lb N 0 1 + k).toNat) (rn_py N (rn_lb N 0 0) (rn_lb N 0 1 + k).toNat) = rn_o N (rn_lb N 0 0) (6 + rn_pick (rn_trn N (rn_lb N 0 0) (rn_lb N 0 1)) (rn_o N (rn_lb N 0 0) 0 - 1 - k) k) := by
  have vl := v.2.2.2.2.2.2 0 (by omega) (by omega)
  have vr := v.2.2.2.2.1 _ vl.1.1 vl.1.2
  have vl2 := vl.2
  have vc := vr.2.2.2.2.2.2 (rn_lb N 0 1 + k) (by omega) (by omega)
  have hw : rn_wb N (rn_px N (rn_lb N 0 0) (rn_lb N 0 1 + k).toNat) (rn_py N (rn_lb N 0 0) (rn_lb N 0 1 + k).toNat) 1 = 0 := rn_pick_t ⟨Or.inl rfl, by
    show rn_plo N (rn_lb N 0 0) (rn_lb N 0 1) _ _ ≠ -9
    omega⟩ _ _
  unfold rn_aWritten rn_wv
  rw [if_neg (by omega), h1]
  rw [show (1 : Int).toNat = 1 from rfl, hw, rn_pick_f (by omega)]
  unfold rn_lto
  rw [hp, show rn_lb N 0 1 + k - rn_lb N 0 1 = k by omega]
end LM
