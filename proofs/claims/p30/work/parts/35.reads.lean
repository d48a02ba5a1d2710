/-! what is read off a board: letters on cells, areas, sums over the labels -/
def rn_on (N : Nat → Int) (r k x y : Int) : Prop := rn_px N r k.toNat = x ∧ rn_py N r k.toNat = y
/-- the first place of r, from s on, that lies on a cell -/
noncomputable def rn_pl (N : Nat → Int) (r s x y : Int) : Nat → Int
  | 0 => -9
  | n + 1 => rn_pick (rn_pl N r s x y n = -9 ∧ rn_on N r (s + n) x y) (s + n) (rn_pl N r s x y n)
theorem rn_pl_r {N : Nat → Int} {r s x y : Int} (hs : 0 ≤ s) : ∀ n : Nat, (rn_pl N r s x y n = -9 ∧ ∀ j : Nat, j < n → ¬ rn_on N r (s + j) x y) ∨ ∃ j : Nat, j < n ∧ rn_pl N r s x y n = s + j ∧ rn_on N r (s + j) x y
  | 0 => Or.inl ⟨rfl, fun j h => by omega⟩
  | n + 1 => by
    unfold rn_pl
    rcases rn_pl_r hs n with ⟨h1, h2⟩ | ⟨j, h1, h2, h3⟩
    · by_cases c : rn_on N r (s + n) x y
      · rw [rn_pick_t ⟨h1, c⟩]; exact Or.inr ⟨n, by omega, rfl, c⟩
      · rw [rn_pick_f (fun z => c z.2)]
        refine Or.inl ⟨h1, fun j hj => ?_⟩
        by_cases e : j = n
        · rw [e]; exact c
        · exact h2 j (by omega)
    · rw [rn_pick_f (fun z => by omega)]
      exact Or.inr ⟨j, by omega, h2, h3⟩
theorem rn_pl_st {N : Nat → Int} {r s x y : Int} {n : Nat} (h : rn_pl N r s x y n ≠ -9) : ∀ m : Nat, rn_pl N r s x y (n + m) = rn_pl N r s x y n
  | 0 => rfl
  | m + 1 => by
    have := rn_pl_st h m
    exact (rn_pick_f (fun z => h (this ▸ z.1)) _ _).trans this
/-- the place and the letter that the label of r from s on has on a cell -/
noncomputable def rn_plo (N : Nat → Int) (r s x y : Int) : Int := rn_pl N r s x y (rn_o N r 0).toNat
noncomputable def rn_lto (N : Nat → Int) (r s x y : Int) : Int := rn_o N r (6 + rn_pick (rn_trn N r s) (rn_o N r 0 - 1 - (rn_plo N r s x y - s)) (rn_plo N r s x y - s))
theorem rn_plo_r {N : Nat → Int} {r s x y : Int} (hs : 0 ≤ s) : rn_plo N r s x y = -9 ∨ s ≤ rn_plo N r s x y ∧ rn_plo N r s x y < s + rn_o N r 0 := by
  rcases rn_pl_r (N := N) (r := r) (x := x) (y := y) hs (rn_o N r 0).toNat with ⟨h1, h2⟩ | ⟨j, h1, h2, h3⟩
  · exact Or.inl h1
  · right; unfold rn_plo; omega
/-- a cell lies in the area of the label of r from s on -/
def rn_ar (N : Nat → Int) (r s : Int) (c : Nat) : Prop := ∃ k : Int, s ≤ k ∧ k < s + rn_o N r 0 ∧ rn_sq (rn_px N r k.toNat - rn_o N r 2) (rn_px N r k.toNat + rn_o N r 2) (rn_py N r k.toNat - rn_o N r 2) (rn_py N r k.toNat + rn_o N r 2) c
def rn_clr (N : Nat → Int) (r : Int) (c : Nat) : Prop := ∃ k : Int, 0 ≤ k ∧ k ≤ rn_o N r 5 ∧ (c : Int) = rn_py N r k.toNat * 60 + rn_px N r k.toNat
def rn_cv2 (N : Nat → Int) (n : Int) (c : Nat) : Prop := ∃ l : Int, 0 ≤ l ∧ l < n ∧ rn_ar N (rn_lb N l 0) (rn_lb N l 1) c
noncomputable def rn_lo (N : Nat → Int) (r : Int) : Int := rn_card (fun l => rn_lb N l 0 = r) (N 2).toNat
noncomputable def rn_wo (N : Nat → Int) : Nat → Int
  | 0 => 0
  | n + 1 => rn_pick (rn_lo N n = 0) (rn_or (rn_wo N n) (rn_shl 1 n)) (rn_wo N n)
def rn_cs (N : Nat → Int) : Nat → Int
  | 0 => 0
  | n + 1 => rn_cs N n + rn_cost N (rn_lb N n 0) (rn_lb N n 1)
/-- the label that is seen on a cell -/
noncomputable def rn_wb (N : Nat → Int) (x y : Int) : Nat → Int
  | 0 => -9
  | n + 1 => rn_pick ((rn_wb N x y n = -9 ∨ rn_o N (rn_lb N (rn_wb N x y n) 0) 1 < rn_o N (rn_lb N n 0) 1) ∧ rn_plo N (rn_lb N n 0) (rn_lb N n 1) x y ≠ -9) n (rn_wb N x y n)
noncomputable def rn_wv (N : Nat → Int) (x y l : Int) : Int := rn_pick (l = -9) (-9) (rn_lto N (rn_lb N l 0) (rn_lb N l 1) x y)
theorem rn_wb_r {N : Nat → Int} {x y : Int} : ∀ n : Nat, rn_wb N x y n = -9 ∨ 0 ≤ rn_wb N x y n ∧ rn_wb N x y n < n
  | 0 => Or.inl rfl
  | n + 1 => by
    have ih := rn_wb_r (N := N) (x := x) (y := y) n
    unfold rn_wb
    by_cases c : (rn_wb N x y n = -9 ∨ rn_o N (rn_lb N (rn_wb N x y n) 0) 1 < rn_o N (rn_lb N n 0) 1) ∧ rn_plo N (rn_lb N n 0) (rn_lb N n 1) x y ≠ -9
    · rw [rn_pick_t c]; omega
    · rw [rn_pick_f c]; omega
theorem rn_cost_r {N : Nat → Int} {r s : Int} (v : rn_vR N r) (h0 : 0 ≤ s) (h1 : s + rn_o N r 0 ≤ rn_o N r 5 + 1) : 0 ≤ rn_cost N r s ∧ rn_cost N r s ≤ 2600 := by
  have b := rn_bend_r v h0 h1
  have v5 := v.2.2.2.1
  have v0 := v.1
  unfold rn_cost
  omega
section RDS
variable {M : rn_M} {Q : rn_Q} {b : Nat} {N : Nat → Int}
theorem rs_letterOn {a : Nat} {r : Int} (hM : rn_sh M) (p : rn_isR a) (h : rn_Rv M a N r) (v : rn_vR N r) {s x y : Int} (h0 : 0 ≤ s) (h1 : s + rn_o N r 0 ≤ rn_o N r 5 + 1) (hx : 0 ≤ x ∧ x < 60) (hy : 0 ≤ y ∧ y < 40) (k : Q (some (rn_I (rn_pick (rn_plo N r s x y = -9) (-9) (rn_lto N r s x y)))) M) : rn_ME 76 [rn_R a, rn_I s, rn_I x, rn_I y] M Q := by
  have v5 := v.2.2.2.1
  have v0 := v.1
  have e3 := h.2.2.1
  have e4 := h.2.2.2.1
  have hk2 := rn_Rv_rk2 h v
  have iff : ∀ j : Int, s ≤ j → j < s + rn_o N r 0 → (rn_rn2 M a j x y 0 ↔ rn_on N r j x y) := by
    intro j h1 h2
    have e1 := h.2.2.2.2.2.2 j (by omega) (by omega)
    unfold rn_rn2 rn_on
    rw [e1.1, e1.2, e4]
    omega
  refine re_Ri_letterOn (rb_Ri_letterOn_0 ?_)
  have loop : ∀ (m j : Nat), m + j = (rn_o N r 0).toNat → rn_pl N r s x y j = -9 → rn_WP 76 3 [rn_R a, rn_I s, rn_I x, rn_I y, rn_I (s + j), rn_J] [] M Q := by
    intro m
    induction m with
    | zero =>
      intro j hj hp
      refine rb_Ri_letterOn_3 hM p ?_ ?_ ?_ ?_ ?_ ?_ ?_
      · omega
      · intro c; omega
      · omega
      · omega
      · intro c; omega
      · intro c; omega
      · intro _
        unfold rn_plo at k
        rw [show (rn_o N r 0).toNat = j by omega, rn_pick_t hp] at k
        exact k
    | succ m ih =>
      intro j hj hp
      refine rb_Ri_letterOn_3 hM p ?_ ?_ ?_ ?_ ?_ ?_ ?_
      · omega
      · intro _; exact ⟨by omega, hk2, by omega⟩
      · omega
      · omega
      · intro _ c
        have c := fun z => c ((iff (s + j) (by omega) (by omega)).mpr z)
        have e2 : rn_pl N r s x y (j + 1) = -9 := (rn_pick_f (fun z => c z.2) _ _).trans hp
        have := ih (j + 1) (by omega) e2
        rw [show s + ((j + 1 : Nat) : Int) = s + j + 1 by omega] at this
        exact this
      · intro _ c
        have c := (iff (s + j) (by omega) (by omega)).mp c
        have e2 : rn_pl N r s x y (j + 1) = s + j := rn_pick_t ⟨hp, c⟩ _ _
        have e5 : rn_plo N r s x y = s + j := by
          have := rn_pl_st (N := N) (r := r) (s := s) (x := x) (y := y) (n := j + 1) (by omega) m
          unfold rn_plo
          rw [show (rn_o N r 0).toNat = j + 1 + m by omega, this, e2]
        rw [rn_pick_f (by omega)] at k
        unfold rn_lto at k
        rw [e5] at k
        refine rs_turnsNameAt hM p h v h0 h1 ?_
        have lt : ∀ z : Int, 0 ≤ z → z < rn_o N r 0 → rn_lt2 M a z = rn_o N r (6 + z) := by
          intro z z0 z1
          unfold rn_lt2
          rw [if_pos (by omega), h.2.2.2.2.1 z z0 z1]
        refine rb_Ri_letterOn_38 hM p p ?_ ?_ ?_ ?_
        · omega
        · omega
        · intro c2
          rw [rn_pick_f (rn_b0 c2)] at k
          rw [lt _ (by omega) (by omega)]
          exact k
        · intro c2
          rw [rn_pick_t (rn_b1 c2)] at k
          rw [e3, lt _ (by omega) (by omega)]
          exact k
      · intro c; omega
  have := loop (rn_o N r 0).toNat 0 (by omega) rfl
  rw [show s + ((0 : Nat) : Int) = s by omega] at this
  exact this
theorem rs_Ri_differentCells {a : Nat} {r : Int} (hM : rn_sh M) (p : rn_isR a) (h : rn_Rv M a N r) (v : rn_vR N r) (k : ∀ M', rn_ch rn_P2 M M' → Q (some (rn_I (rn_card (rn_clr N r) 2400))) M') : rn_ME 77 [rn_R a, rn_R 464] M Q := by
  have v5 := v.2.2.2.1
  refine re_Ri_differentCells (rb_Ri_differentCells_0 hM (rs_clear hM (fun M1 c1 s1 => rb_Ri_differentCells_4 ?_)))
  have loop : ∀ (m j : Nat) (M1 : rn_M), m + j = (rn_o N r 5 + 1).toNat → rn_ch rn_P2 M M1 → rn_Sh M1 (fun c => ∃ k : Int, 0 ≤ k ∧ k < j ∧ (c : Int) = rn_py N r k.toNat * 60 + rn_px N r k.toNat) → rn_WP 77 6 [rn_R a, rn_R 464, rn_I (j : Int)] [] M1 Q := by
    intro m
    induction m with
    | zero =>
      intro j M1 hj c1 s1
      have hr := rn_Rv_ch rn_P2_b c1 p h
      have e4 := hr.2.2.2.1
      refine rb_Ri_differentCells_6 (rn_sh_ch c1 hM) p ?_ ?_ ?_ <;> rw [e4]
      · intro c; omega
      · intro _
        rw [s1.2]
        rw [rn_card_congr (S' := rn_clr N r) 2400 (fun c _ => by unfold rn_clr; constructor <;> (rintro ⟨x, x1, x2, x3⟩; exact ⟨x, x1, by omega, x3⟩))]
        exact k M1 c1
      · intro c; omega
    | succ m ih =>
      intro j M1 hj c1 s1
      have hr := rn_Rv_ch rn_P2_b c1 p h
      have e4 := hr.2.2.2.1
      have exy := hr.2.2.2.2.2.2 j (by omega) (by omega)
      have vxy := v.2.2.2.2.2.2 j (by omega) (by omega)
      refine rb_Ri_differentCells_6 (rn_sh_ch c1 hM) p ?_ ?_ ?_ <;> rw [e4]
      · omega
      · intro c; omega
      · intro _
        rw [exy.1, exy.2]
        refine rs_markAround (rn_sh_ch c1 hM) s1 vxy.1 vxy.2 (by omega) (fun M2 c2 s2 => rb_Ri_differentCells_29 ?_ ?_)
        · omega
        · have := ih (j + 1) M2 (by omega) (rn_ch_tr c1 c2) (rn_Sh_congr (fun c _ => ?_) s2)
          · rw [show ((j + 1 : Nat) : Int) = j + 1 by omega] at this; exact this
          · unfold rn_sq
            constructor
            · rintro (⟨x, x1, x2, x3⟩ | ⟨x, y, q1, q2, q3, q4, q5⟩)
              · exact ⟨x, x1, by omega, x3⟩
              · exact ⟨j, by omega, by omega, by rw [q5, show x = rn_px N r (j : Int).toNat by omega, show y = rn_py N r (j : Int).toNat by omega]⟩
            · rintro ⟨x, x1, x2, x3⟩
              rcases Int.lt_or_le x j with q | q
              · exact Or.inl ⟨x, x1, q, x3⟩
              · have : x = j := by omega
                subst this
                exact Or.inr ⟨_, _, vxy.1, vxy.2, by omega, by omega, x3⟩
  exact loop (rn_o N r 5 + 1).toNat 0 M1 (by omega) c1 (rn_Sh_congr (fun c _ => ⟨False.elim, fun ⟨x, x1, x2, _⟩ => by omega⟩) s1)
theorem rs_lapsOver (hM : rn_sh M) (p : rn_isB b) (h : rn_Rp M b N) (v : rn_vd N) {q a : Nat} {l t : Int} (l0 : 0 ≤ l) (l1 : l < N 2) (hq : rn_Lb M b q N l) (pt : rn_isT a) (ht : rn_Tw M a N t) (vt : rn_vT N t) (k : Q (some (rn_I (rn_b (rn_mt' N (rn_lb N l 0) (rn_lb N l 1) t)))) M) : rn_ME 42 [rn_R q, rn_R a] M Q := by
  have vl := v.2.2.2.2.2.2 l l0 l1
  have go := rn_Lb_go hq
  have pr := rn_isR_i p v vl.1.1 vl.1.2
  have hr := h.2.2.1 _ vl.1.1 vl.1.2
  have vr := v.2.2.2.2.1 _ vl.1.1 vl.1.2
  have v5 := vr.2.2.2.1
  have v0 := vr.1
  have v2 := vr.2.2.1
  have vl1 := vl.2.1
  have vl2 := vl.2.2
  have gr1 : rn_gr M q 0 = some (rn_go M q 0) ∧ rn_isR (rn_go M q 0) := by rw [go]; exact ⟨hq.2.1, pr⟩
  have tk : rn_tk M a := by
    unfold rn_tk
    rw [ht.1, ht.2.1, ht.2.2.1, ht.2.2.2.1]
    unfold rn_vT at vt
    omega
  refine re_La_lapsOver (rb_La_lapsOver_0 hM hq.1 ?_)
  rw [hq.2.2]
  have loop : ∀ (m : Nat) (i : Int), i + m = rn_lb N l 1 + rn_o N (rn_lb N l 0) 0 → rn_lb N l 1 ≤ i → (∀ x : Int, rn_lb N l 1 ≤ x → x < i → ¬ rn_nt N (rn_lb N l 0) x t) → rn_WP 42 5 [rn_R q, rn_R a, rn_I i] [] M Q := by
    intro m
    induction m with
    | zero =>
      intro i hi i0 hno
      refine rb_La_lapsOver_5 hM hq.1 pt ?_ ?_ ?_ ?_ ?_ ?_ <;> (try rw [go, hq.2.2, hr.2.2.1])
      · rw [← go]; exact ⟨gr1.1, gr1.2, by omega⟩
      · intro c; omega
      · intro c; omega
      · intro c; omega
      · intro c; omega
      · intro _
        refine rn_kf ?_ k
        rintro ⟨x, x1, x2, x3⟩
        exact hno x x1 (by omega) x3
    | succ m ih =>
      intro i hi i0 hno
      have exy := hr.2.2.2.2.2.2 i (by omega) (by omega)
      have nt := rn_tn2_nt (M := M) (N := N) (t := a) (a := t.toNat) (r := rn_lb N l 0) (x := i)
      have nt : rn_tn2 M a (rn_px N (rn_lb N l 0) i.toNat) (rn_py N (rn_lb N l 0) i.toNat) (rn_o N (rn_lb N l 0) 2) ↔ rn_nt N (rn_lb N l 0) i t := by
        unfold rn_tn2 rn_nt
        rw [ht.1, ht.2.1, ht.2.2.1, ht.2.2.2.1]
      refine rb_La_lapsOver_5 hM hq.1 pt ?_ ?_ ?_ ?_ ?_ ?_ <;> (try rw [go, hq.2.2, hr.2.2.1])
      · rw [← go]; exact ⟨gr1.1, gr1.2, by omega⟩
      · intro _
        rw [hr.2.2.2.1, hr.2.1]
        exact ⟨hq.2.1, pr, by omega, by omega, tk, by omega⟩
      · intro c c2; omega
      · rw [exy.1, exy.2, hr.2.1, nt]
        intro _ c2
        refine ih (i + 1) (by omega) (by omega) (fun x x1 x2 => ?_)
        rcases Int.lt_or_le x i with z | z
        · exact hno x x1 z
        · rw [show x = i by omega]; exact c2
      · rw [exy.1, exy.2, hr.2.1, nt]
        intro _ c2
        exact rn_kt ⟨i, i0, by omega, c2⟩ k
      · intro c; omega
  exact loop (rn_o N (rn_lb N l 0) 0).toNat _ (by omega) (Int.le_refl _) (fun x x1 x2 => by omega)
end RDS
