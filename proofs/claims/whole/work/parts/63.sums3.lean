/-! the reference: without, covered, differentCells, townsOf -/
def rn_fq (M M' : rn_M) : Prop := rn_ch rn_PQ M M' ∧ ∀ j, j ≠ 8 → rn_gi M' 466 j = rn_gi M 466 j
theorem rn_fq_rf {M : rn_M} : rn_fq M M := ⟨rn_ch_rf, fun _ _ => rfl⟩
theorem rn_fq_tr {M M1 M2 : rn_M} (h : rn_fq M M1) (g : rn_fq M1 M2) : rn_fq M M2 := ⟨rn_ch_tr h.1 g.1, fun j hj => (g.2 j hj).trans (h.2 j hj)⟩
theorem rn_fq_PW {M M1 : rn_M} (h : rn_ch rn_PW M M1) : rn_fq M M1 := ⟨rn_ch_mono rn_PW_Q h, fun j _ => by rw [h.2.2 466 rn_PW_66]⟩
theorem rn_ma_le {M : rn_M} {B B' : Int} (h : rn_ma M B) (g : B ≤ B') : rn_ma M B' := ⟨h.1, h.2.1, Int.le_trans h.2.2 g⟩
theorem rn_wo_i {N : Nat → Int} : ∀ n : Nat, ∃ y : Int32, rn_wo N n = y.toInt
  | 0 => ⟨0, rfl⟩
  | n + 1 => by
    unfold rn_wo
    by_cases c : rn_lo N n = 0
    · rw [rn_pick_t c]; exact ⟨_, rfl⟩
    · rw [rn_pick_f c]; exact rn_wo_i n
theorem rn_or_0 {x : Int} (h : ∃ y : Int32, x = y.toInt) : rn_or x 0 = x := by
  obtain ⟨y, rfl⟩ := h
  unfold rn_or
  rw [Int32.ofInt_toInt, show Int32.ofInt 0 = 0 from rfl, Int32.or_zero]
theorem rn_card_0 : ∀ n, rn_card (fun _ => False) n = 0
  | 0 => rfl
  | n + 1 => by unfold rn_card; rw [rn_card_0 n, rn_bf id]; rfl
def rn_clj (N : Nat → Int) (r j : Int) (c : Nat) : Prop := ∃ k : Int, 0 ≤ k ∧ k < j ∧ (c : Int) = rn_py N r k.toNat * 60 + rn_px N r k.toNat
section SM3
variable {M : rn_M} {Q : rn_Q} {N : Nat → Int} {B : Int}
theorem rm_without (hM : rn_sh M) (hN : rn_gi M 467 = N) (v : rn_vd N) (k : Q (some (rn_I (rn_wo N (N 0).toNat))) M) : rn_ME 172 [rn_R 466] M Q := by
  have v0 := v.1
  have v2 := v.2.2.1
  refine re_Mo_without (rb_Mo_without_0 ?_)
  have loop : ∀ (m j : Nat), m + j = (N 0).toNat → rn_WP 172 4 [rn_R 466, rn_I (rn_wo N j), rn_I (j : Int)] [] M Q := by
    intro m
    induction m with
    | zero =>
      intro j hj
      refine rb_Mo_without_4 hM ?_ ?_ <;> (try rw [hN])
      · intro c; omega
      · intro _; rw [Nat.zero_add] at hj; rw [← hj] at k; exact k
    | succ m ih =>
      intro j hj
      have e : ((j + 1 : Nat) : Int) = (j : Int) + 1 := by omega
      refine rb_Mo_without_4 hM ?_ ?_ <;> (try rw [hN])
      · intro c
        have := ih (j + 1) (by omega)
        unfold rn_wo at this
        rw [e] at this
        refine rm_labelsOf hM hN v2 ?_
        refine rb_Mo_without_20 ?_ ?_ ?_ ?_
        · omega
        · omega
        · intro c; rw [rn_pick_t c] at this; exact this
        · intro c; rw [rn_pick_f c] at this; rw [rn_or_0 (rn_wo_i j)]; exact this
      · intro c; omega
  exact loop (N 0).toNat 0 (by omega)
/-- a new stamp -/
theorem rn_stamp (ma : rn_ma M B) : rn_fq M (rn_si M 466 8 (rn_gi M 466 8 + 1)) ∧ rn_ma (rn_si M 466 8 (rn_gi M 466 8 + 1)) (B + 1) ∧ rn_Mk (rn_si M 466 8 (rn_gi M 466 8 + 1)) (fun _ => False) := by
  obtain ⟨a1, a2, a3⟩ := ma
  have e8 : rn_gi (rn_si M 466 8 (rn_gi M 466 8 + 1)) 466 8 = rn_gi M 466 8 + 1 := rn_si_eq
  have e7 : rn_gi (rn_si M 466 8 (rn_gi M 466 8 + 1)) 472 = rn_gi M 472 := rn_si_gif (by omega)
  refine ⟨⟨rn_ch_si (Or.inl rfl), fun j hj => rn_si_ne (by omega)⟩, ⟨fun c hc => ?_, ?_, ?_⟩, fun c hc => ?_⟩
  · rw [e8, e7]; have := a1 c hc; omega
  · omega
  · omega
  · rw [e8, e7]
    have := a1 c hc
    exact ⟨fun z => by omega, False.elim⟩
theorem rn_ma_more {M' : rn_M} (ma : rn_ma M B) (c : rn_ch rn_PK M M') (w : ∀ c, rn_gi M' 472 c = rn_gi M 466 8 ∨ rn_gi M' 472 c = rn_gi M 472 c) : rn_ma M' B := by
  obtain ⟨a1, a2, a3⟩ := ma
  have h466 : rn_gi M' 466 = rn_gi M 466 := c.2.2 466 rn_PK_466
  refine ⟨fun c hc => ?_, ?_, ?_⟩ <;> (try rw [h466])
  · have := a1 c hc
    rcases w c with z | z <;> omega
  · exact a2
  · exact a3
theorem rn_fq_PK {M' : rn_M} (c : rn_ch rn_PK M M') : rn_fq M M' := ⟨rn_ch_mono rn_PK_Q c, fun j _ => by rw [c.2.2 466 rn_PK_466]⟩
theorem rm_covered (hM : rn_sh M) (hN : rn_gi M 467 = N) (v : rn_vd N) (ma : rn_ma M B) (hB : B ≤ 1999999000) (k : ∀ M', rn_fq M M' → rn_ma M' (B + 1) → Q (some (rn_I (rn_card (rn_cv2 N (N 2)) 2400))) M') : rn_ME 173 [rn_R 466] M Q := by
  have v0 := v.1
  have v2 := v.2.2.1
  have e0 : ∀ l : Int, N (522 + 2 * l).toNat = rn_lb N l 0 := fun l => by unfold rn_lb; rw [Int.add_zero]
  have e1 : ∀ l : Int, N (522 + 2 * l + 1).toNat = rn_lb N l 1 := fun l => rfl
  obtain ⟨f1, m1, k1⟩ := rn_stamp ma
  have a2 := ma.2
  refine re_Mo_covered (rb_Mo_covered_0 hM (by omega) ?_)
  generalize rn_si M 466 8 (rn_gi M 466 8 + 1) = M0 at *
  have loop : ∀ (m j : Nat) (M1 : rn_M), m + j = (N 2).toNat → rn_fq M M1 → rn_ma M1 (B + 1) → rn_Mk M1 (rn_cv2 N j) → rn_WP 173 14 [rn_R 466, rn_I (rn_card (rn_cv2 N j) 2400), rn_I (j : Int)] [] M1 Q := by
    intro m
    induction m with
    | zero =>
      intro j M1 hj c1 m1 k1
      have hN1 := rn_N_ch c1.1 rn_PQ_467 hN
      refine rb_Mo_covered_14 (rn_sh_ch c1.1 hM) ?_ ?_ ?_ <;> (try rw [hN1])
      · intro c; omega
      · intro c; omega
      · intro _
        rw [show (j : Int) = N 2 by omega]
        exact k M1 c1 m1
    | succ m ih =>
      intro j M1 hj c1 m1 k1
      have hM1 := rn_sh_ch c1.1 hM
      have hN1 := rn_N_ch c1.1 rn_PQ_467 hN
      have e : ((j + 1 : Nat) : Int) = (j : Int) + 1 := by omega
      have vl := v.2.2.2.2.2.2 j (by omega) (by omega)
      have vl1 := vl.1
      have vr := v.2.2.2.2.1 _ vl.1.1 vl.1.2
      refine rb_Mo_covered_14 hM1 ?_ ?_ ?_ <;> (try rw [hN1]) <;> (try rw [e0, e1])
      · intro _; omega
      · intro _
        refine rm_marksMore hM1 hN1 vr (by omega) vl.2.1.1 vl.2.2 k1 (fun M2 c2 w2 k2 => ?_)
        have iff : ∀ c, c < 2400 → ((rn_cv2 N j c ∨ rn_ar N (rn_lb N j 0) (rn_lb N j 1) c) ↔ rn_cv2 N ((j + 1 : Nat) : Int) c) := by
          intro c _
          unfold rn_cv2
          constructor
          · rintro (⟨x, x1, x2, x3⟩ | z)
            · exact ⟨x, x1, by omega, x3⟩
            · exact ⟨j, by omega, by omega, z⟩
          · rintro ⟨x, x1, x2, x3⟩
            rcases Int.lt_or_le x j with q | q
            · exact Or.inl ⟨x, x1, q, x3⟩
            · have : x = j := by omega
              subst this
              exact Or.inr x3
        have this := ih (j + 1) M2 (by omega) (rn_fq_tr c1 (rn_fq_PK c2)) (rn_ma_more m1 c2 w2) (rn_Mk_congr iff k2)
        rw [rn_card_congr 2400 iff]
        have b1 := rn_card_r (rn_cv2 N j) 2400
        have b2 := rn_card_r (rn_cv2 N ((j + 1 : Nat) : Int)) 2400
        refine rb_Mo_covered_55 ?_ ?_
        · omega
        · rw [← e, show rn_card (rn_cv2 N j) 2400 + (rn_card (rn_cv2 N ((j + 1 : Nat) : Int)) 2400 - rn_card (rn_cv2 N j) 2400) = rn_card (rn_cv2 N ((j + 1 : Nat) : Int)) 2400 by omega]
          exact this
      · intro c; omega
  have iff0 : ∀ c : Nat, c < 2400 → (False ↔ rn_cv2 N ((0 : Nat) : Int) c) := fun c _ => ⟨False.elim, fun ⟨x, x1, x2, _⟩ => by omega⟩
  have := loop (N 2).toNat 0 M0 (by omega) f1 m1 (rn_Mk_congr iff0 k1)
  rw [← rn_card_congr 2400 iff0, rn_card_0] at this
  exact this
theorem rm_differentCells {r : Int} (hM : rn_sh M) (hN : rn_gi M 467 = N) (v : rn_vR N r) (hr : 0 ≤ r ∧ r ≤ 5) (ma : rn_ma M B) (hB : B ≤ 1999999000) (k : ∀ M', rn_fq M M' → rn_ma M' (B + 1) → Q (some (rn_I (rn_card (rn_clr N r) 2400))) M') : rn_ME 175 [rn_R 466, rn_I r] M Q := by
  have v5 := v.2.2.2.1
  obtain ⟨f0, m0, k0⟩ := rn_stamp ma
  have a2 := ma.2
  refine re_Mo_differentCells (rb_Mo_differentCells_0 hM (by omega) ?_)
  generalize rn_si M 466 8 (rn_gi M 466 8 + 1) = M0 at *
  refine rm_walks (rn_sh_ch f0.1 hM) (rn_N_ch f0.1 rn_PQ_467 hN) v hr (fun M1 c1 w1 => rb_Mo_differentCells_15 ?_)
  have f1 := rn_fq_tr f0 (rn_fq_PW c1)
  have m1 := rn_ma_PW c1 m0
  have k1 := rn_Mk_PW c1 k0
  have h8 : rn_gi M1 466 = rn_gi M1 466 := rfl
  have loop : ∀ (m j : Nat) (M2 : rn_M) (w : rn_V), m + j = (rn_o N r 5 + 1).toNat → rn_cm M1 M2 → rn_Mk M2 (rn_clj N r j) → rn_WP 175 19 [rn_R 466, rn_I r, rn_I (rn_card (rn_clj N r j) 2400), rn_I (j : Int), w] [] M2 Q := by
    intro m
    induction m with
    | zero =>
      intro j M2 w hj c2 k2
      have hM2 := rn_sh_ch c2.1 (rn_sh_ch f1.1 hM)
      have hN2 : rn_gi M2 467 = N := (c2.1.2.2 467 (fun z => by unfold rn_PM at z; omega)).trans (rn_N_ch f1.1 rn_PQ_467 hN)
      refine rb_Mo_differentCells_19 hM2 ?_ ?_ ?_ ?_ ?_ ?_ ?_ <;> (try rw [hN2])
      · omega
      · intro c; omega
      · intro c; omega
      · intro c; omega
      · intro _
        rw [rn_card_congr (S' := rn_clr N r) 2400 (fun c _ => by unfold rn_clr rn_clj; constructor <;> (rintro ⟨x, x1, x2, x3⟩; exact ⟨x, x1, by omega, x3⟩))]
        exact k M2 (rn_fq_tr f1 (rn_fq_PK (rn_ch_mono rn_PM_K c2.1))) (rn_ma_more m1 (rn_ch_mono rn_PM_K c2.1) c2.2)
      · intro c; omega
      · intro c; omega
    | succ m ih =>
      intro j M2 w hj c2 k2
      have hM2 := rn_sh_ch c2.1 (rn_sh_ch f1.1 hM)
      have hN2 : rn_gi M2 467 = N := (c2.1.2.2 467 (fun z => by unfold rn_PM at z; omega)).trans (rn_N_ch f1.1 rn_PQ_467 hN)
      have h66 : rn_gi M2 466 = rn_gi M1 466 := c2.1.2.2 466 (fun z => by unfold rn_PM at z; omega)
      have wk := rn_Wk_PM c2.1 w1 j (by omega) (by omega)
      have vxy := v.2.2.2.2.2.2 j (by omega) (by omega)
      have e : ((j + 1 : Nat) : Int) = (j : Int) + 1 := by omega
      have hq : (60 * rn_py N r (j : Int).toNat + rn_px N r (j : Int).toNat).toNat < 2400 := by omega
      have kq := k2 _ hq
      have cb := rn_card_r (rn_clj N r j) 2400
      have sp : ∀ c : Nat, (rn_clj N r j c ∨ c = (60 * rn_py N r (j : Int).toNat + rn_px N r (j : Int).toNat).toNat) ↔ rn_clj N r ((j + 1 : Nat) : Int) c := by
        intro c
        clear kq cb k2
        unfold rn_clj
        constructor
        · rintro (⟨x, x1, x2, x3⟩ | z)
          · exact ⟨x, x1, by omega, x3⟩
          · exact ⟨j, by omega, by omega, by omega⟩
        · rintro ⟨x, x1, x2, x3⟩
          rcases Int.lt_or_le x j with q | q
          · exact Or.inl ⟨x, x1, q, x3⟩
          · have : x = j := by omega
            subst this
            exact Or.inr (by omega)
      have km : rn_Mk (rn_si M2 472 (60 * rn_py N r (j : Int).toNat + rn_px N r (j : Int).toNat).toNat (rn_gi M2 466 8)) (rn_clj N r ((j + 1 : Nat) : Int)) := by
        intro c hc
        rw [rn_si_gif (a := 472) (b := 466) (by omega), ← sp c]
        by_cases z : c = (60 * rn_py N r (j : Int).toNat + rn_px N r (j : Int).toNat).toNat
        · rw [z, rn_si_eq]; exact ⟨fun _ => Or.inr rfl, fun _ => rfl⟩
        · rw [rn_si_ne (fun q => z q.2), k2 c hc]; exact ⟨Or.inl, fun q => q.elim id (fun q => absurd q z)⟩
      have this := fun w => ih (j + 1) _ w (by omega) (rn_cm_si c2 h66) km
      refine rb_Mo_differentCells_19 hM2 ?_ ?_ ?_ ?_ ?_ ?_ ?_ <;> (try rw [hN2]) <;> (try rw [wk.1, wk.2])
      · omega
      · intro _; omega
      · intro _ _; omega
      · intro _ _; omega
      · intro c; omega
      · intro _ c
        rw [Int.add_zero]
        have t := this (rn_I (60 * rn_py N r (j : Int).toNat + rn_px N r (j : Int).toNat))
        rw [rn_card_congr (S' := rn_clj N r j) 2400 (fun c2 _ => ?_), e] at t
        · exact t
        · refine (sp c2).symm.trans ⟨fun z => z.elim id (fun q => ?_), Or.inl⟩
          rw [q]; exact kq.mp c
      · intro _ c
        have t := this (rn_I (60 * rn_py N r (j : Int).toNat + rn_px N r (j : Int).toNat))
        rw [← rn_card_congr (S := fun c => rn_clj N r j c ∨ c = (60 * rn_py N r (j : Int).toNat + rn_px N r (j : Int).toNat).toNat) 2400 (fun c2 _ => sp c2), rn_card_in 2400 hq (fun z => c (kq.mpr z)), e] at t
        exact t
  have iff0 : ∀ c : Nat, c < 2400 → (False ↔ rn_clj N r ((0 : Nat) : Int) c) := fun c _ => ⟨False.elim, fun ⟨x, x1, x2, _⟩ => by omega⟩
  have := loop (rn_o N r 5 + 1).toNat 0 M1 rn_J (by omega) ⟨rn_ch_rf, fun c => Or.inr rfl⟩ (rn_Mk_congr iff0 k1)
  rw [← rn_card_congr 2400 iff0, rn_card_0] at this
  exact this
theorem rm_townsOf {r s : Int} (hM : rn_sh M) (hN : rn_gi M 467 = N) (v : rn_vd N) (vr : rn_vR N r) (hr : 0 ≤ r ∧ r ≤ 5) (s0 : 0 ≤ s) (s1 : s + rn_o N r 0 ≤ rn_o N r 5 + 1) (ma : rn_ma M B) (hB : B ≤ 1999999000) (k : ∀ M', rn_fq M M' → rn_ma M' (B + 1) → Q (some (rn_I (rn_card (fun t => rn_mt' N r s t) (N 1).toNat))) M') : rn_ME 180 [rn_R 466, rn_I r, rn_I s] M Q := by
  have v1 := v.2.1
  refine re_Mo_townsOf (rb_Mo_townsOf_0 hM (rm_marks hM hN vr hr s0 s1 ma (by omega) (fun M1 c1 e1 m1 k1 => rb_Mo_townsOf_6 ?_)))
  have hM1 := rn_sh_ch c1 hM
  have hN1 := rn_N_ch c1 rn_PQ_467 hN
  have loop : ∀ (m j : Nat), m + j = (N 1).toNat → rn_WP 180 13 [rn_R 466, rn_I r, rn_I s, rn_I (rn_card (rn_ar N r s) 2400), rn_I (rn_card (fun t => rn_mt' N r s t) j), rn_I (j : Int)] [] M1 Q := by
    intro m
    induction m with
    | zero =>
      intro j hj
      refine rb_Mo_townsOf_13 hM1 ?_ ?_ <;> (try rw [hN1])
      · intro c; omega
      · intro _; rw [Nat.zero_add] at hj; rw [← hj] at k; exact k M1 ⟨c1, e1⟩ m1
    | succ m ih =>
      intro j hj
      have hc := rn_card_r (fun t => rn_mt' N r s t) j
      have e : ((j + 1 : Nat) : Int) = (j : Int) + 1 := by omega
      have vt := v.2.2.2.2.2.1 j (by omega) (by omega)
      have := ih (j + 1) (by omega)
      unfold rn_card at this
      rw [e] at this
      refine rb_Mo_townsOf_13 hM1 ?_ ?_ <;> (try rw [hN1])
      · intro _
        refine rm_meetsTown hM1 hN1 (by omega) vt k1 ?_
        rw [rn_b_iff (rn_geo_t vr vt s0 s1)]
        refine rb_Mo_townsOf_32 ?_ ?_ ?_ ?_
        · omega
        · omega
        · intro c; rw [rn_bf (P := rn_mt' N r s (j : Int)) (rn_b0 c)] at this; exact this
        · intro c; rw [rn_bt (P := rn_mt' N r s (j : Int)) (rn_b1 c)] at this; exact this
      · intro c; omega
  exact loop (N 1).toNat 0 (by omega)
end SM3
