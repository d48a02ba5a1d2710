/-! the questions: answers as functions of the row, and the class's methods -/
def rn_P5 (a : Nat) : Prop := a = 463 ∨ a = 464 ∨ a = 465
theorem rn_P5_b : ∀ a, 14 ≤ a → a < 462 → ¬ rn_P5 a := fun a _ h2 h => by unfold rn_P5 at h; omega
theorem rn_P3_5 : ∀ a, rn_P3 a → rn_P5 a := fun _ h => Or.inl h
theorem rn_P2_5 : ∀ a, rn_P2 a → rn_P5 a := fun _ h => Or.inr h
noncomputable def rn_aCount (N : Nat → Int) (n len what : Int) : Int :=
  if what < 0 ∨ 9 < what then -1 else if what < 4 then N what.toNat else if what = 4 then rn_cs N (N 2).toNat else if what = 5 then rn_card (fun l => rn_mf N l) (N 2).toNat else if what = 6 then rn_wo N (N 0).toNat else if what = 7 then rn_card (rn_cv2 N (N 2)) 2400 else if what = 8 then n else len
noncomputable def rn_aRiver (N : Nat → Int) (r what : Int) : Int :=
  if ¬ (0 ≤ r ∧ r < N 0) ∨ what < 0 ∨ 6 < what then -1 else if what = 0 then rn_o N r 1 else if what = 1 then rn_o N r 2 else if what = 2 then rn_o N r 0 else if what = 3 then rn_o N r 5 else if what = 4 then rn_lo N r else if what = 5 then rn_card (rn_clr N r) 2400 else rn_bend N r 0 (rn_o N r 5 + 1)
def rn_aCell (N : Nat → Int) (r x : Int) : Int :=
  if ¬ (0 ≤ r ∧ r < N 0) ∨ ¬ (0 ≤ x ∧ x ≤ 60) then -1 else if x ≤ rn_o N r 5 then 100 * rn_px N r x.toNat + rn_py N r x.toNat else -9
def rn_aLetter (N : Nat → Int) (r i : Int) : Int :=
  if ¬ (0 ≤ r ∧ r < N 0) ∨ i < 0 then -1 else if i < rn_o N r 0 then rn_o N r (6 + i) else -9
noncomputable def rn_aTown (N : Nat → Int) (t what : Int) : Int :=
  if ¬ (0 ≤ t ∧ t < N 1) ∨ what < 0 ∨ 5 < what then -1 else if what < 5 then rn_tw N t what else rn_card (fun l => rn_mt' N (rn_lb N l 0) (rn_lb N l 1) t) (N 2).toNat
noncomputable def rn_aLabel (N : Nat → Int) (l what : Int) : Int :=
  if ¬ (0 ≤ l ∧ l < N 2) ∨ what < 0 ∨ 7 < what then -1 else if what = 0 then rn_lb N l 0 else if what = 1 then rn_lb N l 1 else if what = 2 then rn_cost N (rn_lb N l 0) (rn_lb N l 1) else if what = 3 then rn_bend N (rn_lb N l 0) (rn_lb N l 1) (rn_o N (rn_lb N l 0) 0) else if what = 4 then rn_b (rn_trn N (rn_lb N l 0) (rn_lb N l 1)) else if what = 5 then rn_card (rn_ar N (rn_lb N l 0) (rn_lb N l 1)) 2400 else if what = 6 then rn_why N (rn_lb N l 0) (rn_lb N l 1) (rn_o N (rn_lb N l 0) 1) l else rn_card (fun t => rn_mt' N (rn_lb N l 0) (rn_lb N l 1) t) (N 1).toNat
noncomputable def rn_aWritten (N : Nat → Int) (x y : Int) : Int :=
  if ¬ ((0 ≤ x ∧ x < 60) ∧ 0 ≤ y ∧ y < 40) then -1 else rn_wv N x y (rn_wb N x y (N 2).toNat)
def rn_aBend (N : Nat → Int) (r s p : Int) : Int :=
  if ¬ (0 ≤ r ∧ r < N 0) ∨ ¬ (0 ≤ s ∧ s ≤ 60) ∨ ¬ (1 ≤ p ∧ p ≤ 61) then -1 else if s + p ≤ rn_o N r 5 + 1 then rn_bend N r s p else -9
noncomputable def rn_aStraight (N : Nat → Int) (r p : Int) : Int :=
  if ¬ (0 ≤ r ∧ r < N 0) ∨ ¬ (1 ≤ p ∧ p ≤ 61) then -1 else rn_stn N r p (rn_o N r 5 + 1 - p + 1).toNat
noncomputable def rn_aReason (N : Nat → Int) (r s : Int) : Int :=
  if ¬ (0 ≤ r ∧ r < N 0) ∨ ¬ (0 ≤ s ∧ s ≤ 60) then -1 else rn_why N r s (rn_o N r 1) (-9)
noncomputable def rn_aBest (N : Nat → Int) (r what : Int) : Int :=
  if ¬ (0 ≤ r ∧ r < N 0) ∨ ¬ (0 ≤ what ∧ what ≤ 1) then -1 else if rn_best N r = -9 ∨ what = 0 then rn_best N r else rn_cost N r (rn_best N r)
section QRY
variable {M : rn_M} {Q : rn_Q} {N : Nat → Int} {n : Int} {K : Nat → Nat → Int}
theorem rn_Cs_ch {M' : rn_M} {P : Nat → Prop} (hP : ∀ a, 12 ≤ a → a < 462 → ¬ P a) (c : rn_ch P M M') (h : rn_Cs M N n K) : rn_Cs M' N n K := by
  obtain ⟨pr, dr, kp, ⟨⟨h1, h2, h3⟩, ⟨b1, b2, b3⟩, d⟩, g2, g3, g4, g5, g6⟩ := h
  have hP' : ∀ a, 14 ≤ a → a < 462 → ¬ P a := fun a h1 h2 => hP a (by omega) h2
  refine ⟨pr, dr, kp, ⟨⟨(c.2.1 _ _).trans h1, (c.2.1 _ _).trans h2, fun i hi => (c.2.1 _ _).trans (h3 i hi)⟩, ⟨⟨b1.1, rn_Bw_ch hP' c b1.1 b1.2⟩, ⟨b2.1, rn_Bw_ch hP' c b2.1 b2.2⟩, fun i hi => ⟨(b3 i hi).1, rn_Bw_ch hP' c (b3 i hi).1 (b3 i hi).2⟩⟩, d⟩, rn_Rp_ch hP' c b1.1 g3 g2, g3, ?_, g5, fun i hi => ⟨rn_Rp_ch hP' c (b3 i (by omega)).1 (g6 i hi).2 (g6 i hi).1, (g6 i hi).2⟩⟩
  rw [c.2.2 12 (hP 12 (by omega) (by omega))]; exact g4
theorem rn_why_neg {r s k but : Int} (h : but < 0) : rn_why N r s k but = rn_why N r s k (-9) := by
  have e1 : rn_cr N r s but = rn_cr N r s (-9) := propext (rn_cr_neg h)
  have e2 : rn_w4 N r s k but = rn_w4 N r s k (-9) := propext ((rn_w4_iff (fun q => by omega)).trans (rn_w4_iff (fun q => by omega)).symm)
  unfold rn_why
  rw [e1, e2]
theorem rq_count (hM : rn_sh M) (h : rn_Cs M N n K) {what : Int} (k : ∀ M', rn_ch rn_P5 M M' → Q (some (rn_I (rn_aCount N n (rn_gi M 10 0) what))) M') : rn_ME 106 [rn_R 8, rn_I what] M Q := by
  obtain ⟨pr, dr, kp, g1, g2, g3, g4, g5, g6⟩ := h
  have hB := g1.2.1.1.1
  have e := rn_goe g1.1.1
  unfold rn_aCount at k
  refine re_RN_count (rb_RN_count_0 hM ?_ ?_ ?_ ?_ ?_ ?_ ?_ ?_ ?_ ?_ ?_ ?_ ?_ ?_ ?_ ?_ ?_ ?_ ?_) <;> (try rw [e])
  · exact g1.1.1
  · exact fun _ => hB
  · exact fun _ => hB
  · exact fun _ => hB
  · exact fun _ => hB
  · exact fun _ => hB
  · exact fun _ => hB
  · exact fun _ => hB
  · intro c; rw [if_pos c] at k; exact k M rn_ch_rf
  · intro c; subst c; rw [g2.1.1]; exact k M rn_ch_rf
  · intro c; subst c; rw [g2.1.2.1]; exact k M rn_ch_rf
  · intro c; subst c; rw [g2.1.2.2.1]; exact k M rn_ch_rf
  · intro c; subst c; rw [g2.1.2.2.2]; exact k M rn_ch_rf
  · intro c; subst c; exact rs_costOfLabels hM hB g2 g3 (rb_RN_count_88 (k M rn_ch_rf))
  · intro c; subst c; exact rs_misfits hM hB g2 g3 (rb_RN_count_97 (k M rn_ch_rf))
  · intro c; subst c; exact rs_riversWithoutLabel hM hB g2 g3 (rb_RN_count_102 (k M rn_ch_rf))
  · intro c; subst c; exact rs_cellsOfLabels hM hB g2 g3 (fun M' c1 => rb_RN_count_111 (k M' (rn_ch_mono rn_P2_5 c1)))
  · intro c; subst c; rw [g4]; exact k M rn_ch_rf
  · intro c; subst c; exact k M rn_ch_rf
theorem rq_cell (hM : rn_sh M) (h : rn_Cs M N n K) {r x : Int} (k : Q (some (rn_I (rn_aCell N r x))) M) : rn_ME 108 [rn_R 8, rn_I r, rn_I x] M Q := by
  obtain ⟨pr, dr, kp, g1, g2, g3, g4, g5, g6⟩ := h
  have hB := g1.2.1.1.1
  have e := rn_goe g1.1.1
  unfold rn_aCell at k
  refine re_RN_cell (rb_RN_cell_0 hM ?_ ?_) <;> rw [e]
  · exact ⟨g1.1.1, hB⟩
  · refine rs_riverAt hM hB g2 g3 (fun r0 r1 => ?_) (fun c => rb_RN_cell_11n (by rw [if_pos (Or.inl c)] at k; exact k))
    have hr := g2.2.2.1 r r0 r1
    have vr := g3.2.2.2.2.1 r r0 r1
    have v5 := vr.2.2.2.1
    have pr' := rn_isR_i hB g3 r0 r1
    refine rb_RN_cell_11s hM pr' ?_ ?_ ?_ ?_ <;> (try rw [hr.2.2.2.1])
    · intro c1 c2
      have exy := hr.2.2.2.2.2.2 x c2.1 c2.2
      have vxy := vr.2.2.2.2.2.2 x c2.1 c2.2
      rw [exy.1, exy.2]
      omega
    · intro c; rw [if_pos (Or.inr c)] at k; exact k
    · intro c1 c2; rw [if_neg (by omega), if_neg (by omega)] at k; exact k
    · intro c1 c2
      have exy := hr.2.2.2.2.2.2 x c2.1 c2.2
      rw [exy.1, exy.2]
      rw [if_neg (by omega), if_pos c2.2] at k; exact k
theorem rq_letter (hM : rn_sh M) (h : rn_Cs M N n K) {r x : Int} (k : Q (some (rn_I (rn_aLetter N r x))) M) : rn_ME 109 [rn_R 8, rn_I r, rn_I x] M Q := by
  obtain ⟨pr, dr, kp, g1, g2, g3, g4, g5, g6⟩ := h
  have hB := g1.2.1.1.1
  have e := rn_goe g1.1.1
  unfold rn_aLetter at k
  refine re_RN_letter (rb_RN_letter_0 hM ?_ ?_) <;> rw [e]
  · exact ⟨g1.1.1, hB⟩
  · refine rs_riverAt hM hB g2 g3 (fun r0 r1 => ?_) (fun c => rb_RN_letter_11n (by rw [if_pos (Or.inl c)] at k; exact k))
    have hr := g2.2.2.1 r r0 r1
    have vr := g3.2.2.2.2.1 r r0 r1
    have v0 := vr.1
    have pr' := rn_isR_i hB g3 r0 r1
    refine rb_RN_letter_11s hM pr' ?_ ?_ ?_
    · rw [hr.2.2.1]; omega
    · intro c
      rw [if_neg (by omega)] at k
      unfold rn_lt2
      rw [hr.2.2.1]
      by_cases c2 : x < rn_o N r 0
      · rw [if_pos c2] at k; rw [if_pos (by omega), hr.2.2.2.2.1 x c c2]; exact k
      · rw [if_neg c2] at k; rw [if_neg (by omega)]; exact k
    · intro c; rw [if_pos (by omega)] at k; exact k
theorem rq_river (hM : rn_sh M) (h : rn_Cs M N n K) {r what : Int} (k : ∀ M', rn_ch rn_P5 M M' → Q (some (rn_I (rn_aRiver N r what))) M') : rn_ME 107 [rn_R 8, rn_I r, rn_I what] M Q := by
  obtain ⟨pr, dr, kp, g1, g2, g3, g4, g5, g6⟩ := h
  have hB := g1.2.1.1.1
  have e := rn_goe g1.1.1
  unfold rn_aRiver at k
  refine re_RN_river (rb_RN_river_0 hM ?_ ?_) <;> rw [e]
  · exact ⟨g1.1.1, hB⟩
  · refine rs_riverAt hM hB g2 g3 (fun r0 r1 => ?_) (fun c => rb_RN_river_13n (by rw [if_pos (Or.inl c)] at k; exact k M rn_ch_rf))
    have hr := g2.2.2.1 r r0 r1
    have vr := g3.2.2.2.2.1 r r0 r1
    have v5 := vr.2.2.2.1
    have pr' := rn_isR_i hB g3 r0 r1
    refine rb_RN_river_13s hM pr' hB ?_ ?_ ?_ ?_ ?_ ?_ ?_ ?_ ?_
    · rw [hr.2.2.2.1]; omega
    · intro c; rw [if_pos (Or.inr c)] at k; exact k M rn_ch_rf
    · intro c; subst c; rw [if_neg (by omega)] at k; rw [hr.1]; exact k M rn_ch_rf
    · intro c; subst c; rw [if_neg (by omega)] at k; rw [hr.2.1]; exact k M rn_ch_rf
    · intro c; subst c; rw [if_neg (by omega)] at k; rw [hr.2.2.1]; exact k M rn_ch_rf
    · intro c; subst c; rw [if_neg (by omega)] at k; rw [hr.2.2.2.1]; exact k M rn_ch_rf
    · intro c; subst c; rw [if_neg (by omega)] at k; exact rs_labelsOf hM hB g2 g3 r0 r1 (rb_RN_river_94 (k M rn_ch_rf))
    · intro c; subst c; rw [if_neg (by omega)] at k; exact rs_Ri_differentCells hM pr' hr vr (fun M' c1 => rb_RN_river_104 (k M' (rn_ch_mono rn_P2_5 c1)))
    · intro c; subst c; rw [if_neg (by omega)] at k; rw [hr.2.2.2.1]; exact rs_bendOf hM pr' hr vr (by omega) (by omega) (by omega) (rb_RN_river_118 (k M rn_ch_rf))
theorem rq_town (hM : rn_sh M) (h : rn_Cs M N n K) {t what : Int} (k : Q (some (rn_I (rn_aTown N t what))) M) : rn_ME 110 [rn_R 8, rn_I t, rn_I what] M Q := by
  obtain ⟨pr, dr, kp, g1, g2, g3, g4, g5, g6⟩ := h
  have hB := g1.2.1.1.1
  have e := rn_goe g1.1.1
  have w1 := g3.2.1
  unfold rn_aTown at k
  refine re_RN_town (rb_RN_town_0 hM ?_ ?_) <;> rw [e]
  · exact ⟨g1.1.1, hB⟩
  · refine rs_townAt hM hB g2 g3 (fun t0 t1 => ?_) (fun c => rb_RN_town_13n (by rw [if_pos (Or.inl c)] at k; exact k))
    have ht := g2.2.2.2.1 t t0 t1
    refine rb_RN_town_13s hM (rn_isT_of hB (by omega)) hB ?_ ?_ ?_ ?_ ?_ ?_ ?_
    · intro c; rw [if_pos (Or.inr c)] at k; exact k
    · intro c; subst c; rw [if_neg (by omega)] at k; rw [ht.1]; exact k
    · intro c; subst c; rw [if_neg (by omega)] at k; rw [ht.2.1]; exact k
    · intro c; subst c; rw [if_neg (by omega)] at k; rw [ht.2.2.1]; exact k
    · intro c; subst c; rw [if_neg (by omega)] at k; rw [ht.2.2.2.1]; exact k
    · intro c; subst c; rw [if_neg (by omega)] at k; rw [ht.2.2.2.2]; exact k
    · intro c; subst c; rw [if_neg (by omega)] at k; exact rs_labelsOver hM hB g2 g3 t0 t1 (rb_RN_town_96 k)
theorem rq_label (hM : rn_sh M) (h : rn_Cs M N n K) {l what : Int} (k : ∀ M', rn_ch rn_P5 M M' → Q (some (rn_I (rn_aLabel N l what))) M') : rn_ME 111 [rn_R 8, rn_I l, rn_I what] M Q := by
  obtain ⟨pr, dr, kp, g1, g2, g3, g4, g5, g6⟩ := h
  have hB := g1.2.1.1.1
  have e := rn_goe g1.1.1
  have w0 := g3.1
  unfold rn_aLabel at k
  refine re_RN_label (rb_RN_label_0 hM ?_ ?_) <;> rw [e]
  · exact ⟨g1.1.1, hB⟩
  · refine rs_labelAt hM hB g2 g3 (fun q l0 l1 hq => ?_) (fun c => rb_RN_label_13n (by rw [if_pos (Or.inl c)] at k; exact k M rn_ch_rf))
    have vl := g3.2.2.2.2.2.2 l l0 l1
    have vl1 := vl.1.2
    have go := rn_Lb_go hq
    have hr := g2.2.2.1 _ vl.1.1 vl.1.2
    have vr := g3.2.2.2.2.1 _ vl.1.1 vl.1.2
    have v0 := vr.1
    have pr' := rn_isR_i hB g3 vl.1.1 vl.1.2
    refine rb_RN_label_13s hM hq.1 hB ?_ ?_ ?_ ?_ ?_ ?_ ?_ ?_ ?_ ?_ ?_ ?_ ?_ ?_ <;> (try rw [go])
    · exact hq.2.1
    · exact fun _ => pr'
    · exact fun _ => pr'
    · exact fun _ => pr'
    · exact fun _ => pr'
    · intro c; rw [if_pos (Or.inr c)] at k; exact k M rn_ch_rf
    · intro c; subst c; rw [if_neg (by omega)] at k; rw [g2.2.1 _ vl.1.1 (by omega)]; exact k M rn_ch_rf
    · intro c; subst c; rw [if_neg (by omega)] at k; rw [hq.2.2]; exact k M rn_ch_rf
    · intro c; subst c; rw [if_neg (by omega)] at k; rw [hq.2.2]; exact rs_costOf hM pr' hr vr vl.2.1.1 vl.2.2 (rb_RN_label_98 (k M rn_ch_rf))
    · intro c; subst c; rw [if_neg (by omega)] at k; rw [hq.2.2, hr.2.2.1]; exact rs_bendOf hM pr' hr vr vl.2.1.1 (by omega) vl.2.2 (rb_RN_label_114 (k M rn_ch_rf))
    · intro c; subst c; rw [if_neg (by omega)] at k; rw [hq.2.2]
      have k := k M rn_ch_rf
      exact rs_turnsNameAt hM pr' hr vr vl.2.1.1 vl.2.2 (rb_RN_label_125 (fun c => rn_kf (rn_b0 c) k) (fun c => rn_kt (rn_b1 c) k))
    · intro c; subst c; rw [if_neg (by omega)] at k; exact rs_cells hM hB g2 g3 l0 l1 hq (fun M' c1 => rb_RN_label_143 (k M' (rn_ch_mono rn_P2_5 c1)))
    · intro c; subst c; rw [if_neg (by omega)] at k; rw [hq.2.2]; exact rs_reasonAgainst hM hB g2 g3 vl.1.1 vl.1.2 vl.2.1 (fun _ => rfl) (rb_RN_label_160 (k M rn_ch_rf))
    · intro c; subst c; rw [if_neg (by omega)] at k; exact rs_townsUnder hM hB g2 g3 l0 l1 hq (rb_RN_label_167 (k M rn_ch_rf))
theorem rq_written (hM : rn_sh M) (h : rn_Cs M N n K) {x y : Int} (k : Q (some (rn_I (rn_aWritten N x y))) M) : rn_ME 112 [rn_R 8, rn_I x, rn_I y] M Q := by
  obtain ⟨pr, dr, kp, g1, g2, g3, g4, g5, g6⟩ := h
  have hB := g1.2.1.1.1
  have e := rn_goe g1.1.1
  unfold rn_aWritten at k
  refine re_RN_written (rb_RN_written_0 hM ?_ ?_ ?_) <;> (try rw [e])
  · exact fun _ => ⟨g1.1.1, hB⟩
  · intro c; rw [if_pos c] at k; exact k
  · intro c; rw [if_neg (fun z => z c)] at k; exact rs_signOn hM hB g2 g3 c.1 c.2 (rb_RN_written_22 k)
theorem rq_bend (hM : rn_sh M) (h : rn_Cs M N n K) {r s x : Int} (k : Q (some (rn_I (rn_aBend N r s x))) M) : rn_ME 113 [rn_R 8, rn_I r, rn_I s, rn_I x] M Q := by
  obtain ⟨pr, dr, kp, g1, g2, g3, g4, g5, g6⟩ := h
  have hB := g1.2.1.1.1
  have e := rn_goe g1.1.1
  unfold rn_aBend at k
  refine re_RN_bend (rb_RN_bend_0 hM ?_ ?_) <;> rw [e]
  · exact ⟨g1.1.1, hB⟩
  · refine rs_riverAt hM hB g2 g3 (fun r0 r1 => ?_) (fun c => rb_RN_bend_11n (by rw [if_pos (Or.inl c)] at k; exact k))
    have hr := g2.2.2.1 r r0 r1
    have vr := g3.2.2.2.2.1 r r0 r1
    have v5 := vr.2.2.2.1
    have pr' := rn_isR_i hB g3 r0 r1
    refine rb_RN_bend_11s hM pr' ?_ ?_ ?_ ?_ ?_ <;> (try rw [hr.2.2.2.1])
    · omega
    · intro c; rw [if_pos (Or.inr (Or.inl c))] at k; exact k
    · intro _ c; rw [if_pos (Or.inr (Or.inr c))] at k; exact k
    · intro c1 c2 c3; rw [if_neg (by omega), if_neg (by omega)] at k; exact k
    · intro c1 c2 c3; rw [if_neg (by omega), if_pos (by omega)] at k; exact rs_bendOf hM pr' hr vr c1.1 (by omega) (by omega) (rb_RN_bend_54 k)
theorem rq_straightest (hM : rn_sh M) (h : rn_Cs M N n K) {r x : Int} (k : Q (some (rn_I (rn_aStraight N r x))) M) : rn_ME 114 [rn_R 8, rn_I r, rn_I x] M Q := by
  obtain ⟨pr, dr, kp, g1, g2, g3, g4, g5, g6⟩ := h
  have hB := g1.2.1.1.1
  have e := rn_goe g1.1.1
  unfold rn_aStraight at k
  refine re_RN_straightest (rb_RN_straightest_0 hM ?_ ?_) <;> rw [e]
  · exact ⟨g1.1.1, hB⟩
  · refine rs_riverAt hM hB g2 g3 (fun r0 r1 => ?_) (fun c => rb_RN_straightest_11n (by rw [if_pos (Or.inl c)] at k; exact k))
    have pr' := rn_isR_i hB g3 r0 r1
    refine rb_RN_straightest_11s hM pr' ?_ ?_
    · intro c; rw [if_pos (Or.inr c)] at k; exact k
    · intro c; rw [if_neg (by omega)] at k; exact rs_straightestStart hM pr' (g2.2.2.1 r r0 r1) (g3.2.2.2.2.1 r r0 r1) c (rb_RN_straightest_33 k)
theorem rq_reason (hM : rn_sh M) (h : rn_Cs M N n K) {r s : Int} (k : Q (some (rn_I (rn_aReason N r s))) M) : rn_ME 115 [rn_R 8, rn_I r, rn_I s] M Q := by
  obtain ⟨pr, dr, kp, g1, g2, g3, g4, g5, g6⟩ := h
  have hB := g1.2.1.1.1
  have e := rn_goe g1.1.1
  unfold rn_aReason at k
  refine re_RN_reason (rb_RN_reason_0 hM ?_ ?_) <;> rw [e]
  · exact ⟨g1.1.1, hB⟩
  · refine rs_riverAt hM hB g2 g3 (fun r0 r1 => ?_) (fun c => rb_RN_reason_13n (by rw [if_pos (Or.inl c)] at k; exact k))
    refine rb_RN_reason_13s hM ?_ ?_
    · intro c; rw [if_pos (Or.inr c)] at k; exact k
    · intro c; rw [if_neg (by omega)] at k
      refine rs_reasonAgainst hM hB g2 g3 r0 r1 c (fun q => by omega) (rb_RN_reason_41 ?_)
      rw [rn_why_neg (by omega)]; exact k
theorem rq_best (hM : rn_sh M) (h : rn_Cs M N n K) {r what : Int} (k : ∀ M', rn_ch rn_P5 M M' → Q (some (rn_I (rn_aBest N r what))) M') : rn_ME 116 [rn_R 8, rn_I r, rn_I what] M Q := by
  obtain ⟨pr, dr, kp, g1, g2, g3, g4, g5, g6⟩ := h
  have hB := g1.2.1.1.1
  have e := rn_goe g1.1.1
  unfold rn_aBest at k
  refine re_RN_best (rb_RN_best_0 hM ?_ ?_) <;> rw [e]
  · exact ⟨g1.1.1, hB⟩
  · refine rs_riverAt hM hB g2 g3 (fun r0 r1 => ?_) (fun c => rb_RN_best_13n (by rw [if_pos (Or.inl c)] at k; exact k M rn_ch_rf))
    refine rb_RN_best_13s hM ?_ ?_
    · intro c; rw [if_pos (Or.inr c)] at k; exact k M rn_ch_rf
    · intro c; rw [if_neg (by omega)] at k
      refine rs_bestStart hM hB g2 g3 r0 r1 (fun M' c1 => ?_)
      have s1 := rn_sh_ch c1 hM
      have r1' := rn_Rp_ch rn_P3_b c1 hB g3 g2
      have k := k M' (rn_ch_mono rn_P3_5 c1)
      have pr' := rn_isR_i hB g3 r0 r1
      refine rb_RN_best_41 s1 pr' ?_ ?_ ?_
      · intro c; rw [if_pos (Or.inl c)] at k; exact k
      · intro _ c; rw [if_pos (Or.inr c)] at k; exact k
      · intro c c2; rw [if_neg (fun z => z.elim c c2)] at k
        have br := rn_best_r g3 r0 r1 c
        exact rs_costOf s1 pr' (r1'.2.2.1 r r0 r1) (g3.2.2.2.2.1 r r0 r1) br.1.1 br.2 (rb_RN_best_66 k)
theorem rq_rankFor (hM : rn_sh M) (h : rn_Cs M N n K) {r : Int} (k : ∀ y M', rn_ch rn_P5 M M' → (0 ≤ r ∧ r < N 0 → rn_lst N r y) → (¬ (0 ≤ r ∧ r < N 0) → y = -1) → Q (some (rn_I y)) M') : rn_ME 117 [rn_R 8, rn_I r] M Q := by
  obtain ⟨pr, dr, kp, g1, g2, g3, g4, g5, g6⟩ := h
  have hB := g1.2.1.1.1
  have e := rn_goe g1.1.1
  refine re_RN_rankFor (rb_RN_rankFor_0 hM ?_ ?_) <;> rw [e]
  · exact ⟨g1.1.1, hB⟩
  · refine rs_riverAt hM hB g2 g3 (fun r0 r1 => ?_) (fun c => rb_RN_rankFor_13n (k _ M rn_ch_rf (fun z => absurd z c) (fun _ => rfl)))
    refine rb_RN_rankFor_13s hM ?_
    exact rs_leastRank hM hB g2 g3 r0 r1 (fun y M' c1 hy => rb_RN_rankFor_31 (k y M' (rn_ch_mono rn_P3_5 c1) (fun _ => hy) (fun z => absurd ⟨r0, r1⟩ z)))
end QRY
