/-! the class as the law sees it: its state between two calls; the questions; the refused calls -/
theorem rn_lnq {L : List rn_V} {j : Nat} {v : rn_V} (h : L[j]? = some v) (hc : rn_ca v = 1) : rn_lnk L (j + 1) = true := by
  unfold rn_lnk
  dsimp only
  rw [h]
  rcases v with x | (r | g)
  · rfl
  · rfl
  · cases hc
/-- the letters of the names -/
def rn_gd (N : Nat → Int) : Prop := ∀ r x : Int, 0 ≤ r → r < N 0 → 0 ≤ x → x < rn_o N r 0 → 97 ≤ rn_o N r (6 + x) ∧ rn_o N r (6 + x) ≤ 122
/-- G: the script; the class shows the row N, and n earlier ones K -/
def rn_Jq (G : Nat × (Nat → Int)) (M : rn_M) (N : Nat → Int) (n : Int) (K : Nat → Nat → Int) : Prop := rn_sh M ∧ rn_St M ∧ rn_Cs M N n K ∧ rn_gi M 10 0 = 0 ∧ (rn_fa M 0 G.1 ∧ rn_gi M 0 = G.2) ∧ rn_gd N ∧ ∀ i : Nat, (i : Int) < n → rn_gd (K i)
section IQ
variable {G : Nat × (Nat → Int)} {M M' : rn_M} {Q : rn_Q} {N N' : Nat → Int} {n n' : Int} {K K' : Nat → Nat → Int}
theorem rn_J8 (J : rn_Jq G M N n K) : rn_kd M 8 = 10 := rn_ks8 J.1
theorem rn_Jv (J : rn_Jq G M N n K) : rn_vd N := by
  obtain ⟨pr, dr, kp, g1, g2, g3, g4⟩ := J.2.2.1
  exact g3
theorem rn_Jn (J : rn_Jq G M N n K) : 0 ≤ n ∧ n ≤ 5 := by
  obtain ⟨pr, dr, kp, g1, g2, g3, g4, g5, g6⟩ := J.2.2.1
  exact g5
theorem rn_Jg (J : rn_Jq G M N n K) : rn_gd N := J.2.2.2.2.2.1
theorem rn_Jch (c : rn_ch rn_P5 M M') (J : rn_Jq G M N n K) : rn_Jq G M' N n K := by
  obtain ⟨h1, h2, h3, h4, h5, h6⟩ := J
  have e : ∀ a, a ≤ 11 → rn_gi M' a = rn_gi M a := fun a h => c.2.2 a (fun z => by unfold rn_P5 at z; omega)
  refine ⟨rn_sh_ch c h1, fun k k0 k1 => ?_, rn_Cs_ch (fun a q1 q2 z => by unfold rn_P5 at z; omega) c h3, by rw [e 10 (by omega)]; exact h4, ⟨?_, by rw [e 0 (by omega)]; exact h5.2⟩, h6⟩
  · rw [e 1 (by omega), e 2 (by omega)]; exact h2 k k0 k1
  · have := h5.1; unfold rn_fa rn_kd rn_ln at *; rw [c.1]; exact this
theorem rn_Jfc (c : rn_fc M M') (s : rn_sh M') (h : rn_Cs M' N' n' K') (g : rn_gd N') (gk : ∀ i : Nat, (i : Int) < n' → rn_gd (K' i)) (J : rn_Jq G M N n K) : rn_Jq G M' N' n' K' := by
  obtain ⟨h1, h2, h3, h4, h5, h6⟩ := J
  refine ⟨s, rn_St_fc c h2, h, by rw [(c.2 10 (by omega)).1]; exact h4, ⟨?_, by rw [(c.2 0 (by omega)).1]; exact h5.2⟩, g, gk⟩
  have := h5.1; unfold rn_fa rn_kd rn_ln at *; rw [c.1]; exact this
/-- a refused call that left its draft -/
theorem rn_Jf0 (c : rn_fc M M') (s : rn_sh M') (h : rn_Cs M' N n K) (J : rn_Jq G M N n K) : rn_Jq G M' N n K := rn_Jfc c s h J.2.2.2.2.2.1 J.2.2.2.2.2.2 J
/-- an action -/
theorem rn_Jnw (c : rn_fc M M') (s : rn_sh M') (h : rn_Cs M' N' (min (n + 1) 5) (rn_nK n K N)) (g : rn_gd N') (J : rn_Jq G M N n K) : rn_Jq G M' N' (min (n + 1) 5) (rn_nK n K N) := by
  have hn := rn_Jn J
  refine rn_Jfc c s h g (fun i hi => ?_) J
  unfold rn_nK
  by_cases e : i = (min n 4).toNat
  · rw [if_pos e]; exact rn_Jg J
  · rw [if_neg e]; exact J.2.2.2.2.2.2 _ (by split <;> omega)

theorem iq_count (J : rn_Jq G M N n K) {x : Int} (h : x < 8) (k : ∀ M', rn_Jq G M' N n K → Q (some (rn_I (rn_aCount N 0 0 x))) M') : rn_ME 106 [rn_R 8, rn_I x] M Q := by
  have e : rn_aCount N n (rn_gi M 10 0) x = rn_aCount N 0 0 x := by
    rw [J.2.2.2.1]
    unfold rn_aCount
    by_cases c1 : x < 0 ∨ 9 < x
    · rw [if_pos c1, if_pos c1]
    rw [if_neg c1, if_neg c1]
    by_cases c2 : x < 4
    · rw [if_pos c2, if_pos c2]
    rw [if_neg c2, if_neg c2]
    by_cases c4 : x = 4
    · rw [if_pos c4, if_pos c4]
    rw [if_neg c4, if_neg c4]
    by_cases c5 : x = 5
    · rw [if_pos c5, if_pos c5]
    rw [if_neg c5, if_neg c5]
    by_cases c6 : x = 6
    · rw [if_pos c6, if_pos c6]
    rw [if_neg c6, if_neg c6]
    rw [if_pos (by omega), if_pos (by omega)]
  exact rq_count J.1 J.2.2.1 (fun M1 c1 => by rw [e]; exact k M1 (rn_Jch c1 J))
theorem iq_count0 (J : rn_Jq G M N n K)  (k : ∀ M', rn_Jq G M' N n K → Q (some (rn_I (N 0))) M') : rn_ME 106 [rn_R 8, rn_I 0] M Q := by
  have e : rn_aCount N n (rn_gi M 10 0) 0 = N 0 := by
    rw [J.2.2.2.1]
    unfold rn_aCount
    rw [if_neg (by omega)]
    rw [if_pos (by omega)]
    rfl
  exact rq_count J.1 J.2.2.1 (fun M1 c1 => by rw [e]; exact k M1 (rn_Jch c1 J))
theorem iq_count1 (J : rn_Jq G M N n K)  (k : ∀ M', rn_Jq G M' N n K → Q (some (rn_I (N 1))) M') : rn_ME 106 [rn_R 8, rn_I 1] M Q := by
  have e : rn_aCount N n (rn_gi M 10 0) 1 = N 1 := by
    rw [J.2.2.2.1]
    unfold rn_aCount
    rw [if_neg (by omega)]
    rw [if_pos (by omega)]
    rfl
  exact rq_count J.1 J.2.2.1 (fun M1 c1 => by rw [e]; exact k M1 (rn_Jch c1 J))
theorem iq_count2 (J : rn_Jq G M N n K)  (k : ∀ M', rn_Jq G M' N n K → Q (some (rn_I (N 2))) M') : rn_ME 106 [rn_R 8, rn_I 2] M Q := by
  have e : rn_aCount N n (rn_gi M 10 0) 2 = N 2 := by
    rw [J.2.2.2.1]
    unfold rn_aCount
    rw [if_neg (by omega)]
    rw [if_pos (by omega)]
    rfl
  exact rq_count J.1 J.2.2.1 (fun M1 c1 => by rw [e]; exact k M1 (rn_Jch c1 J))
theorem iq_count4 (J : rn_Jq G M N n K)  (k : ∀ M', rn_Jq G M' N n K → Q (some (rn_I (rn_cs N (N 2).toNat))) M') : rn_ME 106 [rn_R 8, rn_I 4] M Q := by
  have e : rn_aCount N n (rn_gi M 10 0) 4 = rn_cs N (N 2).toNat := by
    rw [J.2.2.2.1]
    unfold rn_aCount
    rw [if_neg (by omega)]
    rw [if_neg (by omega)]
    rw [if_pos (by omega)]
  exact rq_count J.1 J.2.2.1 (fun M1 c1 => by rw [e]; exact k M1 (rn_Jch c1 J))
theorem iq_count5 (J : rn_Jq G M N n K)  (k : ∀ M', rn_Jq G M' N n K → Q (some (rn_I (rn_card (fun l => rn_mf N l) (N 2).toNat))) M') : rn_ME 106 [rn_R 8, rn_I 5] M Q := by
  have e : rn_aCount N n (rn_gi M 10 0) 5 = rn_card (fun l => rn_mf N l) (N 2).toNat := by
    rw [J.2.2.2.1]
    unfold rn_aCount
    rw [if_neg (by omega)]
    rw [if_neg (by omega)]
    rw [if_neg (by omega)]
    rw [if_pos (by omega)]
  exact rq_count J.1 J.2.2.1 (fun M1 c1 => by rw [e]; exact k M1 (rn_Jch c1 J))
theorem iq_count6 (J : rn_Jq G M N n K)  (k : ∀ M', rn_Jq G M' N n K → Q (some (rn_I (rn_wo N (N 0).toNat))) M') : rn_ME 106 [rn_R 8, rn_I 6] M Q := by
  have e : rn_aCount N n (rn_gi M 10 0) 6 = rn_wo N (N 0).toNat := by
    rw [J.2.2.2.1]
    unfold rn_aCount
    rw [if_neg (by omega)]
    rw [if_neg (by omega)]
    rw [if_neg (by omega)]
    rw [if_neg (by omega)]
    rw [if_pos (by omega)]
  exact rq_count J.1 J.2.2.1 (fun M1 c1 => by rw [e]; exact k M1 (rn_Jch c1 J))
theorem iq_count7 (J : rn_Jq G M N n K)  (k : ∀ M', rn_Jq G M' N n K → Q (some (rn_I (rn_card (rn_cv2 N (N 2)) 2400))) M') : rn_ME 106 [rn_R 8, rn_I 7] M Q := by
  have e : rn_aCount N n (rn_gi M 10 0) 7 = rn_card (rn_cv2 N (N 2)) 2400 := by
    rw [J.2.2.2.1]
    unfold rn_aCount
    rw [if_neg (by omega)]
    rw [if_neg (by omega)]
    rw [if_neg (by omega)]
    rw [if_neg (by omega)]
    rw [if_neg (by omega)]
    rw [if_pos (by omega)]
  exact rq_count J.1 J.2.2.1 (fun M1 c1 => by rw [e]; exact k M1 (rn_Jch c1 J))
theorem iq_count8 (J : rn_Jq G M N n K)  (k : ∀ M', rn_Jq G M' N n K → Q (some (rn_I (n))) M') : rn_ME 106 [rn_R 8, rn_I 8] M Q := by
  have e : rn_aCount N n (rn_gi M 10 0) 8 = n := by
    rw [J.2.2.2.1]
    unfold rn_aCount
    rw [if_neg (by omega)]
    rw [if_neg (by omega)]
    rw [if_neg (by omega)]
    rw [if_neg (by omega)]
    rw [if_neg (by omega)]
    rw [if_neg (by omega)]
    rw [if_pos (by omega)]
  exact rq_count J.1 J.2.2.1 (fun M1 c1 => by rw [e]; exact k M1 (rn_Jch c1 J))
theorem iq_count11 (J : rn_Jq G M N n K)  (k : ∀ M', rn_Jq G M' N n K → Q (some (rn_I (-1))) M') : rn_ME 106 [rn_R 8, rn_I 11] M Q := by
  have e : rn_aCount N n (rn_gi M 10 0) 11 = -1 := by
    rw [J.2.2.2.1]
    unfold rn_aCount
    rw [if_pos (by omega)]
  exact rq_count J.1 J.2.2.1 (fun M1 c1 => by rw [e]; exact k M1 (rn_Jch c1 J))
theorem iq_river (J : rn_Jq G M N n K) {r x : Int}  (k : ∀ M', rn_Jq G M' N n K → Q (some (rn_I (rn_aRiver N r x))) M') : rn_ME 107 [rn_R 8, rn_I r, rn_I x] M Q := by
  have e : rn_aRiver N r x = rn_aRiver N r x := by
    rfl
  exact rq_river J.1 J.2.2.1 (fun M1 c1 => by rw [e]; exact k M1 (rn_Jch c1 J))
theorem iq_river0 (J : rn_Jq G M N n K) {r : Int} (h : 0 ≤ r ∧ r < N 0) (k : ∀ M', rn_Jq G M' N n K → Q (some (rn_I (rn_o N r 1))) M') : rn_ME 107 [rn_R 8, rn_I r, rn_I 0] M Q := by
  have e : rn_aRiver N r 0 = rn_o N r 1 := by
    unfold rn_aRiver
    rw [if_neg (by omega)]
    rw [if_pos (by omega)]
  exact rq_river J.1 J.2.2.1 (fun M1 c1 => by rw [e]; exact k M1 (rn_Jch c1 J))
theorem iq_river1 (J : rn_Jq G M N n K) {r : Int} (h : 0 ≤ r ∧ r < N 0) (k : ∀ M', rn_Jq G M' N n K → Q (some (rn_I (rn_o N r 2))) M') : rn_ME 107 [rn_R 8, rn_I r, rn_I 1] M Q := by
  have e : rn_aRiver N r 1 = rn_o N r 2 := by
    unfold rn_aRiver
    rw [if_neg (by omega)]
    rw [if_neg (by omega)]
    rw [if_pos (by omega)]
  exact rq_river J.1 J.2.2.1 (fun M1 c1 => by rw [e]; exact k M1 (rn_Jch c1 J))
theorem iq_river2 (J : rn_Jq G M N n K) {r : Int} (h : 0 ≤ r ∧ r < N 0) (k : ∀ M', rn_Jq G M' N n K → Q (some (rn_I (rn_o N r 0))) M') : rn_ME 107 [rn_R 8, rn_I r, rn_I 2] M Q := by
  have e : rn_aRiver N r 2 = rn_o N r 0 := by
    unfold rn_aRiver
    rw [if_neg (by omega)]
    rw [if_neg (by omega)]
    rw [if_neg (by omega)]
    rw [if_pos (by omega)]
  exact rq_river J.1 J.2.2.1 (fun M1 c1 => by rw [e]; exact k M1 (rn_Jch c1 J))
theorem iq_river3 (J : rn_Jq G M N n K) {r : Int} (h : 0 ≤ r ∧ r < N 0) (k : ∀ M', rn_Jq G M' N n K → Q (some (rn_I (rn_o N r 5))) M') : rn_ME 107 [rn_R 8, rn_I r, rn_I 3] M Q := by
  have e : rn_aRiver N r 3 = rn_o N r 5 := by
    unfold rn_aRiver
    rw [if_neg (by omega)]
    rw [if_neg (by omega)]
    rw [if_neg (by omega)]
    rw [if_neg (by omega)]
    rw [if_pos (by omega)]
  exact rq_river J.1 J.2.2.1 (fun M1 c1 => by rw [e]; exact k M1 (rn_Jch c1 J))
theorem iq_river4 (J : rn_Jq G M N n K) {r : Int} (h : 0 ≤ r ∧ r < N 0) (k : ∀ M', rn_Jq G M' N n K → Q (some (rn_I (rn_lo N r))) M') : rn_ME 107 [rn_R 8, rn_I r, rn_I 4] M Q := by
  have e : rn_aRiver N r 4 = rn_lo N r := by
    unfold rn_aRiver
    rw [if_neg (by omega)]
    rw [if_neg (by omega)]
    rw [if_neg (by omega)]
    rw [if_neg (by omega)]
    rw [if_neg (by omega)]
    rw [if_pos (by omega)]
  exact rq_river J.1 J.2.2.1 (fun M1 c1 => by rw [e]; exact k M1 (rn_Jch c1 J))
theorem iq_river5 (J : rn_Jq G M N n K) {r : Int} (h : 0 ≤ r ∧ r < N 0) (k : ∀ M', rn_Jq G M' N n K → Q (some (rn_I (rn_card (rn_clr N r) 2400))) M') : rn_ME 107 [rn_R 8, rn_I r, rn_I 5] M Q := by
  have e : rn_aRiver N r 5 = rn_card (rn_clr N r) 2400 := by
    unfold rn_aRiver
    rw [if_neg (by omega)]
    rw [if_neg (by omega)]
    rw [if_neg (by omega)]
    rw [if_neg (by omega)]
    rw [if_neg (by omega)]
    rw [if_neg (by omega)]
    rw [if_pos (by omega)]
  exact rq_river J.1 J.2.2.1 (fun M1 c1 => by rw [e]; exact k M1 (rn_Jch c1 J))
theorem iq_river6 (J : rn_Jq G M N n K) {r : Int} (h : 0 ≤ r ∧ r < N 0) (k : ∀ M', rn_Jq G M' N n K → Q (some (rn_I (rn_bend N r 0 (rn_o N r 5 + 1)))) M') : rn_ME 107 [rn_R 8, rn_I r, rn_I 6] M Q := by
  have e : rn_aRiver N r 6 = rn_bend N r 0 (rn_o N r 5 + 1) := by
    unfold rn_aRiver
    rw [if_neg (by omega)]
    rw [if_neg (by omega)]
    rw [if_neg (by omega)]
    rw [if_neg (by omega)]
    rw [if_neg (by omega)]
    rw [if_neg (by omega)]
    rw [if_neg (by omega)]
  exact rq_river J.1 J.2.2.1 (fun M1 c1 => by rw [e]; exact k M1 (rn_Jch c1 J))
theorem iq_riverB (J : rn_Jq G M N n K) {r x : Int} (h : ¬ (0 ≤ r ∧ r < N 0)) (k : ∀ M', rn_Jq G M' N n K → Q (some (rn_I (-1))) M') : rn_ME 107 [rn_R 8, rn_I r, rn_I x] M Q := by
  have e : rn_aRiver N r x = -1 := by
    unfold rn_aRiver
    rw [if_pos (Or.inl h)]
  exact rq_river J.1 J.2.2.1 (fun M1 c1 => by rw [e]; exact k M1 (rn_Jch c1 J))
theorem iq_cell (J : rn_Jq G M N n K) {r x : Int}  (k : ∀ M', rn_Jq G M' N n K → Q (some (rn_I (rn_aCell N r x))) M') : rn_ME 108 [rn_R 8, rn_I r, rn_I x] M Q := by
  have e : rn_aCell N r x = rn_aCell N r x := by
    rfl
  exact rq_cell J.1 J.2.2.1 (by rw [e]; exact k M J)
theorem iq_cellV (J : rn_Jq G M N n K) {r x : Int} (h : (0 ≤ r ∧ r < N 0) ∧ 0 ≤ x ∧ x ≤ rn_o N r 5) (k : ∀ M', rn_Jq G M' N n K → Q (some (rn_I (100 * rn_px N r x.toNat + rn_py N r x.toNat))) M') : rn_ME 108 [rn_R 8, rn_I r, rn_I x] M Q := by
  have e : rn_aCell N r x = 100 * rn_px N r x.toNat + rn_py N r x.toNat := by
    unfold rn_aCell
    have v5 := ((rn_Jv J).2.2.2.2.1 r h.1.1 h.1.2).2.2.2.1
    rw [if_neg (by omega)]
    rw [if_pos (by omega)]
  exact rq_cell J.1 J.2.2.1 (by rw [e]; exact k M J)
theorem iq_cellN (J : rn_Jq G M N n K) {r x : Int} (h : (0 ≤ r ∧ r < N 0) ∧ (0 ≤ x ∧ x ≤ 60) ∧ rn_o N r 5 < x) (k : ∀ M', rn_Jq G M' N n K → Q (some (rn_I (-9))) M') : rn_ME 108 [rn_R 8, rn_I r, rn_I x] M Q := by
  have e : rn_aCell N r x = -9 := by
    unfold rn_aCell
    rw [if_neg (by omega)]
    rw [if_neg (by omega)]
  exact rq_cell J.1 J.2.2.1 (by rw [e]; exact k M J)
theorem iq_cellB (J : rn_Jq G M N n K) {r x : Int} (h : ¬ ((0 ≤ r ∧ r < N 0) ∧ 0 ≤ x ∧ x ≤ 60)) (k : ∀ M', rn_Jq G M' N n K → Q (some (rn_I (-1))) M') : rn_ME 108 [rn_R 8, rn_I r, rn_I x] M Q := by
  have e : rn_aCell N r x = -1 := by
    unfold rn_aCell
    rw [if_pos (by omega)]
  exact rq_cell J.1 J.2.2.1 (by rw [e]; exact k M J)
theorem iq_letter (J : rn_Jq G M N n K) {r x : Int}  (k : ∀ M', rn_Jq G M' N n K → Q (some (rn_I (rn_aLetter N r x))) M') : rn_ME 109 [rn_R 8, rn_I r, rn_I x] M Q := by
  have e : rn_aLetter N r x = rn_aLetter N r x := by
    rfl
  exact rq_letter J.1 J.2.2.1 (by rw [e]; exact k M J)
theorem iq_letterV (J : rn_Jq G M N n K) {r x : Int} (h : (0 ≤ r ∧ r < N 0) ∧ 0 ≤ x ∧ x < rn_o N r 0) (k : ∀ M', rn_Jq G M' N n K → Q (some (rn_I (rn_o N r (6 + x)))) M') : rn_ME 109 [rn_R 8, rn_I r, rn_I x] M Q := by
  have e : rn_aLetter N r x = rn_o N r (6 + x) := by
    unfold rn_aLetter
    rw [if_neg (by omega)]
    rw [if_pos (by omega)]
  exact rq_letter J.1 J.2.2.1 (by rw [e]; exact k M J)
theorem iq_letterB (J : rn_Jq G M N n K) {r x : Int} (h : ¬ (0 ≤ r ∧ r < N 0)) (k : ∀ M', rn_Jq G M' N n K → Q (some (rn_I (-1))) M') : rn_ME 109 [rn_R 8, rn_I r, rn_I x] M Q := by
  have e : rn_aLetter N r x = -1 := by
    unfold rn_aLetter
    rw [if_pos (Or.inl h)]
  exact rq_letter J.1 J.2.2.1 (by rw [e]; exact k M J)
theorem iq_town (J : rn_Jq G M N n K) {r x : Int}  (k : ∀ M', rn_Jq G M' N n K → Q (some (rn_I (rn_aTown N r x))) M') : rn_ME 110 [rn_R 8, rn_I r, rn_I x] M Q := by
  have e : rn_aTown N r x = rn_aTown N r x := by
    rfl
  exact rq_town J.1 J.2.2.1 (by rw [e]; exact k M J)
theorem iq_townB (J : rn_Jq G M N n K) {r x : Int} (h : ¬ (0 ≤ r ∧ r < N 1)) (k : ∀ M', rn_Jq G M' N n K → Q (some (rn_I (-1))) M') : rn_ME 110 [rn_R 8, rn_I r, rn_I x] M Q := by
  have e : rn_aTown N r x = -1 := by
    unfold rn_aTown
    rw [if_pos (Or.inl h)]
  exact rq_town J.1 J.2.2.1 (by rw [e]; exact k M J)
theorem iq_label (J : rn_Jq G M N n K) {r x : Int}  (k : ∀ M', rn_Jq G M' N n K → Q (some (rn_I (rn_aLabel N r x))) M') : rn_ME 111 [rn_R 8, rn_I r, rn_I x] M Q := by
  have e : rn_aLabel N r x = rn_aLabel N r x := by
    rfl
  exact rq_label J.1 J.2.2.1 (fun M1 c1 => by rw [e]; exact k M1 (rn_Jch c1 J))
theorem iq_label0 (J : rn_Jq G M N n K) {r : Int} (h : 0 ≤ r ∧ r < N 2) (k : ∀ M', rn_Jq G M' N n K → Q (some (rn_I (rn_lb N r 0))) M') : rn_ME 111 [rn_R 8, rn_I r, rn_I 0] M Q := by
  have e : rn_aLabel N r 0 = rn_lb N r 0 := by
    unfold rn_aLabel
    rw [if_neg (by omega)]
    rw [if_pos (by omega)]
  exact rq_label J.1 J.2.2.1 (fun M1 c1 => by rw [e]; exact k M1 (rn_Jch c1 J))
theorem iq_label1 (J : rn_Jq G M N n K) {r : Int} (h : 0 ≤ r ∧ r < N 2) (k : ∀ M', rn_Jq G M' N n K → Q (some (rn_I (rn_lb N r 1))) M') : rn_ME 111 [rn_R 8, rn_I r, rn_I 1] M Q := by
  have e : rn_aLabel N r 1 = rn_lb N r 1 := by
    unfold rn_aLabel
    rw [if_neg (by omega)]
    rw [if_neg (by omega)]
    rw [if_pos (by omega)]
  exact rq_label J.1 J.2.2.1 (fun M1 c1 => by rw [e]; exact k M1 (rn_Jch c1 J))
theorem iq_label2 (J : rn_Jq G M N n K) {r : Int} (h : 0 ≤ r ∧ r < N 2) (k : ∀ M', rn_Jq G M' N n K → Q (some (rn_I (rn_cost N (rn_lb N r 0) (rn_lb N r 1)))) M') : rn_ME 111 [rn_R 8, rn_I r, rn_I 2] M Q := by
  have e : rn_aLabel N r 2 = rn_cost N (rn_lb N r 0) (rn_lb N r 1) := by
    unfold rn_aLabel
    rw [if_neg (by omega)]
    rw [if_neg (by omega)]
    rw [if_neg (by omega)]
    rw [if_pos (by omega)]
  exact rq_label J.1 J.2.2.1 (fun M1 c1 => by rw [e]; exact k M1 (rn_Jch c1 J))
theorem iq_label3 (J : rn_Jq G M N n K) {r : Int} (h : 0 ≤ r ∧ r < N 2) (k : ∀ M', rn_Jq G M' N n K → Q (some (rn_I (rn_bend N (rn_lb N r 0) (rn_lb N r 1) (rn_o N (rn_lb N r 0) 0)))) M') : rn_ME 111 [rn_R 8, rn_I r, rn_I 3] M Q := by
  have e : rn_aLabel N r 3 = rn_bend N (rn_lb N r 0) (rn_lb N r 1) (rn_o N (rn_lb N r 0) 0) := by
    unfold rn_aLabel
    rw [if_neg (by omega)]
    rw [if_neg (by omega)]
    rw [if_neg (by omega)]
    rw [if_neg (by omega)]
    rw [if_pos (by omega)]
  exact rq_label J.1 J.2.2.1 (fun M1 c1 => by rw [e]; exact k M1 (rn_Jch c1 J))
theorem iq_label4 (J : rn_Jq G M N n K) {r : Int} (h : 0 ≤ r ∧ r < N 2) (k : ∀ M', rn_Jq G M' N n K → Q (some (rn_I (rn_b (rn_trn N (rn_lb N r 0) (rn_lb N r 1))))) M') : rn_ME 111 [rn_R 8, rn_I r, rn_I 4] M Q := by
  have e : rn_aLabel N r 4 = rn_b (rn_trn N (rn_lb N r 0) (rn_lb N r 1)) := by
    unfold rn_aLabel
    rw [if_neg (by omega)]
    rw [if_neg (by omega)]
    rw [if_neg (by omega)]
    rw [if_neg (by omega)]
    rw [if_neg (by omega)]
    rw [if_pos (by omega)]
  exact rq_label J.1 J.2.2.1 (fun M1 c1 => by rw [e]; exact k M1 (rn_Jch c1 J))
theorem iq_label5 (J : rn_Jq G M N n K) {r : Int} (h : 0 ≤ r ∧ r < N 2) (k : ∀ M', rn_Jq G M' N n K → Q (some (rn_I (rn_card (rn_ar N (rn_lb N r 0) (rn_lb N r 1)) 2400))) M') : rn_ME 111 [rn_R 8, rn_I r, rn_I 5] M Q := by
  have e : rn_aLabel N r 5 = rn_card (rn_ar N (rn_lb N r 0) (rn_lb N r 1)) 2400 := by
    unfold rn_aLabel
    rw [if_neg (by omega)]
    rw [if_neg (by omega)]
    rw [if_neg (by omega)]
    rw [if_neg (by omega)]
    rw [if_neg (by omega)]
    rw [if_neg (by omega)]
    rw [if_pos (by omega)]
  exact rq_label J.1 J.2.2.1 (fun M1 c1 => by rw [e]; exact k M1 (rn_Jch c1 J))
theorem iq_label6 (J : rn_Jq G M N n K) {r : Int} (h : 0 ≤ r ∧ r < N 2) (k : ∀ M', rn_Jq G M' N n K → Q (some (rn_I (rn_why N (rn_lb N r 0) (rn_lb N r 1) (rn_o N (rn_lb N r 0) 1) r))) M') : rn_ME 111 [rn_R 8, rn_I r, rn_I 6] M Q := by
  have e : rn_aLabel N r 6 = rn_why N (rn_lb N r 0) (rn_lb N r 1) (rn_o N (rn_lb N r 0) 1) r := by
    unfold rn_aLabel
    rw [if_neg (by omega)]
    rw [if_neg (by omega)]
    rw [if_neg (by omega)]
    rw [if_neg (by omega)]
    rw [if_neg (by omega)]
    rw [if_neg (by omega)]
    rw [if_neg (by omega)]
    rw [if_pos (by omega)]
  exact rq_label J.1 J.2.2.1 (fun M1 c1 => by rw [e]; exact k M1 (rn_Jch c1 J))
theorem iq_label7 (J : rn_Jq G M N n K) {r : Int} (h : 0 ≤ r ∧ r < N 2) (k : ∀ M', rn_Jq G M' N n K → Q (some (rn_I (rn_card (fun t => rn_mt' N (rn_lb N r 0) (rn_lb N r 1) t) (N 1).toNat))) M') : rn_ME 111 [rn_R 8, rn_I r, rn_I 7] M Q := by
  have e : rn_aLabel N r 7 = rn_card (fun t => rn_mt' N (rn_lb N r 0) (rn_lb N r 1) t) (N 1).toNat := by
    unfold rn_aLabel
    rw [if_neg (by omega)]
    rw [if_neg (by omega)]
    rw [if_neg (by omega)]
    rw [if_neg (by omega)]
    rw [if_neg (by omega)]
    rw [if_neg (by omega)]
    rw [if_neg (by omega)]
    rw [if_neg (by omega)]
  exact rq_label J.1 J.2.2.1 (fun M1 c1 => by rw [e]; exact k M1 (rn_Jch c1 J))
theorem iq_labelB (J : rn_Jq G M N n K) {r x : Int} (h : ¬ (0 ≤ r ∧ r < N 2)) (k : ∀ M', rn_Jq G M' N n K → Q (some (rn_I (-1))) M') : rn_ME 111 [rn_R 8, rn_I r, rn_I x] M Q := by
  have e : rn_aLabel N r x = -1 := by
    unfold rn_aLabel
    rw [if_pos (Or.inl h)]
  exact rq_label J.1 J.2.2.1 (fun M1 c1 => by rw [e]; exact k M1 (rn_Jch c1 J))
theorem iq_written (J : rn_Jq G M N n K) {x y : Int}  (k : ∀ M', rn_Jq G M' N n K → Q (some (rn_I (rn_aWritten N x y))) M') : rn_ME 112 [rn_R 8, rn_I x, rn_I y] M Q := by
  have e : rn_aWritten N x y = rn_aWritten N x y := by
    rfl
  exact rq_written J.1 J.2.2.1 (by rw [e]; exact k M J)
theorem iq_writtenB (J : rn_Jq G M N n K) {x y : Int} (h : ¬ ((0 ≤ x ∧ x < 60) ∧ 0 ≤ y ∧ y < 40)) (k : ∀ M', rn_Jq G M' N n K → Q (some (rn_I (-1))) M') : rn_ME 112 [rn_R 8, rn_I x, rn_I y] M Q := by
  have e : rn_aWritten N x y = -1 := by
    unfold rn_aWritten
    rw [if_pos h]
  exact rq_written J.1 J.2.2.1 (by rw [e]; exact k M J)
theorem iq_bendV (J : rn_Jq G M N n K) {r s x : Int} (h : (0 ≤ r ∧ r < N 0) ∧ 0 ≤ s ∧ 1 ≤ x ∧ s + x ≤ rn_o N r 5 + 1) (k : ∀ M', rn_Jq G M' N n K → Q (some (rn_I (rn_bend N r s x))) M') : rn_ME 113 [rn_R 8, rn_I r, rn_I s, rn_I x] M Q := by
  have e : rn_aBend N r s x = rn_bend N r s x := by
    unfold rn_aBend
    have v5 := ((rn_Jv J).2.2.2.2.1 r h.1.1 h.1.2).2.2.2.1
    rw [if_neg (by omega)]
    rw [if_pos (by omega)]
  exact rq_bend J.1 J.2.2.1 (by rw [e]; exact k M J)
theorem iq_bendB (J : rn_Jq G M N n K) {r s x : Int} (h : ¬ (0 ≤ r ∧ r < N 0)) (k : ∀ M', rn_Jq G M' N n K → Q (some (rn_I (-1))) M') : rn_ME 113 [rn_R 8, rn_I r, rn_I s, rn_I x] M Q := by
  have e : rn_aBend N r s x = -1 := by
    unfold rn_aBend
    rw [if_pos (Or.inl h)]
  exact rq_bend J.1 J.2.2.1 (by rw [e]; exact k M J)
theorem iq_straightest (J : rn_Jq G M N n K) {r x : Int} (h : (0 ≤ r ∧ r < N 0) ∧ 1 ≤ x ∧ x ≤ 61) (k : ∀ M', rn_Jq G M' N n K → Q (some (rn_I (rn_stn N r x (rn_o N r 5 + 1 - x + 1).toNat))) M') : rn_ME 114 [rn_R 8, rn_I r, rn_I x] M Q := by
  have e : rn_aStraight N r x = rn_stn N r x (rn_o N r 5 + 1 - x + 1).toNat := by
    unfold rn_aStraight
    rw [if_neg (by omega)]
  exact rq_straightest J.1 J.2.2.1 (by rw [e]; exact k M J)
theorem iq_straightestB (J : rn_Jq G M N n K) {r x : Int} (h : ¬ (0 ≤ r ∧ r < N 0)) (k : ∀ M', rn_Jq G M' N n K → Q (some (rn_I (-1))) M') : rn_ME 114 [rn_R 8, rn_I r, rn_I x] M Q := by
  have e : rn_aStraight N r x = -1 := by
    unfold rn_aStraight
    rw [if_pos (Or.inl h)]
  exact rq_straightest J.1 J.2.2.1 (by rw [e]; exact k M J)
theorem iq_reason (J : rn_Jq G M N n K) {r s : Int} (h : (0 ≤ r ∧ r < N 0) ∧ 0 ≤ s ∧ s ≤ 60) (k : ∀ M', rn_Jq G M' N n K → Q (some (rn_I (rn_why N r s (rn_o N r 1) (-9)))) M') : rn_ME 115 [rn_R 8, rn_I r, rn_I s] M Q := by
  have e : rn_aReason N r s = rn_why N r s (rn_o N r 1) (-9) := by
    unfold rn_aReason
    rw [if_neg (by omega)]
  exact rq_reason J.1 J.2.2.1 (by rw [e]; exact k M J)
theorem iq_reasonB (J : rn_Jq G M N n K) {r s : Int} (h : ¬ ((0 ≤ r ∧ r < N 0) ∧ 0 ≤ s ∧ s ≤ 60)) (k : ∀ M', rn_Jq G M' N n K → Q (some (rn_I (-1))) M') : rn_ME 115 [rn_R 8, rn_I r, rn_I s] M Q := by
  have e : rn_aReason N r s = -1 := by
    unfold rn_aReason
    rw [if_pos (by omega)]
  exact rq_reason J.1 J.2.2.1 (by rw [e]; exact k M J)
theorem iq_best0 (J : rn_Jq G M N n K) {r : Int} (h : 0 ≤ r ∧ r < N 0) (k : ∀ M', rn_Jq G M' N n K → Q (some (rn_I (rn_best N r))) M') : rn_ME 116 [rn_R 8, rn_I r, rn_I 0] M Q := by
  have e : rn_aBest N r 0 = rn_best N r := by
    unfold rn_aBest
    rw [if_neg (by omega)]
    rw [if_pos (Or.inr rfl)]
  exact rq_best J.1 J.2.2.1 (fun M1 c1 => by rw [e]; exact k M1 (rn_Jch c1 J))
theorem iq_best1 (J : rn_Jq G M N n K) {r : Int}  (k : ∀ M', rn_Jq G M' N n K → Q (some (rn_I (rn_aBest N r 1))) M') : rn_ME 116 [rn_R 8, rn_I r, rn_I 1] M Q := by
  have e : rn_aBest N r 1 = rn_aBest N r 1 := by
    rfl
  exact rq_best J.1 J.2.2.1 (fun M1 c1 => by rw [e]; exact k M1 (rn_Jch c1 J))
theorem iq_bestB (J : rn_Jq G M N n K) {r x : Int} (h : ¬ ((0 ≤ r ∧ r < N 0) ∧ 0 ≤ x ∧ x ≤ 1)) (k : ∀ M', rn_Jq G M' N n K → Q (some (rn_I (-1))) M') : rn_ME 116 [rn_R 8, rn_I r, rn_I x] M Q := by
  have e : rn_aBest N r x = -1 := by
    unfold rn_aBest
    rw [if_pos (by omega)]
  exact rq_best J.1 J.2.2.1 (fun M1 c1 => by rw [e]; exact k M1 (rn_Jch c1 J))
theorem iq_rankForB (J : rn_Jq G M N n K) {r : Int} (h : ¬ (0 ≤ r ∧ r < N 0)) (k : ∀ M', rn_Jq G M' N n K → Q (some (rn_I (-1))) M') : rn_ME 117 [rn_R 8, rn_I r] M Q :=
  rq_rankFor J.1 J.2.2.1 (fun y M1 c1 _ q => by rw [q h]; exact k M1 (rn_Jch c1 J))
theorem iq_appendB (J : rn_Jq G M N n K) {x : Int} (h : ¬ (1 ≤ x ∧ x ≤ 255)) (k : ∀ M', rn_Jq G M' N n K → Q (some (rn_I (-1))) M') : rn_ME 91 [rn_R 8, rn_I x] M Q :=
  rq_append J.1 (by rw [J.2.2.2.1]; omega) (fun _ => k M J) (fun z => absurd z h) (fun z => absurd z h)
theorem iq_addRiverB (J : rn_Jq G M N n K) {L x y w hh : Int} (h : ¬ rn_rg L x y w hh) (k : ∀ M', rn_Jq G M' N n K → Q (some (rn_I (-1))) M') : rn_ME 94 [rn_R 8, rn_I L, rn_I x, rn_I y, rn_I w, rn_I hh] M Q :=
  rq_addRiver J.1 J.2.2.1 (fun _ => k M J) (fun z => absurd z h) (fun z => absurd z h)
theorem iq_addRiverF (J : rn_Jq G M N n K) {L x y w hh : Int} (h : rn_rg L x y w hh ∧ N 0 = 6) (k : ∀ M', rn_Jq G M' N n K → Q (some (rn_I (-3))) M') : rn_ME 94 [rn_R 8, rn_I L, rn_I x, rn_I y, rn_I w, rn_I hh] M Q :=
  rq_addRiver J.1 J.2.2.1 (fun z => absurd h.1 z) (fun _ _ M1 c s g => k M1 (rn_Jf0 c s g J)) (fun _ z => absurd h.2 z)
theorem iq_addTownB (J : rn_Jq G M N n K) {x y w hh r : Int} (h : ¬ rn_tg x y w hh r) (k : ∀ M', rn_Jq G M' N n K → Q (some (rn_I (-1))) M') : rn_ME 95 [rn_R 8, rn_I x, rn_I y, rn_I w, rn_I hh, rn_I r] M Q :=
  rq_addTown J.1 J.2.2.1 (fun _ => k M J) (fun z => absurd z h) (fun z => absurd z h)
theorem iq_addTownF (J : rn_Jq G M N n K) {x y w hh r : Int} (h : rn_tg x y w hh r ∧ N 1 = 10) (k : ∀ M', rn_Jq G M' N n K → Q (some (rn_I (-3))) M') : rn_ME 95 [rn_R 8, rn_I x, rn_I y, rn_I w, rn_I hh, rn_I r] M Q :=
  rq_addTown J.1 J.2.2.1 (fun z => absurd h.1 z) (fun _ _ M1 c s g => k M1 (rn_Jf0 c s g J)) (fun _ z => absurd h.2 z)
theorem iq_flowB (J : rn_Jq G M N n K) {r d : Int} (h : ¬ ((0 ≤ r ∧ r < N 0) ∧ 0 ≤ d ∧ d ≤ 7)) (k : ∀ M', rn_Jq G M' N n K → Q (some (rn_I (-1))) M') : rn_ME 96 [rn_R 8, rn_I r, rn_I d] M Q :=
  rq_flow J.1 J.2.1 J.2.2.1 (fun _ M1 c s g => k M1 (rn_Jf0 c s g J)) (fun z => absurd z h) (fun z => absurd z h) (fun z => absurd z h)
theorem iq_setRankB (J : rn_Jq G M N n K) {r x : Int} (h : ¬ ((0 ≤ r ∧ r < N 0) ∧ 1 ≤ x ∧ x ≤ 9)) (k : ∀ M', rn_Jq G M' N n K → Q (some (rn_I (-1))) M') : rn_ME 97 [rn_R 8, rn_I r, rn_I x] M Q :=
  rq_setRank J.1 J.2.2.1 (fun z => absurd z h) (fun _ M1 c s g => k M1 (rn_Jf0 c s g J))
theorem iq_setHaloB (J : rn_Jq G M N n K) {r x : Int} (h : ¬ ((0 ≤ r ∧ r < N 0) ∧ 0 ≤ x ∧ x ≤ 2)) (k : ∀ M', rn_Jq G M' N n K → Q (some (rn_I (-1))) M') : rn_ME 98 [rn_R 8, rn_I r, rn_I x] M Q :=
  rq_setHalo J.1 J.2.2.1 (fun z => absurd z h) (fun _ M1 c s g => k M1 (rn_Jf0 c s g J))
theorem iq_setTownRankB (J : rn_Jq G M N n K) {r x : Int} (h : ¬ ((0 ≤ r ∧ r < N 1) ∧ 1 ≤ x ∧ x ≤ 9)) (k : ∀ M', rn_Jq G M' N n K → Q (some (rn_I (-1))) M') : rn_ME 99 [rn_R 8, rn_I r, rn_I x] M Q :=
  rq_setTownRank J.1 J.2.2.1 (fun z => absurd z h) (fun _ M1 c s g => k M1 (rn_Jf0 c s g J))
theorem iq_removeB (J : rn_Jq G M N n K) {r : Int} (h : ¬ (0 ≤ r ∧ r < N 2)) (k : ∀ M', rn_Jq G M' N n K → Q (some (rn_I (-1))) M') : rn_ME 102 [rn_R 8, rn_I r] M Q :=
  rq_remove J.1 J.2.2.1 (fun z => absurd z h) (fun _ M1 c s g => k M1 (rn_Jf0 c s g J))
theorem iq_setGapB (J : rn_Jq G M N n K) {x : Int} (h : ¬ (0 ≤ x ∧ x ≤ 60)) (k : ∀ M', rn_Jq G M' N n K → Q (some (rn_I (-1))) M') : rn_ME 100 [rn_R 8, rn_I x] M Q :=
  rq_setGap J.1 J.2.2.1 (fun z => absurd z h) (fun _ => k M J)
theorem iq_placeB (J : rn_Jq G M N n K) {x : Int} (h : ¬ (1 ≤ x ∧ x ≤ 5)) (k : ∀ M', rn_Jq G M' N n K → Q (some (rn_I (-1))) M') : rn_ME 103 [rn_R 8, rn_I x] M Q :=
  rq_place J.1 J.2.2.1 (fun z => absurd z h) (fun _ => k M J)
theorem iq_setB (J : rn_Jq G M N n K) {r s : Int} (h : ¬ ((0 ≤ r ∧ r < N 0) ∧ 0 ≤ s ∧ s ≤ 60)) (k : ∀ M', rn_Jq G M' N n K → Q (some (rn_I (-1))) M') : rn_ME 101 [rn_R 8, rn_I r, rn_I s] M Q :=
  rq_set J.1 J.2.2.1 (fun _ M1 c s g => k M1 (rn_Jf0 c s g J)) (fun z => absurd z h) (fun z => absurd z h) (fun z => absurd z h)
end IQ
