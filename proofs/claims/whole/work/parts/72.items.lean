/-! items of a text, the class: rivers and towns -/
noncomputable def rn_r1 (T : Int → Int) (n e : Int) : Int ⊕ Int := rn_mS T n (.inr e)
noncomputable def rn_r2 (T : Int → Int) (n e : Int) : Int ⊕ Int := rn_nS T n 0 59 (rn_r1 T n e)
noncomputable def rn_r3 (T : Int → Int) (n e : Int) : Int ⊕ Int := rn_nS T n 0 39 (rn_r2 T n e)
noncomputable def rn_r4 (T : Int → Int) (n e : Int) : Int ⊕ Int := rn_nS T n 1 9 (rn_r3 T n e)
noncomputable def rn_r5 (T : Int → Int) (n e : Int) : Int ⊕ Int := rn_nS T n 0 2 (rn_r4 T n e)
/-- the row with the new river, still without moves -/
noncomputable def rn_rN (T : Int → Int) (n : Int) (N : Nat → Int) (e : Int) : Nat → Int := rn_nr N (rn_te T n (rn_tks T n e) - rn_tks T n e) (rn_nV T n 0 59 (rn_r1 T n e)) (rn_nV T n 0 39 (rn_r2 T n e)) (rn_nV T n 1 9 (rn_r3 T n e)) (rn_nV T n 0 2 (rn_r4 T n e)) (fun i => T (rn_tks T n e + i))
noncomputable def rn_r6 (T : Int → Int) (n : Int) (N : Nat → Int) (e : Int) : Int ⊕ Int := rn_vS T n (N 0) (rn_rN T n N e) (rn_r5 T n e)
noncomputable def rn_r7 (T : Int → Int) (n : Int) (N : Nat → Int) (e : Int) : Int ⊕ Int := rn_sS T n (rn_r6 T n N e)
noncomputable def rn_rM (T : Int → Int) (n : Int) (N : Nat → Int) (e : Int) : Nat → Int := match rn_r5 T n e with
  | .inl _ => N
  | .inr e5 => rn_mvs T (rn_tks T n e5) (N 0) (rn_te T n (rn_tks T n e5) - rn_tks T n e5).toNat (rn_rN T n N e)
noncomputable def rn_ta1 (T : Int → Int) (n e : Int) : Int ⊕ Int := rn_nS T n 0 59 (.inr e)
noncomputable def rn_tax (T : Int → Int) (n e : Int) : Int := rn_nV T n 0 59 (.inr e)
noncomputable def rn_ta2 (T : Int → Int) (n e : Int) : Int ⊕ Int := rn_nS T n 0 39 (rn_ta1 T n e)
noncomputable def rn_tay (T : Int → Int) (n e : Int) : Int := rn_nV T n 0 39 (rn_ta1 T n e)
noncomputable def rn_ta3 (T : Int → Int) (n e : Int) : Int ⊕ Int := rn_nS T n 1 (min 12 (60 - rn_tax T n e)) (rn_ta2 T n e)
noncomputable def rn_twd (T : Int → Int) (n e : Int) : Int := rn_nV T n 1 (min 12 (60 - rn_tax T n e)) (rn_ta2 T n e)
noncomputable def rn_ta4 (T : Int → Int) (n e : Int) : Int ⊕ Int := rn_nS T n 1 (min 3 (40 - rn_tay T n e)) (rn_ta3 T n e)
noncomputable def rn_tht (T : Int → Int) (n e : Int) : Int := rn_nV T n 1 (min 3 (40 - rn_tay T n e)) (rn_ta3 T n e)
noncomputable def rn_ta5 (T : Int → Int) (n e : Int) : Int ⊕ Int := rn_nS T n 1 9 (rn_ta4 T n e)
noncomputable def rn_trk (T : Int → Int) (n e : Int) : Int := rn_nV T n 1 9 (rn_ta4 T n e)
noncomputable def rn_ta6 (T : Int → Int) (n e : Int) : Int ⊕ Int := rn_sS T n (rn_ta5 T n e)
noncomputable def rn_tM (T : Int → Int) (n : Int) (N : Nat → Int) (e : Int) : Nat → Int := rn_at5 N (rn_tax T n e) (rn_tay T n e) (rn_twd T n e) (rn_tht T n e) (rn_trk T n e)
section ITM
variable {M : rn_M} {Q : rn_Q} {T : Int → Int} {n : Int} {N : Nat → Int}
theorem rn_nV_r {lo hi : Int} {S : Int ⊕ Int} (h : lo ≤ hi) : lo ≤ rn_nV T n lo hi S ∧ rn_nV T n lo hi S ≤ hi := by
  cases S with
  | inl p => exact ⟨Int.le_refl _, h⟩
  | inr e =>
    unfold rn_nV
    dsimp only
    by_cases c : rn_nok T n (rn_tks T n e) lo hi
    · rw [rn_pick_t c]; exact c.2
    · rw [rn_pick_f c]; exact ⟨Int.le_refl _, h⟩
theorem rn_nS_i {lo hi e' : Int} {S : Int ⊕ Int} (h : rn_nS T n lo hi S = .inr e') : ∃ e, S = .inr e ∧ rn_nok T n (rn_tks T n e) lo hi ∧ e' = rn_te T n (rn_tks T n e) ∧ rn_nV T n lo hi S = rn_val T (rn_tks T n e) (rn_te T n (rn_tks T n e) - rn_tks T n e).toNat := by
  cases S with
  | inl p => cases h
  | inr e =>
    unfold rn_nS at h
    dsimp only at h
    by_cases c : rn_nok T n (rn_tks T n e) lo hi
    · rw [rn_pq_t c] at h
      refine ⟨e, rfl, c, (Sum.inr.inj h).symm, ?_⟩
      unfold rn_nV
      dsimp only
      rw [rn_pick_t c]
    · rw [rn_pq_f c] at h; cases h
theorem rn_mS_i {e' : Int} {S : Int ⊕ Int} (h : rn_mS T n S = .inr e') : ∃ e, S = .inr e ∧ (rn_ko (T (rn_tks T n e)) = 1 ∧ rn_te T n (rn_tks T n e) - rn_tks T n e ≤ 12) ∧ e' = rn_te T n (rn_tks T n e) := by
  cases S with
  | inl p => cases h
  | inr e =>
    unfold rn_mS at h
    dsimp only at h
    by_cases c : rn_ko (T (rn_tks T n e)) = 1 ∧ rn_te T n (rn_tks T n e) - rn_tks T n e ≤ 12
    · rw [rn_pq_t c] at h; exact ⟨e, rfl, c, (Sum.inr.inj h).symm⟩
    · rw [rn_pq_f c] at h; cases h
theorem rn_sS_i {e' : Int} {S : Int ⊕ Int} (h : rn_sS T n S = .inr e') : ∃ e, S = .inr e ∧ T (rn_tks T n e) = 59 ∧ e' = rn_te T n (rn_tks T n e) := by
  cases S with
  | inl p => cases h
  | inr e =>
    unfold rn_sS at h
    dsimp only at h
    by_cases c : T (rn_tks T n e) = 59
    · rw [rn_pq_t c] at h; exact ⟨e, rfl, c, (Sum.inr.inj h).symm⟩
    · rw [rn_pq_f c] at h; cases h
theorem rn_vS_i {e' r : Int} {S : Int ⊕ Int} (h : rn_vS T n r N S = .inr e') : ∃ e, S = .inr e ∧ (rn_ko (T (rn_tks T n e)) = 2 ∧ rn_mok T (rn_tks T n e) r N (rn_te T n (rn_tks T n e) - rn_tks T n e).toNat) ∧ e' = rn_te T n (rn_tks T n e) := by
  cases S with
  | inl p => cases h
  | inr e =>
    unfold rn_vS at h
    dsimp only at h
    by_cases c : rn_ko (T (rn_tks T n e)) = 2 ∧ rn_mok T (rn_tks T n e) r N (rn_te T n (rn_tks T n e) - rn_tks T n e).toNat
    · rw [rn_pq_t c] at h; exact ⟨e, rfl, c, (Sum.inr.inj h).symm⟩
    · rw [rn_pq_f c] at h; cases h
/-- S is behind lo -/
def rn_gs (S : Int ⊕ Int) (lo n : Int) : Prop := ∀ e, S = .inr e → lo ≤ e ∧ e ≤ n
theorem rn_gs_te {e lo : Int} (h : lo ≤ e ∧ e ≤ n) : lo ≤ rn_te T n (rn_tks T n e) ∧ rn_te T n (rn_tks T n e) ≤ n := by
  have br := rn_tks_r (T := T) h.2
  have er := rn_te_r (T := T) br.2
  omega
theorem rn_gs_n {lo a b : Int} {S : Int ⊕ Int} (h : rn_gs S lo n) : rn_gs (rn_nS T n a b S) lo n := fun e' he => by
  obtain ⟨e, h1, _, h3, _⟩ := rn_nS_i he
  rw [h3]; exact rn_gs_te (h e h1)
theorem rn_gs_m {lo : Int} {S : Int ⊕ Int} (h : rn_gs S lo n) : rn_gs (rn_mS T n S) lo n := fun e' he => by
  obtain ⟨e, h1, _, h3⟩ := rn_mS_i he
  rw [h3]; exact rn_gs_te (h e h1)
theorem rn_gs_s {lo : Int} {S : Int ⊕ Int} (h : rn_gs S lo n) : rn_gs (rn_sS T n S) lo n := fun e' he => by
  obtain ⟨e, h1, _, h3⟩ := rn_sS_i he
  rw [h3]; exact rn_gs_te (h e h1)
theorem rn_gs_v {lo r : Int} {S : Int ⊕ Int} (h : rn_gs S lo n) : rn_gs (rn_vS T n r N S) lo n := fun e' he => by
  obtain ⟨e, h1, _, h3⟩ := rn_vS_i he
  rw [h3]; exact rn_gs_te (h e h1)
theorem rn_gs_r7 {e : Int} (h : e ≤ n) : rn_gs (rn_r7 T n N e) e n :=
  rn_gs_s (rn_gs_v (rn_gs_n (rn_gs_n (rn_gs_n (rn_gs_n (rn_gs_m (fun e' he => by have := Sum.inr.inj he; omega)))))))
theorem rn_gs_t6 {e : Int} (h : e ≤ n) : rn_gs (rn_ta6 T n e) e n :=
  rn_gs_s (rn_gs_n (rn_gs_n (rn_gs_n (rn_gs_n (rn_gs_n (fun e' he => by have := Sum.inr.inj he; omega))))))
/-- a river that was read -/
theorem rn_r5_i {e e5 : Int} (tt : rn_TT T n) (he : 0 ≤ e ∧ e ≤ n) (h : rn_r5 T n e = .inr e5) : rn_rg (rn_te T n (rn_tks T n e) - rn_tks T n e) (rn_nV T n 0 59 (rn_r1 T n e)) (rn_nV T n 0 39 (rn_r2 T n e)) (rn_nV T n 1 9 (rn_r3 T n e)) (rn_nV T n 0 2 (rn_r4 T n e)) ∧ (∀ i : Nat, (i : Int) < rn_te T n (rn_tks T n e) - rn_tks T n e → 0 ≤ T (rn_tks T n e + i) ∧ T (rn_tks T n e + i) ≤ 255) ∧ ∃ e', rn_r1 T n e = .inr e' := by
  obtain ⟨e4, h4, _⟩ := rn_nS_i h
  obtain ⟨e3, h3, _⟩ := rn_nS_i h4
  obtain ⟨e2, h2, _⟩ := rn_nS_i h3
  obtain ⟨e1, h1, _⟩ := rn_nS_i h2
  obtain ⟨e0, h0, hn, _⟩ := rn_mS_i h1
  have h0 := Sum.inr.inj h0
  subst h0
  have br := rn_tks_r (T := T) he.2
  have er := rn_te_r (T := T) br.2
  have bn : rn_tks T n e < n := by
    by_cases c : rn_tks T n e < n
    · exact c
    · have := rn_ko_1.mp hn.1
      rw [tt.2.2 _ (by omega)] at this
      omega
  have v1 := rn_nV_r (T := T) (n := n) (S := rn_r1 T n e) (show (0 : Int) ≤ 59 by omega)
  have v2 := rn_nV_r (T := T) (n := n) (S := rn_r2 T n e) (show (0 : Int) ≤ 39 by omega)
  have v3 := rn_nV_r (T := T) (n := n) (S := rn_r3 T n e) (show (1 : Int) ≤ 9 by omega)
  have v4 := rn_nV_r (T := T) (n := n) (S := rn_r4 T n e) (show (0 : Int) ≤ 2 by omega)
  refine ⟨⟨by omega, by omega, by omega, by omega⟩, fun i hi => ?_, e1, h1⟩
  have := tt.2.1 (rn_tks T n e + i) (by omega) (by omega)
  omega
theorem rs_begin {a : Nat} {x y k h : Int} (hM : rn_sh M) (p : rn_isR a) (kk : ∀ M', rn_ch (rn_PR a) M M' → (∀ j, j ≠ 1 → j ≠ 2 → rn_gi M' a j = rn_gi M a j) → rn_gi M' a 1 = k → rn_gi M' a 2 = h → rn_gi M' (a + 1) = rn_gi M (a + 1) → rn_gi M' (a + 3) 0 = x → rn_gi M' (a + 4) 0 = y → Q none M') : rn_ME 61 [rn_R a, rn_I x, rn_I y, rn_I k, rn_I h] M Q := by
  refine re_Ri_begin (rb_Ri_begin_0 hM p (kk _ ?_ (fun j h1 h2 => ?_) ?_ rn_si_eq ?_ ?_ ?_))
  · exact rn_ch_tr (rn_ch_tr (rn_ch_tr (rn_ch_si (by unfold rn_PR; omega)) (rn_ch_si (by unfold rn_PR; omega))) (rn_ch_si (by unfold rn_PR; omega))) (rn_ch_si (by unfold rn_PR; omega))
  · rw [rn_si_ne (by omega), rn_si_ne (by omega), rn_si_gif (by omega), rn_si_gif (by omega)]
  · rw [rn_si_ne (by omega), rn_si_eq]
  · rw [rn_si_gif (by omega), rn_si_gif (by omega), rn_si_gif (by omega), rn_si_gif (by omega)]
  · rw [rn_si_gif (by omega), rn_si_gif (by omega), rn_si_gif (by omega), rn_si_eq]
  · rw [rn_si_gif (by omega), rn_si_gif (by omega), rn_si_eq]
theorem rn_Bw_Pb {bb : Nat} {P : Nat → Prop} {M' : rn_M} (c : rn_ch P M M') (h : ∀ i : Nat, i < 6 → rn_gi M' (bb + 4 + 5 * i) 0 = rn_gi M (bb + 4 + 5 * i) 0) (w : rn_Bw M bb) : rn_Bw M' bb := rn_Bw_eq h (fun k => c.2.1 _ k) w
theorem rs_readRiver {M0 : rn_M} {bb : Nat} {e : Int} (hM : rn_sh M) (st : rn_St M) (p : rn_isB bb) (tt : rn_TT T n) (t : rn_TC M T n) (h : rn_rd M n (.inr e)) (w : rn_Bw M bb) (hb : rn_Rp M0 bb N) (v : rn_vd N) (c : N 0 ≤ 5)
    (f : ∀ z, z ≠ bb → z ≠ bb + 4 + 5 * (N 0).toNat → rn_gi M z = rn_gi M0 z) (fr : ∀ z k, rn_gr M z k = rn_gr M0 z k) (g : ∀ j, j ≠ 0 → rn_gi M bb j = rn_gi M0 bb j) (g0 : rn_gi M bb 0 = N 0 + 1) (a0 : rn_gi M (bb + 4 + 5 * (N 0).toNat) 0 = rn_gi M0 (bb + 4 + 5 * (N 0).toNat) 0) (a3 : rn_gi M (bb + 4 + 5 * (N 0).toNat) 3 = 0) (a4 : rn_gi M (bb + 4 + 5 * (N 0).toNat) 4 = 0)
    (k : ∀ M', rn_ch (rn_Pb bb) M M' → rn_Bw M' bb → rn_rd M' n (rn_r7 T n N e) → (∀ e', rn_r7 T n N e = .inr e' → rn_Rp M' bb (rn_rM T n N e) ∧ rn_vd (rn_rM T n N e)) → Q none M') : rn_ME 47 [rn_R 9, rn_R (bb + 4 + 5 * (N 0).toNat)] M Q := by
  have bd := rn_bdB p
  have v0 := v.1
  have pa : rn_isR (bb + 4 + 5 * (N 0).toNat) := rn_isR_of p (by omega)
  have he : 0 ≤ e ∧ e ≤ n := ⟨h.2.2.1, h.2.2.2⟩
  have te : ∀ {M1 : rn_M}, rn_ch (rn_Pb bb) M M1 → rn_TC M1 T n := fun c => rn_TC_eq t (c.2.2 10 (fun z => by unfold rn_Pb at z; omega)) (c.2.2 11 (fun z => by unfold rn_Pb at z; omega))
  have ste : ∀ {M1 : rn_M}, rn_ch (rn_Pb bb) M M1 → rn_St M1 := fun c => rn_St_ch ⟨fun z => by unfold rn_Pb at z; omega, fun z => by unfold rn_Pb at z; omega⟩ c st
  have c9 : ∀ z, rn_P9 z → rn_Pb bb z := fun z hz => Or.inl hz
  refine re_Re_readRiver (rb_Re_readRiver_0s hM (rs_readName hM pa tt t h a3 (fun M1 c1 j1 rd1 nm1 => ?_)))
  have d1 : rn_ch (rn_Pb bb) M M1 := rn_ch_mono (fun z hz => by unfold rn_P9a at hz; unfold rn_Pb; omega) c1
  refine rb_Re_readRiver_15 (rn_sh_ch d1 hM) (rs_readNumber (S := rn_r1 T n e) (rn_sh_ch d1 hM) tt (te d1) rd1 (by omega) (fun M2 c2 rd2 => ?_))
  have d2 := rn_ch_tr d1 (rn_ch_mono c9 c2)
  refine rb_Re_readRiver_22 (rn_sh_ch d2 hM) (rs_readNumber (S := rn_r2 T n e) (rn_sh_ch d2 hM) tt (te d2) rd2 (by omega) (fun M3 c3 rd3 => ?_))
  have d3 := rn_ch_tr d2 (rn_ch_mono c9 c3)
  refine rb_Re_readRiver_30 (rn_sh_ch d3 hM) (rs_readNumber (S := rn_r3 T n e) (rn_sh_ch d3 hM) tt (te d3) rd3 (by omega) (fun M4 c4 rd4 => ?_))
  have d4 := rn_ch_tr d3 (rn_ch_mono c9 c4)
  refine rb_Re_readRiver_38 (rn_sh_ch d4 hM) (rs_readNumber (S := rn_r4 T n e) (rn_sh_ch d4 hM) tt (te d4) rd4 (by omega) (fun M5 c5 rd5 => ?_))
  have d5 := rn_ch_tr d4 (rn_ch_mono c9 c5)
  have c15 : rn_ch rn_P9 M1 M5 := rn_ch_tr c2 (rn_ch_tr c3 (rn_ch_tr c4 c5))
  have e15 : ∀ z, z ≠ 9 → rn_gi M5 z = rn_gi M1 z := fun z hz => c15.2.2 z hz
  refine rb_Re_readRiver_46 (rn_sh_ch d5 hM) pa (rs_begin (rn_sh_ch d5 hM) pa (fun M6 c6 j6 k6 h6 n6 x6 y6 => ?_))
  have d6 := rn_ch_tr d5 (rn_ch_mono (fun z hz => by unfold rn_PR at hz; exact Or.inr (by omega)) c6)
  have rd6 : rn_rd M6 n (rn_r5 T n e) := rn_rd_9 (c6.2.2 9 (by unfold rn_PR; omega)) rd5
  have ja : ∀ j, j ≠ 1 → j ≠ 2 → j ≠ 3 → rn_gi M6 (bb + 4 + 5 * (N 0).toNat) j = rn_gi M (bb + 4 + 5 * (N 0).toNat) j := fun j q1 q2 q3 => by
    rw [j6 j q1 q2, e15 _ (by omega), j1 j q3]
  have z6 : ∀ z, z ≠ 9 → ¬ rn_PR (bb + 4 + 5 * (N 0).toNat) z → rn_gi M6 z = rn_gi M z := fun z q1 q2 => by
    rw [c6.2.2 z q2, e15 z q1, c1.2.2 z (fun y => by unfold rn_P9a at y; unfold rn_PR at q2; omega)]
  have w6 : rn_Bw M6 bb := by
    refine rn_Bw_Pb d6 (fun i hi => ?_) w
    by_cases q : i = (N 0).toNat
    · rw [q]; exact ja 0 (by omega) (by omega) (by omega)
    · rw [z6 _ (by omega) (by unfold rn_PR; omega)]
  refine rb_Re_readRiver_58 (rn_sh_ch d6 hM) (rs_readMoves (S := rn_r5 T n e) (r := N 0) (N := rn_rN T n N e) (rn_sh_ch d6 hM) (ste d6) p tt (te d6) rd6 w6 (by omega) (fun e5 h5 => ?_) (fun M7 c7 w7 rd7 r7 => ?_))
  · obtain ⟨rg, nm, e', h1⟩ := rn_r5_i tt he h5
    have na := nm1 e e' rfl h1
    refine ⟨rn_nr_vd v c rg nm, by show N 0 < rn_nr _ _ _ _ _ _ _ 0; rw [rn_nr_0]; omega, ?_⟩
    refine rn_Rp_nr (M := M0) p hb v c (fun z q1 q2 q3 q4 => ?_) (fun z j => (d6.2.1 z j).trans (fr z j)) (fun j hj => ?_) ?_ ?_ k6 h6 ?_ ?_ (fun i hi => ?_) x6 y6 rg.1.2
    · rw [z6 z (by omega) q4, f z q3 (fun y => q4 (by unfold rn_PR; omega))]
    · rw [z6 bb (by omega) (by unfold rn_PR; omega)]; exact g j hj
    · rw [z6 bb (by omega) (by unfold rn_PR; omega)]; exact g0
    · rw [ja 0 (by omega) (by omega) (by omega)]; exact a0
    · rw [j6 3 (by omega) (by omega), e15 _ (by omega)]; exact na.1
    · rw [ja 4 (by omega) (by omega) (by omega)]; exact a4
    · rw [n6, e15 _ (by omega)]; exact na.2 i hi
  · have d7 := rn_ch_tr d6 c7
    refine rb_Re_readRiver_63 (rn_sh_ch d7 hM) (rs_readSemicolon (S := rn_r6 T n N e) (rn_sh_ch d7 hM) tt (te d7) rd7 (fun M8 c8 rd8 => rb_Re_readRiver_67 ?_))
    refine k M8 (rn_ch_tr d7 (rn_ch_mono c9 c8)) (rn_Bw_Pb c8 (fun i hi => by rw [c8.2.2 _ (fun z => by unfold rn_P9 at z; omega)]) w7) rd8 (fun e' h7 => ?_)
    obtain ⟨e6, h6, _⟩ := rn_sS_i h7
    obtain ⟨e5, h5, hm, _⟩ := rn_vS_i h6
    obtain ⟨rg, nm, _⟩ := rn_r5_i tt he h5
    have rM : rn_rM T n N e = rn_mvs T (rn_tks T n e5) (N 0) (rn_te T n (rn_tks T n e5) - rn_tks T n e5).toNat (rn_rN T n N e) := by unfold rn_rM; rw [h5]
    have vN : rn_vd (rn_rN T n N e) := rn_nr_vd v c rg nm
    have ok := rn_mvs_ok vN v0.1 (by show N 0 < rn_nr _ _ _ _ _ _ _ 0; rw [rn_nr_0]; omega) _ hm.2
    rw [rM]
    exact ⟨rn_Rp_ch (fun a q1 q2 z => by unfold rn_P9 at z; omega) c8 p ok.1 (r7 e5 e6 h5 h6), ok.1⟩
end ITM
