/-! readTown, readInto and load of the class -/
def rn_wR (i : Nat) : Int := rn_bR.getD i 0
def rn_wT (i : Nat) : Int := rn_bT.getD i 0
noncomputable def rn_iS (T : Int → Int) (n : Int) (N : Nat → Int) (b : Int) : Int ⊕ Int :=
  rn_pq (rn_isW T n b 5 rn_wR) (rn_pq (N 0 = 6) (.inl b) (rn_r7 T n N (rn_te T n b))) (rn_pq (rn_isW T n b 4 rn_wT) (rn_pq (N 1 = 10) (.inl b) (rn_ta6 T n (rn_te T n b))) (.inl b))
noncomputable def rn_iN (T : Int → Int) (n : Int) (N : Nat → Int) (b : Int) : Nat → Int :=
  rn_pq (rn_isW T n b 5 rn_wR) (rn_rM T n N (rn_te T n b)) (rn_tM T n N (rn_te T n b))
/-- the text from e on: the answer, the row -/
noncomputable def rn_lS (T : Int → Int) (n : Int) : Nat → (Nat → Int) → Int → Int → Int × (Nat → Int)
  | 0, N, _, i => (i, N)
  | f + 1, N, e, i => rn_pq (T (rn_tks T n e) = 0) (i, N) (match rn_iS T n N (rn_tks T n e) with
    | .inl p => (-1000 - p, N)
    | .inr e' => rn_lS T n f (rn_iN T n N (rn_tks T n e)) e' (i + 1))
/-- M0 with the cell 9 of M -/
def rn_w9 (M0 M : rn_M) : rn_M := (M0.1, M0.2.1, fun a k => if a = 9 then rn_gi M 9 k else rn_gi M0 a k, M0.2.2.2)
theorem rn_w9_ch {M0 M : rn_M} : rn_ch rn_P9 M0 (rn_w9 M0 M) := ⟨rfl, fun _ _ => rfl, fun a ha => funext fun k => by
  show (if a = 9 then rn_gi M 9 k else rn_gi M0 a k) = rn_gi M0 a k
  rw [if_neg (show ¬ a = 9 from fun z => ha z)]⟩
theorem rn_w9_9 {M0 M : rn_M} : rn_gi (rn_w9 M0 M) 9 = rn_gi M 9 := funext fun k => by
  show (if 9 = 9 then rn_gi M 9 k else rn_gi M0 9 k) = rn_gi M 9 k
  rw [if_pos rfl]
theorem rn_wrd_ch {P : Nat → Prop} {M M' : rn_M} {a c L : Nat} {w : Nat → Int} (h : rn_wrd M a c L w) (k : rn_ch P M M') (h1 : ¬ P a) (h2 : ¬ P c) : rn_wrd M' a c L w := by
  obtain ⟨w1, w2, w3, w4, w5, w6, w7⟩ := h
  refine ⟨?_, (k.2.1 _ _).trans w2, by rw [k.2.2 a h1]; exact w3, ?_, w5, w6, fun i hi => by rw [k.2.2 c h2]; exact w7 i hi⟩
  · unfold rn_kd at *; rw [k.1]; exact w1
  · unfold rn_ba rn_kd rn_ln at *; rw [k.1]; exact w4
section LOD
variable {M : rn_M} {Q : rn_Q} {T : Int → Int} {n : Int} {N : Nat → Int}
theorem rs_readTown {M0 : rn_M} {bb : Nat} {e : Int} (hM : rn_sh M) (p : rn_isB bb) (tt : rn_TT T n) (t : rn_TC M T n) (h : rn_rd M n (.inr e)) (w : rn_Bw M bb) (hb : rn_Rp M0 bb N) (v : rn_vd N) (c : N 1 ≤ 9)
    (f : ∀ z, z ≠ 9 → z ≠ bb → rn_gi M z = rn_gi M0 z) (fr : ∀ z k, rn_gr M z k = rn_gr M0 z k) (g : ∀ j, j ≠ 1 → rn_gi M bb j = rn_gi M0 bb j) (g0 : rn_gi M bb 1 = N 1 + 1)
    (k : ∀ M', rn_ch (rn_Pb bb) M M' → rn_Bw M' bb → rn_rd M' n (rn_ta6 T n e) → (∀ e', rn_ta6 T n e = .inr e' → rn_Rp M' bb (rn_tM T n N e) ∧ rn_vd (rn_tM T n N e)) → Q none M') : rn_ME 48 [rn_R 9, rn_R (bb + 34 + (N 1).toNat)] M Q := by
  have bd := rn_bdB p
  have v1 := v.2.1
  have pt : rn_isT (bb + 34 + (N 1).toNat) := rn_isT_of p (by omega)
  have c9 : ∀ z, rn_P9 z → rn_Pb bb z := fun z hz => Or.inl hz
  have rx : 0 ≤ rn_tax T n e ∧ rn_tax T n e ≤ 59 := rn_nV_r (T := T) (n := n) (S := .inr e) (by omega)
  have ry : 0 ≤ rn_tay T n e ∧ rn_tay T n e ≤ 39 := rn_nV_r (T := T) (n := n) (S := rn_ta1 T n e) (by omega)
  have rw' : 1 ≤ rn_twd T n e ∧ rn_twd T n e ≤ min 12 (60 - rn_tax T n e) := rn_nV_r (T := T) (n := n) (S := rn_ta2 T n e) (by omega)
  have rh : 1 ≤ rn_tht T n e ∧ rn_tht T n e ≤ min 3 (40 - rn_tay T n e) := rn_nV_r (T := T) (n := n) (S := rn_ta3 T n e) (by omega)
  have rk : 1 ≤ rn_trk T n e ∧ rn_trk T n e ≤ 9 := rn_nV_r (T := T) (n := n) (S := rn_ta4 T n e) (by omega)
  have rx2 : 0 ≤ rn_nV T n 0 59 (.inr e) ∧ rn_nV T n 0 59 (.inr e) ≤ 59 := rx
  have ry2 : 0 ≤ rn_nV T n 0 39 (rn_ta1 T n e) ∧ rn_nV T n 0 39 (rn_ta1 T n e) ≤ 39 := ry
  refine re_Re_readTown (rb_Re_readTown_0s hM (rs_readNumber (S := .inr e) hM tt t h (by omega) (fun M1 c1 rd1 => ?_)))
  refine rb_Re_readTown_17 (rn_sh_ch c1 hM) (rs_readNumber (S := rn_ta1 T n e) (rn_sh_ch c1 hM) tt (rn_TC_9 t c1) rd1 (by omega) (fun M2 c2 rd2 => ?_))
  have d2 := rn_ch_tr c1 c2
  refine rb_Re_readTown_25 (rn_sh_ch d2 hM) (by omega) (rs_readNumber (S := rn_ta2 T n e) (rn_sh_ch d2 hM) tt (rn_TC_9 t d2) rd2 (by omega) (fun M3 c3 rd3 => ?_))
  have d3 := rn_ch_tr d2 c3
  refine rb_Re_readTown_40 (rn_sh_ch d3 hM) (by omega) (rs_readNumber (S := rn_ta3 T n e) (rn_sh_ch d3 hM) tt (rn_TC_9 t d3) rd3 (by omega) (fun M4 c4 rd4 => ?_))
  have d4 := rn_ch_tr d3 c4
  refine rb_Re_readTown_55 (rn_sh_ch d4 hM) (rs_readNumber (S := rn_ta4 T n e) (rn_sh_ch d4 hM) tt (rn_TC_9 t d4) rd4 (by omega) (fun M5 c5 rd5 => ?_))
  have d5 := rn_ch_tr d4 c5
  have hM5 := rn_sh_ch d5 hM
  have t5 := rn_TC_9 t d5
  have o5 : ∀ z, z ≠ 9 → rn_gi M5 z = rn_gi M z := fun z hz => d5.2.2 z hz
  refine rb_Re_readTown_64 hM5 pt (re_To_build (rb_To_build_0 hM5 pt ?_))
  show rn_WP 48 78 [rn_R 9, rn_R (bb + 34 + (N 1).toNat), rn_I (rn_tax T n e), rn_I (rn_tay T n e), rn_I (rn_twd T n e), rn_I (rn_tht T n e), rn_I (rn_trk T n e)] [] (rn_si (rn_si (rn_si (rn_si (rn_si M5 (bb + 34 + (N 1).toNat) 0 (rn_tax T n e)) (bb + 34 + (N 1).toNat) 1 (rn_tay T n e)) (bb + 34 + (N 1).toNat) 2 (rn_twd T n e)) (bb + 34 + (N 1).toNat) 3 (rn_tht T n e)) (bb + 34 + (N 1).toNat) 4 (rn_trk T n e)) Q
  have q0 : ∀ z, z ≠ bb + 34 + (N 1).toNat → rn_gi (rn_si (rn_si (rn_si (rn_si (rn_si M5 (bb + 34 + (N 1).toNat) 0 (rn_tax T n e)) (bb + 34 + (N 1).toNat) 1 (rn_tay T n e)) (bb + 34 + (N 1).toNat) 2 (rn_twd T n e)) (bb + 34 + (N 1).toNat) 3 (rn_tht T n e)) (bb + 34 + (N 1).toNat) 4 (rn_trk T n e)) z = rn_gi M5 z := fun z hz => by
    rw [rn_si_gif (by omega), rn_si_gif (by omega), rn_si_gif (by omega), rn_si_gif (by omega), rn_si_gif (by omega)]
  have q1 : rn_gi (rn_si (rn_si (rn_si (rn_si (rn_si M5 (bb + 34 + (N 1).toNat) 0 (rn_tax T n e)) (bb + 34 + (N 1).toNat) 1 (rn_tay T n e)) (bb + 34 + (N 1).toNat) 2 (rn_twd T n e)) (bb + 34 + (N 1).toNat) 3 (rn_tht T n e)) (bb + 34 + (N 1).toNat) 4 (rn_trk T n e)) (bb + 34 + (N 1).toNat) 0 = rn_tax T n e := by
    rw [rn_si_ne (by omega), rn_si_ne (by omega), rn_si_ne (by omega), rn_si_ne (by omega), rn_si_eq]
  have q2 : rn_gi (rn_si (rn_si (rn_si (rn_si (rn_si M5 (bb + 34 + (N 1).toNat) 0 (rn_tax T n e)) (bb + 34 + (N 1).toNat) 1 (rn_tay T n e)) (bb + 34 + (N 1).toNat) 2 (rn_twd T n e)) (bb + 34 + (N 1).toNat) 3 (rn_tht T n e)) (bb + 34 + (N 1).toNat) 4 (rn_trk T n e)) (bb + 34 + (N 1).toNat) 1 = rn_tay T n e := by
    rw [rn_si_ne (by omega), rn_si_ne (by omega), rn_si_ne (by omega), rn_si_eq]
  have q3 : rn_gi (rn_si (rn_si (rn_si (rn_si (rn_si M5 (bb + 34 + (N 1).toNat) 0 (rn_tax T n e)) (bb + 34 + (N 1).toNat) 1 (rn_tay T n e)) (bb + 34 + (N 1).toNat) 2 (rn_twd T n e)) (bb + 34 + (N 1).toNat) 3 (rn_tht T n e)) (bb + 34 + (N 1).toNat) 4 (rn_trk T n e)) (bb + 34 + (N 1).toNat) 2 = rn_twd T n e := by
    rw [rn_si_ne (by omega), rn_si_ne (by omega), rn_si_eq]
  have q4 : rn_gi (rn_si (rn_si (rn_si (rn_si (rn_si M5 (bb + 34 + (N 1).toNat) 0 (rn_tax T n e)) (bb + 34 + (N 1).toNat) 1 (rn_tay T n e)) (bb + 34 + (N 1).toNat) 2 (rn_twd T n e)) (bb + 34 + (N 1).toNat) 3 (rn_tht T n e)) (bb + 34 + (N 1).toNat) 4 (rn_trk T n e)) (bb + 34 + (N 1).toNat) 3 = rn_tht T n e := by
    rw [rn_si_ne (by omega), rn_si_eq]
  have q5 : rn_gi (rn_si (rn_si (rn_si (rn_si (rn_si M5 (bb + 34 + (N 1).toNat) 0 (rn_tax T n e)) (bb + 34 + (N 1).toNat) 1 (rn_tay T n e)) (bb + 34 + (N 1).toNat) 2 (rn_twd T n e)) (bb + 34 + (N 1).toNat) 3 (rn_tht T n e)) (bb + 34 + (N 1).toNat) 4 (rn_trk T n e)) (bb + 34 + (N 1).toNat) 4 = rn_trk T n e := rn_si_eq
  have d6 : rn_ch (rn_Pb bb) M5 (rn_si (rn_si (rn_si (rn_si (rn_si M5 (bb + 34 + (N 1).toNat) 0 (rn_tax T n e)) (bb + 34 + (N 1).toNat) 1 (rn_tay T n e)) (bb + 34 + (N 1).toNat) 2 (rn_twd T n e)) (bb + 34 + (N 1).toNat) 3 (rn_tht T n e)) (bb + 34 + (N 1).toNat) 4 (rn_trk T n e)) := ⟨rfl, fun _ _ => rfl, fun z hz => q0 z (fun y => hz (by unfold rn_Pb; omega))⟩
  generalize rn_si (rn_si (rn_si (rn_si (rn_si M5 (bb + 34 + (N 1).toNat) 0 (rn_tax T n e)) (bb + 34 + (N 1).toNat) 1 (rn_tay T n e)) (bb + 34 + (N 1).toNat) 2 (rn_twd T n e)) (bb + 34 + (N 1).toNat) 3 (rn_tht T n e)) (bb + 34 + (N 1).toNat) 4 (rn_trk T n e) = M6 at *
  have hM6 := rn_sh_ch d6 hM5
  have t6 : rn_TC M6 T n := rn_TC_eq t5 (d6.2.2 10 (fun z => by unfold rn_Pb at z; omega)) (d6.2.2 11 (fun z => by unfold rn_Pb at z; omega))
  have d56 := rn_ch_tr (rn_ch_mono c9 d5) d6
  refine rb_Re_readTown_78 hM6 (rs_readSemicolon (S := rn_ta5 T n e) hM6 tt t6 (rn_rd_9 (q0 9 (by omega)) rd5) (fun M7 c7 rd7 => rb_Re_readTown_82 ?_))
  have d7 := rn_ch_tr d56 (rn_ch_mono c9 c7)
  have o7 : ∀ z, z ≠ 9 → rn_gi M7 z = rn_gi M6 z := fun z hz => c7.2.2 z hz
  refine k M7 d7 (rn_Bw_Pb d7 (fun i hi => by rw [o7 _ (by omega), q0 _ (by omega), o5 _ (by omega)]) w) rd7 (fun e' _ => ?_)
  have v2 : rn_vd (rn_tM T n N e) := rn_at5_vd v c (by omega)
  refine ⟨?_, v2⟩
  have hb' : rn_Rp (rn_w9 M0 M7) bb N := rn_Rp_ch (fun a h1 h2 z => by unfold rn_P9 at z; omega) rn_w9_ch p v hb
  refine rn_Rp_at5 (M := rn_w9 M0 M7) p hb' v c (fun z z1 z2 => ?_) (fun z j => (d7.2.1 z j).trans (fr z j)) (fun j hj => ?_) ?_ ?_
  · by_cases z9 : z = 9
    · rw [z9, rn_w9_9]
    · rw [o7 z z9, q0 z z2, o5 z z9, f z z9 z1, rn_w9_ch.2.2 z (fun y => z9 y)]
  · rw [o7 bb (by omega), q0 bb (by omega), o5 bb (by omega), g j hj, rn_w9_ch.2.2 bb (fun y => by unfold rn_P9 at y; omega)]
  · rw [o7 bb (by omega), q0 bb (by omega), o5 bb (by omega), g0]
  · rw [o7 _ (by omega)]; exact ⟨q1, q2, q3, q4, q5⟩
theorem rs_readInto {bb : Nat} (hM : rn_sh M) (st : rn_St M) (p : rn_isB bb) (tt : rn_TT T n) (t : rn_TC M T n) (wr : rn_wrd M 3 5 5 rn_wR) (wt : rn_wrd M 4 6 4 rn_wT) (w : rn_Bw M bb) (hb : rn_Rp M bb N) (v : rn_vd N)
    (k : ∀ M', rn_ch (rn_Pb bb) M M' → rn_Bw M' bb → (0 ≤ (rn_lS T n 151 N 0 0).1 → rn_Rp M' bb (rn_lS T n 151 N 0 0).2 ∧ rn_vd (rn_lS T n 151 N 0 0).2) → Q (some (rn_I (rn_lS T n 151 N 0 0).1)) M') : rn_ME 46 [rn_R 9, rn_R bb] M Q := by
  have bd := rn_bdB p
  have n0 := tt.1
  generalize hR : rn_lS T n 151 N 0 0 = R at k
  refine re_Re_readInto (rb_Re_readInto_0 hM ?_)
  have c9 : ∀ z, rn_P9 z → rn_Pb bb z := fun z hz => Or.inl hz
  have te : ∀ {M1 : rn_M}, rn_ch (rn_Pb bb) M M1 → rn_TC M1 T n := fun c => rn_TC_eq t (c.2.2 10 (fun z => by unfold rn_Pb at z; omega)) (c.2.2 11 (fun z => by unfold rn_Pb at z; omega))
  have ste : ∀ {M1 : rn_M}, rn_ch (rn_Pb bb) M M1 → rn_St M1 := fun c => rn_St_ch ⟨fun z => by unfold rn_Pb at z; omega, fun z => by unfold rn_Pb at z; omega⟩ c st
  have loop : ∀ (f : Nat) (N1 : Nat → Int) (e i : Int) (M1 : rn_M), n - e < f → 0 ≤ i → i ≤ e → rn_ch (rn_Pb bb) M M1 → rn_Bw M1 bb → rn_Rp M1 bb N1 → rn_vd N1 → rn_rd M1 n (.inr e) → rn_lS T n f N1 e i = R → rn_WP 46 12 [rn_R 9, rn_R bb, rn_I i] [] M1 Q := by
    intro f
    induction f with
    | zero => intro N1 e i M1 hf i0 ie c1 w1 r1 v1 rd1 eq; have := rd1.2.2; omega
    | succ f ih =>
      intro N1 e i M1 hf i0 ie c1 w1 r1 v1 rd1 eq
      have hM1 := rn_sh_ch c1 hM
      have t1 := te c1
      obtain ⟨g4, g2, g3⟩ := rd1
      have br := rn_tks_r (T := T) g3.2
      have er := rn_te_r (T := T) br.2
      have u0 := v1.1
      have u1 := v1.2.1
      unfold rn_lS at eq
      -- a refusal at p
      have out : ∀ (p1 : Int) (M2 : rn_M), T (rn_tks T n e) ≠ 0 → rn_iS T n N1 (rn_tks T n e) = .inl p1 → rn_ch (rn_Pb bb) M M2 → rn_Bw M2 bb → rn_gi M2 9 4 = 1 → rn_gi M2 9 1 = p1 → 0 ≤ p1 ∧ p1 ≤ n → rn_WP 46 12 [rn_R 9, rn_R bb, rn_I (i + 1)] [] M2 Q := by
        intro p1 M2 hT hi c2 w2 h4 h1 h5
        rw [rn_pq_f hT, hi] at eq
        dsimp only at eq
        have t2 := te c2
        have fin : Q (some (rn_I (-1000 - p1))) M2 := by
          have k := k M2 c2 w2
          rw [← eq] at k
          exact k (fun z => by have z : 0 ≤ -1000 - p1 := z; omega)
        refine rb_Re_readInto_12 (rn_sh_ch c2 hM) ?_ ?_ ?_ ?_ ?_ <;> rw [t2.1] <;> (try rw [h4]) <;> (try rw [h1])
        · intro _; omega
        · intro _ _; omega
        · intro _; exact fin
        · intro _ z; omega
        · intro _ _; exact fin
      refine rb_Re_readInto_12 hM1 ?_ ?_ ?_ ?_ ?_ <;> rw [t1.1] <;> (try rw [g4])
      · intro z; omega
      · intro _ z; omega
      · intro z; omega
      · intro _ _
        refine rs_nextToken hM1 tt t1 g4 g2 g3 (fun M2 c2 a1 a2 a3 a4 => ?_)
        have d2 := rn_ch_tr c1 (rn_ch_mono c9 c2)
        have hM2 := rn_sh_ch d2 hM
        have w2 : rn_Bw M2 bb := rn_Bw_Pb c2 (fun i hi => by rw [c2.2.2 _ (fun z => by unfold rn_P9 at z; omega)]) w1
        have r2 : rn_Rp M2 bb N1 := rn_Rp_ch (fun a h1 h2 z => by unfold rn_P9 at z; omega) c2 p v1 r1
        refine rb_Re_readInto_34 hM2 ?_ ?_ <;> rw [a3]
        · intro z
          have hT := rn_ko_0.mp z
          rw [rn_pq_t hT] at eq
          have k := k M2 d2 w2
          rw [← eq] at k
          exact k (fun _ => ⟨r2, v1⟩)
        · intro z
          have hT : T (rn_tks T n e) ≠ 0 := fun y => z (rn_ko_0.mpr y)
          have bn : rn_tks T n e < n := by
            by_cases c : rn_tks T n e < n
            · exact c
            · exact absurd (tt.2.2 _ (by omega)) hT
          have go : ∀ (S : Int ⊕ Int) (N2 : Nat → Int) (M4 : rn_M), rn_iS T n N1 (rn_tks T n e) = S → (∀ e', S = .inr e' → rn_iN T n N1 (rn_tks T n e) = N2) → rn_gs S (rn_te T n (rn_tks T n e)) n → rn_ch (rn_Pb bb) M M4 → rn_Bw M4 bb → rn_rd M4 n S → (∀ e', S = .inr e' → rn_Rp M4 bb N2 ∧ rn_vd N2) → rn_WP 46 12 [rn_R 9, rn_R bb, rn_I (i + 1)] [] M4 Q := by
            intro S N2 M4 hS hN hg c4 w4 rd4 rp4
            cases S with
            | inl p1 => exact out p1 M4 hT hS c4 w4 rd4.1 rd4.2.1 rd4.2.2.1
            | inr e' =>
              have g := hg e' rfl
              have rp := rp4 e' rfl
              rw [rn_pq_f hT, hS, hN e' rfl] at eq
              exact ih N2 e' (i + 1) M4 (by omega) (by omega) (by omega) c4 w4 rp.1 rp.2 rd4 eq
          refine rs_tokenIs hM2 tt (te d2) (rn_wrd_ch wr d2 (fun z => by unfold rn_Pb at z; omega) (fun z => by unfold rn_Pb at z; omega)) a1 a2 (by omega) ?_
          refine rb_Re_readInto_49 hM2 p (fun cw => ?_) (fun cw => ?_)
          · have nw : ¬ rn_isW T n (rn_tks T n e) 5 rn_wR := rn_b0 cw
            refine rs_tokenIs hM2 tt (te d2) (rn_wrd_ch wt d2 (fun z => by unfold rn_Pb at z; omega) (fun z => by unfold rn_Pb at z; omega)) a1 a2 (by omega) ?_
            refine rb_Re_readInto_69 hM2 p (fun _ => by omega) (fun ct => ?_) (fun ct => ?_)
            · have nt : ¬ rn_isW T n (rn_tks T n e) 4 rn_wT := rn_b0 ct
              refine out (rn_tks T n e) _ hT (by unfold rn_iS; rw [rn_pq_f nw, rn_pq_f nt]) (rn_ch_tr d2 (rn_ch_mono c9 rn_c9)) (rn_Bw_Pb (M := M2) rn_c9 (fun i hi => by rw [rn_si_gif (by omega)]) w2) rn_si_eq (by rw [rn_si_ne (by omega)]; exact a1) (by omega)
            · have wt' : rn_isW T n (rn_tks T n e) 4 rn_wT := rn_b1 ct
              refine rs_nextTown hM2 p (c := N1 1) r2.1.2.1 (fun c => ?_) (fun c => ?_)
              · refine rb_Re_readInto_77 (rn_sh_si hM2) ?_
                have b2 : ∀ z, z ≠ bb → rn_gi (rn_si M2 bb 1 (N1 1 + 1)) z = rn_gi M2 z := fun z hz => rn_si_gif (by omega)
                have d3 : rn_ch (rn_Pb bb) M (rn_si M2 bb 1 (N1 1 + 1)) := rn_ch_tr d2 (rn_ch_si (by unfold rn_Pb; omega))
                refine rs_readTown (M0 := M2) (e := rn_te T n (rn_tks T n e)) (rn_sh_si hM2) p tt (te d3) ⟨by rw [b2 9 (by omega)]; exact a4, by rw [b2 9 (by omega)]; exact a2, by omega, by omega⟩ (rn_Bw_Pb (M := M2) (P := fun _ => True) (rn_ch_si trivial) (fun i hi => by rw [rn_si_gif (by omega)]) w2) r2 v1 c.2 (fun z _ hz => b2 z hz) (fun _ _ => rfl) (fun j hj => rn_si_ne (by omega)) rn_si_eq (fun M4 c4 w4 rd4 rp4 => rb_Re_readInto_80 (by omega) ?_)
                exact go (rn_ta6 T n (rn_te T n (rn_tks T n e))) (rn_tM T n N1 (rn_te T n (rn_tks T n e))) M4 (by unfold rn_iS; rw [rn_pq_f nw, rn_pq_t wt', rn_pq_f (by omega)]) (fun _ _ => by unfold rn_iN; rw [rn_pq_f nw]) (rn_gs_t6 er.2.1) (rn_ch_tr d3 c4) w4 rd4 rp4
              · refine rb_Re_readInto_77 hM2 (re_Re_readTown (rb_Re_readTown_0n hM2 (rb_Re_readInto_80 (by omega) ?_)))
                exact out (rn_tks T n e) _ hT (by unfold rn_iS; rw [rn_pq_f nw, rn_pq_t wt', rn_pq_t (by omega)]) (rn_ch_tr d2 (rn_ch_mono c9 rn_c9)) (rn_Bw_Pb (M := M2) rn_c9 (fun i hi => by rw [rn_si_gif (by omega)]) w2) rn_si_eq (by rw [rn_si_ne (by omega)]; exact a1) (by omega)
          · have wr' : rn_isW T n (rn_tks T n e) 5 rn_wR := rn_b1 cw
            refine rs_nextRiver hM2 p (c := N1 0) r2.1.1 (fun c => ?_) (fun c => ?_)
            · have s3 : rn_sh (rn_si (rn_si (rn_si M2 (bb + 4 + 5 * (N1 0).toNat) 3 0) (bb + 4 + 5 * (N1 0).toNat) 4 0) bb 0 (N1 0 + 1)) := rn_sh_si (rn_sh_si (rn_sh_si hM2))
              have h3 : rn_gi (rn_si (rn_si (rn_si M2 (bb + 4 + 5 * (N1 0).toNat) 3 0) (bb + 4 + 5 * (N1 0).toNat) 4 0) bb 0 (N1 0 + 1)) (bb + 4 + 5 * (N1 0).toNat) 3 = 0 := by
                rw [rn_si_gif (by omega), rn_si_ne (by omega), rn_si_eq]
              have h4 : rn_gi (rn_si (rn_si (rn_si M2 (bb + 4 + 5 * (N1 0).toNat) 3 0) (bb + 4 + 5 * (N1 0).toNat) 4 0) bb 0 (N1 0 + 1)) (bb + 4 + 5 * (N1 0).toNat) 4 = 0 := by
                rw [rn_si_gif (by omega), rn_si_eq]
              have h0 : rn_gi (rn_si (rn_si (rn_si M2 (bb + 4 + 5 * (N1 0).toNat) 3 0) (bb + 4 + 5 * (N1 0).toNat) 4 0) bb 0 (N1 0 + 1)) (bb + 4 + 5 * (N1 0).toNat) 0 = rn_gi M2 (bb + 4 + 5 * (N1 0).toNat) 0 := by
                rw [rn_si_gif (by omega), rn_si_ne (by omega), rn_si_ne (by omega)]
              have hj : ∀ j, j ≠ 0 → rn_gi (rn_si (rn_si (rn_si M2 (bb + 4 + 5 * (N1 0).toNat) 3 0) (bb + 4 + 5 * (N1 0).toNat) 4 0) bb 0 (N1 0 + 1)) bb j = rn_gi M2 bb j := fun j hj => by
                rw [rn_si_ne (by omega), rn_si_gif (by omega), rn_si_gif (by omega)]
              have hz : ∀ z, z ≠ bb → z ≠ bb + 4 + 5 * (N1 0).toNat → rn_gi (rn_si (rn_si (rn_si M2 (bb + 4 + 5 * (N1 0).toNat) 3 0) (bb + 4 + 5 * (N1 0).toNat) 4 0) bb 0 (N1 0 + 1)) z = rn_gi M2 z := fun z z1 z2 => by
                rw [rn_si_gif (by omega), rn_si_gif (by omega), rn_si_gif (by omega)]
              have hbb : rn_gi (rn_si (rn_si (rn_si M2 (bb + 4 + 5 * (N1 0).toNat) 3 0) (bb + 4 + 5 * (N1 0).toNat) 4 0) bb 0 (N1 0 + 1)) bb 0 = N1 0 + 1 := rn_si_eq
              have d3' : rn_ch (rn_Pb bb) M2 (rn_si (rn_si (rn_si M2 (bb + 4 + 5 * (N1 0).toNat) 3 0) (bb + 4 + 5 * (N1 0).toNat) 4 0) bb 0 (N1 0 + 1)) := rn_ch_tr (rn_ch_tr (rn_ch_si (by unfold rn_Pb; omega)) (rn_ch_si (by unfold rn_Pb; omega))) (rn_ch_si (by unfold rn_Pb; omega))
              refine rb_Re_readInto_57 s3 ?_
              generalize rn_si (rn_si (rn_si M2 (bb + 4 + 5 * (N1 0).toNat) 3 0) (bb + 4 + 5 * (N1 0).toNat) 4 0) bb 0 (N1 0 + 1) = M3 at *
              have d3 := rn_ch_tr d2 d3'
              refine rs_readRiver (M0 := M2) (e := rn_te T n (rn_tks T n e)) s3 (ste d3) p tt (te d3) ⟨by rw [hz 9 (by omega) (by omega)]; exact a4, by rw [hz 9 (by omega) (by omega)]; exact a2, by omega, by omega⟩ (rn_Bw_Pb d3' (fun i hi => ?_) w2) r2 v1 c.2 hz (fun z k => d3'.2.1 z k) hj hbb h0 h3 h4 (fun M4 c4 w4 rd4 rp4 => rb_Re_readInto_60 (by omega) ?_)
              · by_cases q : i = (N1 0).toNat
                · rw [q]; exact h0
                · rw [hz _ (by omega) (by omega)]
              · exact go (rn_r7 T n N1 (rn_te T n (rn_tks T n e))) (rn_rM T n N1 (rn_te T n (rn_tks T n e))) M4 (by unfold rn_iS; rw [rn_pq_t wr', rn_pq_f (by omega)]) (fun _ _ => by unfold rn_iN; rw [rn_pq_t wr']) (rn_gs_r7 er.2.1) (rn_ch_tr d3 c4) w4 rd4 rp4
            · refine rb_Re_readInto_57 hM2 (re_Re_readRiver (rb_Re_readRiver_0n hM2 (rb_Re_readInto_60 (by omega) ?_)))
              exact out (rn_tks T n e) _ hT (by unfold rn_iS; rw [rn_pq_t wr', rn_pq_t (by omega)]) (rn_ch_tr d2 (rn_ch_mono c9 rn_c9)) (rn_Bw_Pb (M := M2) rn_c9 (fun i hi => by rw [rn_si_gif (by omega)]) w2) rn_si_eq (by rw [rn_si_ne (by omega)]; exact a1) (by omega)
      · intro _ z; exact absurd rfl z
  have c0 : rn_ch rn_P9 M (rn_si (rn_si M 9 2 0) 9 4 0) := rn_ch_tr rn_c9 rn_c9
  refine loop 151 N 0 0 _ (by omega) (by omega) (by omega) (rn_ch_mono c9 c0) (rn_Bw_Pb c0 (fun i hi => by rw [rn_si_gif (by omega), rn_si_gif (by omega)]) w) (rn_Rp_ch (fun a h1 h2 z => by unfold rn_P9 at z; omega) c0 p v hb) v ⟨rn_si_eq, by rw [rn_si_ne (by omega), rn_si_eq], by omega, by omega⟩ hR
end LOD
