/-! words and moves, the class -/
def rn_wrd (M : rn_M) (a c L : Nat) (w : Nat → Int) : Prop := rn_kd M a = 22 ∧ rn_gr M a 0 = some c ∧ rn_gi M a 1 = 0 ∧ rn_ba M c L ∧ rn_shr L 0 = L ∧ L ≤ 10 ∧ ∀ i : Nat, i < L → rn_gi M c i = w i ∧ (0 ≤ w i ∧ w i ≤ 65535) ∧ rn_and (w i) 255 = w i
/-- a word of the text -/
def rn_isW (T : Int → Int) (n b : Int) (L : Nat) (w : Nat → Int) : Prop := rn_te T n b - b = L ∧ ∀ i : Nat, i < L → T (b + i) = w i
def rn_mvs (T : Int → Int) (b r : Int) : Nat → (Nat → Int) → (Nat → Int)
  | 0, N => N
  | k + 1, N => rn_fl (rn_mvs T b r k N) r (T (b + k) - 48)
def rn_mok (T : Int → Int) (b r : Int) (N : Nat → Int) : Nat → Prop
  | 0 => True
  | k + 1 => rn_mok T b r N k ∧ (0 ≤ T (b + k) - 48 ∧ T (b + k) - 48 ≤ 7) ∧ rn_o (rn_mvs T b r k N) r 5 < 60 ∧ rn_om (rn_mvs T b r k N) r (T (b + k) - 48)
noncomputable def rn_vS (T : Int → Int) (n r : Int) (N : Nat → Int) (S : Int ⊕ Int) : Int ⊕ Int := match S with
  | .inl p => .inl p
  | .inr e => rn_pq (rn_ko (T (rn_tks T n e)) = 2 ∧ rn_mok T (rn_tks T n e) r N (rn_te T n (rn_tks T n e) - rn_tks T n e).toNat) (.inr (rn_te T n (rn_tks T n e))) (.inl (rn_tks T n e))
def rn_Pb (b z : Nat) : Prop := z = 9 ∨ b ≤ z ∧ z < b + 64
section MVS
variable {M : rn_M} {Q : rn_Q} {T : Int → Int} {n : Int} {N : Nat → Int} {r : Int}
theorem rs_strlen {a c L : Nat} {w : Nat → Int} (wd : rn_wrd M a c L w) (k : Q (some (rn_I (L : Int))) M) : rn_ME 207 [rn_R a] M Q := by
  obtain ⟨w1, w2, w3, w4, w5, w6, w7⟩ := wd
  have go := rn_goe w2
  refine re_St_length (rb_St_length_0 (n1 := L) w1 (by rw [go]; exact w4) (by rw [go]; exact w2) ?_)
  refine re_St_coder (rb_St_coder_0 w1 w3 (rb_St_length_9 ?_))
  rw [w3, w5]; exact k
theorem rs_charAt {a c L : Nat} {w : Nat → Int} {i : Nat} (wd : rn_wrd M a c L w) (hi : i < L) (k : Q (some (rn_I (w i))) M) : rn_ME 208 [rn_R a, rn_I (i : Int)] M Q := by
  obtain ⟨w1, w2, w3, w4, w5, w6, w7⟩ := wd
  have wi := w7 i hi
  refine re_St_charAt (rb_St_charAt_0 w1 (re_St_isLatin1 (rb_St_isLatin1_0 w1 (fun _ => ?_) (fun z => absurd w3 z))))
  refine (rn_step (e := (.ifCond .eq 12, 7, 16, 0, 0, 0, 0, [])) rfl).mpr (And.intro (fun q => absurd q (by decide)) (fun _ => ?_))
  refine (rn_step (e := (.aload_n 0, 8, 0, 0, 0, 0, 0, [])) rfl).mpr ?_
  refine (rn_step (e := (.getfield 9, 11, 99, 0, 1258, 2, 22, [])) rfl).mpr (And.intro w1 (rn_cg w2 ?_))
  refine (rn_step (e := (.iload_n 1, 12, 1, 0, 0, 0, 0, [])) rfl).mpr ?_
  refine (rn_step (e := (.invokestatic 495, 15, 212, 2, 461, 0, 0, [0])) rfl).mpr ?_
  refine re_Sl_charAt (rb_Sl_charAt_0 (n1 := L) w4 (re_St_checkIndex (rb_St_checkIndex_0 ?_)))
  refine re_Pr_checkIndex ?_
  refine (rn_step (e := (.iload_n 0, 1, 0, 0, 0, 0, 0, [])) rfl).mpr ?_
  refine (rn_step (e := (.ifCond .lt 8, 4, 9, 0, 0, 0, 0, [])) rfl).mpr (And.intro (fun q => by omega) (fun _ => ?_))
  refine (rn_step (e := (.iload_n 0, 5, 0, 0, 0, 0, 0, [])) rfl).mpr ?_
  refine (rn_step (e := (.iload_n 1, 6, 1, 0, 0, 0, 0, [])) rfl).mpr ?_
  refine (rn_step (e := (.if_icmp .lt 10, 9, 16, 0, 0, 0, 0, [])) rfl).mpr (And.intro (fun _ => ?_) (fun q => absurd (Int.ofNat_lt.mpr hi) q))
  refine (rn_step (e := (.iload_n 0, 17, 0, 0, 0, 0, 0, [])) rfl).mpr ?_
  refine (rn_step (e := (.ireturn, 18, 0, 0, 0, 0, 0, [])) rfl).mpr (And.intro trivial ?_)
  refine rb_St_checkIndex_8 ?_
  refine rb_Sl_charAt_6 (n1 := L) w4 ?_ ?_ ?_ <;> rw [Int.toNat_natCast, wi.1, wi.2.2]
  · exact wi.2.1
  · omega
  · exact rb_St_charAt_15 wi.2.1 k
theorem rs_tokenIs {a c L : Nat} {w : Nat → Int} {b d : Int} (hM : rn_sh M) (tt : rn_TT T n) (t : rn_TC M T n) (wd : rn_wrd M a c L w) (h1 : rn_gi M 9 1 = b) (h2 : rn_gi M 9 2 = d) (hb : 0 ≤ b ∧ b ≤ d ∧ d ≤ n) (k : Q (some (rn_I (rn_b (d - b = L ∧ ∀ i : Nat, i < L → T (b + i) = w i)))) M) : rn_ME 56 [rn_R 9, rn_R a] M Q := by
  have n0 := tt.1
  have wd1 := wd.1
  have wl := wd.2.2.2.2.2.1
  refine re_Re_tokenIs (rb_Re_tokenIs_0 hM wd1 ?_ ?_) <;> rw [h1, h2]
  · omega
  refine rs_strlen wd (rb_Re_tokenIs_13 (fun c => ?_) (fun c => rn_kf (fun z => c z.1) k))
  have loop : ∀ (m i : Nat), i + m = L → (∀ j : Nat, j < i → T (b + j) = w j) → rn_WP 56 20 [rn_R 9, rn_R a, rn_I (i : Int)] [] M Q := by
    intro m
    induction m with
    | zero =>
      intro i hi hj
      refine rb_Re_tokenIs_20 wd1 (rs_strlen wd (rb_Re_tokenIs_25 hM wd1 ?_ ?_ ?_))
      · intro z; omega
      · intro z; omega
      · intro _; exact rn_kt ⟨c, fun j hj2 => hj j (by omega)⟩ k
    | succ m ih =>
      intro i hi hj
      refine rb_Re_tokenIs_20 wd1 (rs_strlen wd (rb_Re_tokenIs_25 hM wd1 ?_ ?_ ?_))
      · intro _; rw [h1, t.1]; omega
      · intro _
        refine rs_charAt wd (by omega) ?_
        rw [h1, t.2]
        refine rb_Re_tokenIs_46 ?_ ?_ ?_
        · intro _; omega
        · intro c2
          have := ih (i + 1) (by omega) (fun j hj2 => by
            by_cases e : j = i
            · rw [e]; exact c2
            · exact hj j (by omega))
          rw [show ((i + 1 : Nat) : Int) = (i : Int) + 1 by omega] at this
          exact this
        · intro c2; exact rn_kf (fun z => c2 (z.2 i (by omega))) k
      · intro z; omega
  exact loop L 0 (by omega) (fun j hj => by omega)
theorem rn_mok_mono {b : Int} {m : Nat} : ∀ j : Nat, rn_mok T b r N (m + j) → rn_mok T b r N m
  | 0, h => h
  | j + 1, h => rn_mok_mono j h.1
theorem rn_mvs_ok {b : Int} (v : rn_vd N) (r0 : 0 ≤ r) (r1 : r < N 0) : ∀ k : Nat, rn_mok T b r N k → rn_vd (rn_mvs T b r k N) ∧ rn_mvs T b r k N 0 = N 0
  | 0, _ => ⟨v, rfl⟩
  | k + 1, h => by
    obtain ⟨h1, h2, h3, h4⟩ := h
    have ih := rn_mvs_ok v r0 r1 k h1
    have r2 : r < rn_mvs T b r k N 0 := by rw [ih.2]; exact r1
    have l0 := (ih.1.2.2.2.2.1 r r0 r2).2.2.2.1.1
    unfold rn_mvs
    exact ⟨rn_fl_vd ih.1 r0 r2 h3 h2 h4, (rn_fl_lo r0 l0 (by omega)).trans ih.2⟩
theorem rs_lengthen8 {a : Nat} {d : Int} (hM : rn_sh M) (p : rn_isR a) (hd : 7 < d) (k : Q (some (rn_I 0)) M) : rn_ME 63 [rn_R a, rn_I d] M Q := by
  refine re_Ri_lengthen (rb_Ri_lengthen_0 hM p (fun _ => k) (fun _ => ?_))
  refine re_Ri_leavesMap (rb_Ri_leavesMap_0 hM p ?_ ?_ ?_ ?_)
  · intro z; omega
  · intro _; exact rb_Ri_lengthen_18 hM p (fun z => by omega) (fun z => by omega) (fun _ => k)
  · intro z; omega
  · intro z; omega
theorem rn_St_ch {P : Nat → Prop} {M' : rn_M} (hP : ¬ P 1 ∧ ¬ P 2) (c : rn_ch P M M') (h : rn_St M) : rn_St M' := fun k k0 k1 => by
  rw [c.2.2 1 hP.1, c.2.2 2 hP.2]; exact h k k0 k1
theorem rs_readMoves {S : Int ⊕ Int} {bb : Nat} (hM : rn_sh M) (st : rn_St M) (p : rn_isB bb) (tt : rn_TT T n) (t : rn_TC M T n) (h : rn_rd M n S) (w : rn_Bw M bb) (r0 : 0 ≤ r ∧ r ≤ 5) (v : ∀ e, S = .inr e → rn_vd N ∧ r < N 0 ∧ rn_Rp M bb N) (k : ∀ M', rn_ch (rn_Pb bb) M M' → rn_Bw M' bb → rn_rd M' n (rn_vS T n r N S) → (∀ e e', S = .inr e → rn_vS T n r N S = .inr e' → rn_Rp M' bb (rn_mvs T (rn_tks T n e) r (rn_te T n (rn_tks T n e) - rn_tks T n e).toNat N)) → Q none M') : rn_ME 50 [rn_R 9, rn_R (bb + 4 + 5 * r.toNat)] M Q := by
  have n0 := tt.1
  have bd := rn_bdB p
  have pa : rn_isR (bb + 4 + 5 * r.toNat) := rn_isR_of p (by omega)
  have c9 : ∀ z, rn_P9 z → rn_Pb bb z := fun z hz => Or.inl hz
  have w9 : ∀ M1, rn_ch rn_P9 M M1 → rn_Bw M1 bb := fun M1 c => rn_Bw_eq (fun i hi => by rw [c.2.2 _ (fun z => by unfold rn_P9 at z; omega)]) (fun k => c.2.1 _ k) w
  have refd : ∀ (M1 : rn_M) (w : rn_V), rn_sh M1 → rn_gi M1 9 4 = 1 → Q none M1 → rn_WP 50 21 [rn_R 9, rn_R (bb + 4 + 5 * r.toNat), w] [] M1 Q := by
    intro M1 w hM1 g4 kk
    refine rb_Re_readMoves_21 hM1 (rb_Re_readMoves_26 hM1 pa ?_ ?_ ?_ ?_) <;> (try rw [g4])
    · intro _ z; omega
    · intro _ z; omega
    · intro _ _; exact kk
    · intro _; exact kk
  cases S with
  | inl q =>
    obtain ⟨g4, g1, g2, g3⟩ := h
    have e : ∀ j, rn_gi (rn_si M 9 4 1) 9 j = rn_gi M 9 j := fun j => by
      by_cases e : j = 4
      · rw [e, rn_si_eq, g4]
      · rw [rn_si_ne (by omega)]
    have fin : ∀ (x : Int) (w : rn_V), rn_ME 53 [rn_R 9, rn_I x] M (fun r1 M2 => rn_WP 50 21 [rn_R 9, rn_R (bb + 4 + 5 * r.toNat), w] (r1.toList ++ []) M2 Q) := by
      intro x w
      refine rs_ref1 hM g4 (refd _ w (rn_sh_si hM) rn_si_eq (k _ (rn_ch_mono c9 rn_c9) (w9 _ rn_c9) ⟨(e 4).trans g4, (e 1).trans g1, g2, ?_⟩ (fun e e' z => by cases z)))
      rw [e]; exact g3
    refine re_Re_readMoves (rb_Re_readMoves_0 hM (rs_nextToken_r hM g4 (rb_Re_readMoves_4 hM ?_ ?_)))
    · intro _; exact fin _ _
    · intro _; exact fin _ _
  | inr e =>
    obtain ⟨g4, g2, g3⟩ := h
    obtain ⟨v, r1, rp⟩ := v e rfl
    refine re_Re_readMoves (rb_Re_readMoves_0 hM (rs_nextToken hM tt t g4 g2 g3 (fun M1 c1 a1 a2 a3 a4 => ?_)))
    have hM1 := rn_sh_ch c1 hM
    have br := rn_tks_r (T := T) g3.2
    have er := rn_te_r (T := T) br.2
    unfold rn_vS at k
    dsimp only at k
    generalize hb : rn_tks T n e = b at *
    generalize hd : rn_te T n b = d at *
    refine rb_Re_readMoves_4 hM1 ?_ ?_ <;> rw [a3]
    · intro ck
      refine rs_ref0 hM1 a4 (fun _ => ?_) (fun z => by omega)
      have M2c : rn_ch rn_P9 M (rn_si M1 9 4 0) := rn_ch_tr c1 rn_c9
      have e1 : rn_gi (rn_si M1 9 4 0) 9 1 = b := by rw [rn_si_ne (by omega)]; exact a1
      have e2 : rn_gi (rn_si M1 9 4 0) 9 2 = d := by rw [rn_si_ne (by omega)]; exact a2
      have e4 : rn_gi (rn_si M1 9 4 0) 9 4 = 0 := rn_si_eq
      generalize rn_si M1 9 4 0 = M2 at *
      have hM2 := rn_sh_ch M2c hM
      have rp2 : rn_Rp M2 bb N := rn_Rp_ch (fun a h1 h2 z => by unfold rn_P9 at z; omega) M2c p v rp
      refine rb_Re_readMoves_21 hM2 ?_
      rw [e1]
      have dg : ∀ j : Nat, (j : Int) < d - b → 48 ≤ T (b + j) ∧ T (b + j) ≤ 57 := fun j hj => by
        have := rn_te_k (T := T) (n := n) (b := b) ck (Or.inr rfl) (j := b + j) (by omega) (by rw [hd]; omega)
        exact rn_ko_2.mp this
      have loop : ∀ (m i : Nat) (M3 : rn_M), (i : Int) + m = d - b → rn_ch (rn_Pb bb) M M3 → (∀ j, rn_gi M3 9 j = rn_gi M2 9 j) → rn_Bw M3 bb → rn_mok T b r N i → rn_Rp M3 bb (rn_mvs T b r i N) → rn_WP 50 26 [rn_R 9, rn_R (bb + 4 + 5 * r.toNat), rn_I (b + i)] [] M3 Q := by
        intro m
        induction m with
        | zero =>
          intro i M3 hi c3 f9 w3 mk r3
          have hM3 := rn_sh_ch c3 hM
          have ei : (d - b).toNat = i := by omega
          refine rb_Re_readMoves_26 hM3 pa ?_ ?_ ?_ ?_ <;> rw [f9, e2]
          · intro z; omega
          · intro z; omega
          · intro z; omega
          · intro _
            rw [ei] at k
            refine k M3 c3 w3 ?_ (fun e3 e' z1 z2 => ?_)
            · rw [rn_pq_t ⟨ck, mk⟩]
              exact ⟨by rw [f9]; exact e4, by rw [f9]; exact e2, by omega, by omega⟩
            · have z1 := Sum.inr.inj z1
              subst z1
              rw [hb, hd, ei]; exact r3
        | succ m ih =>
          intro i M3 hi c3 f9 w3 mk r3
          have hM3 := rn_sh_ch c3 hM
          have t3 : rn_TC M3 T n := rn_TC_eq t (c3.2.2 10 (fun z => by unfold rn_Pb at z; omega)) (c3.2.2 11 (fun z => by unfold rn_Pb at z; omega))
          have st3 := rn_St_ch ⟨fun z => by unfold rn_Pb at z; omega, fun z => by unfold rn_Pb at z; omega⟩ c3 st
          have dgi := dg i (by omega)
          have ok := rn_mvs_ok v r0.1 r1 i mk
          have bad : ¬ rn_mok T b r N (i + 1) → rn_WP 50 57 [rn_R 9, rn_R (bb + 4 + 5 * r.toNat), rn_I (b + i)] [rn_I 0, rn_R 9] M3 Q := by
            intro c
            refine rb_Re_readMoves_57 hM3 (rs_ref0 hM3 (by rw [f9]; exact e4) (fun z => absurd rfl z) (fun _ => rb_Re_readMoves_60 (by omega) ?_))
            have g1 : rn_gi (rn_si M3 9 4 1) 9 1 = b := by rw [rn_si_ne (by omega), f9]; exact e1
            have g2 : rn_gi (rn_si M3 9 4 1) 9 2 = d := by rw [rn_si_ne (by omega), f9]; exact e2
            have g4 : rn_gi (rn_si M3 9 4 1) 9 4 = 1 := rn_si_eq
            have c4 : rn_ch (rn_Pb bb) M (rn_si M3 9 4 1) := rn_ch_tr c3 (rn_ch_mono c9 rn_c9)
            have w4 : rn_Bw (rn_si M3 9 4 1) bb := rn_Bw_eq (M := M3) (fun i hi => by rw [rn_si_gif (by omega)]) (fun _ => rfl) w3
            have nm : ¬ (rn_ko (T b) = 2 ∧ rn_mok T b r N (d - b).toNat) := fun z => c (rn_mok_mono m (by rw [show i + 1 + m = (d - b).toNat by omega]; exact z.2))
            have kk : Q none (rn_si M3 9 4 1) := by
              refine k _ c4 w4 ?_ (fun e3 e' _ z2 => ?_)
              · rw [rn_pq_f nm]
                exact ⟨g4, g1, by omega, by rw [g2]; omega⟩
              · rw [rn_pq_f nm] at z2; cases z2
            refine rb_Re_readMoves_26 (rn_sh_si hM3) pa ?_ ?_ ?_ ?_ <;> (try rw [g4])
            · intro _ z; omega
            · intro _ z; omega
            · intro _ _; exact kk
            · intro _; exact kk
          refine rb_Re_readMoves_26 hM3 pa ?_ ?_ ?_ ?_ <;> rw [f9, e2] <;> (try rw [f9, e4]) <;> (try rw [t3.2])
          · intro _ _; rw [t3.1]; omega
          · intro _ _
            by_cases c7 : T (b + i) - 48 ≤ 7
            · refine rs_lengthen hM3 st3 p r3 ok.1 r0.1 (by rw [ok.2]; exact r1) (by omega) (fun l1 om M4 c4 z4 r4 => ?_) (fun c => bad (fun z => c z.2.2))
              have hM4 := rn_sh_ch c4 hM3
              have f4 : rn_gi M4 9 = rn_gi M3 9 := c4.2.2 9 (by unfold rn_PR; omega)
              have w4 : rn_Bw M4 bb := by
                refine rn_Bw_eq (fun j hj => ?_) (fun k => c4.2.1 _ k) w3
                by_cases e : j = r.toNat
                · rw [e, z4]
                · rw [c4.2.2 _ (by unfold rn_PR; omega)]
              refine rb_Re_readMoves_57 hM4 (rs_ref0 hM4 (by rw [f4, f9]; exact e4) (fun _ => rb_Re_readMoves_60 (by omega) ?_) (fun z => by omega))
              have c5 : rn_ch (rn_Pb bb) M (rn_si M4 9 4 0) := rn_ch_tr c3 (rn_ch_tr (rn_ch_mono (fun z hz => Or.inr (by unfold rn_PR at hz; omega)) c4) (rn_ch_mono c9 rn_c9))
              have this := ih (i + 1) (rn_si M4 9 4 0) (by omega) c5 (fun j => by
                by_cases e : j = 4
                · rw [e, rn_si_eq, e4]
                · rw [rn_si_ne (by omega), f4, f9]) (rn_Bw_eq (M := M4) (fun i hi => by rw [rn_si_gif (by omega)]) (fun _ => rfl) w4) ⟨mk, by omega, l1, om⟩ (rn_Rp_ch (P := rn_P9) (fun a h1 h2 z => by unfold rn_P9 at z; omega) rn_c9 p (rn_fl_vd ok.1 r0.1 (by rw [ok.2]; exact r1) l1 (by omega) om) r4)
              rw [show b + ((i + 1 : Nat) : Int) = b + (i : Int) + 1 by omega] at this
              exact this
            · exact rs_lengthen8 hM3 pa (by omega) (bad (fun z => by have := z.2.1; omega))
          · intro _ z; exact absurd rfl z
          · intro z; omega
      have := loop (d - b).toNat 0 M2 (by omega) (rn_ch_mono c9 M2c) (fun _ => rfl) (w9 M2 M2c) trivial rp2
      rw [show b + ((0 : Nat) : Int) = b by omega] at this
      exact this
    · intro ck
      refine rs_ref0 hM1 a4 (fun z => absurd rfl z) (fun _ => refd _ _ (rn_sh_si hM1) rn_si_eq (k _ (rn_ch_mono c9 (rn_ch_tr c1 rn_c9)) (w9 _ (rn_ch_tr c1 rn_c9)) ?_ (fun e2 e' z1 z2 => ?_)))
      · rw [rn_pq_f (fun z => ck z.1)]
        exact ⟨rn_si_eq, by rw [rn_si_ne (by omega)]; exact a1, by omega, by rw [rn_si_ne (by omega), a2]; omega⟩
      · rw [rn_pq_f (fun z => ck z.1)] at z2; cases z2
end MVS
