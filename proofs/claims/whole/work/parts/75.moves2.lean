/-! moves of the reference's parser -/
def rn_onm (N : Nat → Int) (r : Int) (j : Nat) : Prop := (0 ≤ rn_px N r j ∧ rn_px N r j < 60) ∧ 0 ≤ rn_py N r j ∧ rn_py N r j < 40
section MV2
variable {M : rn_M} {Q : rn_Q} {T : Int → Int} {n : Int} {N : Nat → Int} {r : Int}
theorem rn_px_b (h0 : rn_onm N r 0) : ∀ k : Nat, (-(k : Int) ≤ rn_px N r k ∧ rn_px N r k ≤ 60 + k) ∧ -(k : Int) ≤ rn_py N r k ∧ rn_py N r k ≤ 60 + k
  | 0 => by unfold rn_onm at h0; omega
  | k + 1 => by
    have ih := rn_px_b h0 k
    have s := rn_sx_r (rn_o N r (18 + k))
    unfold rn_px rn_py
    omega
/-- walks, also off the map -/
theorem rm_walks2 (hM : rn_sh M) (hN : rn_gi M 467 = N) (v5 : 0 ≤ rn_o N r 5 ∧ rn_o N r 5 ≤ 60) (h0 : rn_onm N r 0) (hr : 0 ≤ r ∧ r ≤ 5) (k : ∀ M', rn_ch rn_PW M M' → rn_Wk M' N r → Q none M') : rn_ME 133 [rn_R 466, rn_I r] M Q := by
  refine re_Mo_walks (rb_Mo_walks_0 hM (by omega) ?_)
  rw [hN]
  have loop : ∀ (m j : Nat) (M1 : rn_M), m + j = (rn_o N r 5).toNat → rn_ch rn_PW M M1 → (∀ x : Int, 0 ≤ x → x ≤ j → rn_gi M1 470 x.toNat = rn_px N r x.toNat ∧ rn_gi M1 471 x.toNat = rn_py N r x.toNat) → rn_WP 133 26 [rn_R 466, rn_I r, rn_I (j : Int)] [] M1 Q := by
    intro m
    induction m with
    | zero =>
      intro j M1 hj c1 w1
      have hN1 := rn_N_ch c1 rn_PW_467 hN
      refine rb_Mo_walks_26 (rn_sh_ch c1 hM) ?_ ?_ ?_ ?_ <;> (try rw [hN1])
      · omega
      · intro c; omega
      · intro c; omega
      · intro _; exact k M1 c1 (fun x x0 x1 => w1 x x0 (by omega))
    | succ m ih =>
      intro j M1 hj c1 w1
      have hN1 := rn_N_ch c1 rn_PW_467 hN
      have wj := w1 j (by omega) (by omega)
      have vj := rn_px_b h0 j
      have sr := rn_sx_r (rn_o N r (18 + j))
      refine rb_Mo_walks_26 (rn_sh_ch c1 hM) ?_ ?_ ?_ ?_ <;> (try rw [hN1])
      · omega
      · intro _
        rw [wj.1, wj.2, Int.toNat_natCast]
        omega
      · intro _
        rw [wj.1, wj.2]
        have := ih (j + 1) (rn_si (rn_si M1 470 ((j : Int) + 1).toNat (rn_px N r (j : Int).toNat + rn_sx (rn_o N r (18 + j)))) 471 ((j : Int) + 1).toNat (rn_py N r (j : Int).toNat + rn_sy (rn_o N r (18 + j)))) (by omega) (rn_ch_tr c1 (rn_ch_tr (rn_ch_si (Or.inl rfl)) (rn_ch_si (Or.inr rfl)))) (fun x x0 x1 => ?_)
        · rw [show ((j + 1 : Nat) : Int) = (j : Int) + 1 by omega] at this
          exact this
        · rw [rn_si_gif (a := 471) (b := 470) (by omega)]
          by_cases e : x = (j : Int) + 1
          · subst e
            rw [rn_si_eq, rn_si_eq, show ((j : Int) + 1).toNat = j + 1 by omega, Int.toNat_natCast]
            exact ⟨rfl, rfl⟩
          · rw [rn_si_ne (by omega), rn_si_ne (by omega), rn_si_gif (by omega)]
            exact w1 x x0 (by omega)
      · intro c; omega
  refine loop (rn_o N r 5).toNat 0 _ (by omega) (rn_ch_tr (rn_ch_si (Or.inl rfl)) (rn_ch_si (Or.inr rfl))) (fun x x0 x1 => ?_)
  rw [show x.toNat = 0 by omega, rn_si_gif (a := 471) (b := 470) (by omega), rn_si_eq, rn_si_eq]
  exact ⟨rfl, rfl⟩
theorem rn_mvs_5 {b : Int} (r0 : 0 ≤ r) (l0 : rn_o N r 5 = 0) : ∀ k : Nat, rn_o (rn_mvs T b r k N) r 5 = k
  | 0 => l0
  | k + 1 => by
    have ih := rn_mvs_5 (b := b) r0 l0 k
    unfold rn_mvs
    rw [rn_fl_5 (by omega), ih]; omega
theorem rn_mvs_p {b : Int} (r0 : 0 ≤ r) (l0 : rn_o N r 5 = 0) {k : Nat} (hk : k < 60) : (∀ j : Nat, j ≤ k → (rn_onm (rn_mvs T b r (k + 1) N) r j ↔ rn_onm (rn_mvs T b r k N) r j)) ∧ (rn_onm (rn_mvs T b r (k + 1) N) r (k + 1) ↔ rn_om (rn_mvs T b r k N) r (T (b + k) - 48)) := by
  have o5 := rn_mvs_5 (T := T) (b := b) r0 l0 k
  have e : rn_mvs T b r (k + 1) N = rn_fl (rn_mvs T b r k N) r (T (b + k) - 48) := rfl
  refine ⟨fun j hj => ?_, ?_⟩
  · have := rn_fl_px (N := rn_mvs T b r k N) (r := r) (d := T (b + k) - 48) r0 (by omega) (by omega) j (by omega)
    unfold rn_onm
    rw [e, this.1, this.2]
  · have := rn_fl_px1 (N := rn_mvs T b r k N) (r := r) (d := T (b + k) - 48) r0 (by omega) (by omega)
    rw [o5, show ((k : Int) + 1).toNat = k + 1 by omega] at this
    unfold rn_onm rn_om
    rw [e, this.1, this.2, o5]
theorem rn_mok_iff {b : Int} (r0 : 0 ≤ r) (l0 : rn_o N r 5 = 0) (h0 : rn_onm N r 0) : ∀ m : Nat, (∀ k : Nat, k < m → 48 ≤ T (b + k)) → (rn_mok T b r N m ↔ m ≤ 60 ∧ (∀ k : Nat, k < m → T (b + k) ≤ 55) ∧ ∀ j : Nat, j ≤ m → rn_onm (rn_mvs T b r m N) r j)
  | 0, _ => ⟨fun _ => ⟨by omega, fun k hk => by omega, fun j hj => by rw [show j = 0 by omega]; exact h0⟩, fun _ => trivial⟩
  | m + 1, hd => by
    have ih := rn_mok_iff r0 l0 h0 m (fun k hk => hd k (by omega))
    have o5 := rn_mvs_5 (T := T) (b := b) r0 l0 m
    have hdm := hd m (by omega)
    constructor
    · rintro ⟨h1, h2, h3, h4⟩
      have h1 := ih.mp h1
      have mp := rn_mvs_p (T := T) (b := b) r0 l0 (k := m) (by omega)
      refine ⟨by omega, fun k hk => ?_, fun j hj => ?_⟩
      · by_cases e : k = m
        · rw [e]; omega
        · exact h1.2.1 k (by omega)
      · by_cases e : j = m + 1
        · rw [e]; exact mp.2.mpr h4
        · exact (mp.1 j (by omega)).mpr (h1.2.2 j (by omega))
    · rintro ⟨h1, h2, h3⟩
      have mp := rn_mvs_p (T := T) (b := b) r0 l0 (k := m) (by omega)
      refine ⟨ih.mpr ⟨by omega, fun k hk => h2 k (by omega), fun j hj => (mp.1 j hj).mp (h3 j (by omega))⟩, ?_, by omega, mp.2.mp (h3 (m + 1) (by omega))⟩
      have := h2 m (by omega)
      omega
theorem rm_takesMoves {e : Int} (hM : rn_sh M) (tt : rn_TT T n) (t : rn_TM M T n) (h : rn_tat M T n e) (he : 0 ≤ e ∧ e ≤ n) (hN : rn_gi M 467 = N) (hc : N 0 = r + 1) (hr : 0 ≤ r ∧ r ≤ 5) (l0 : rn_o N r 5 = 0) (h0 : rn_onm N r 0)
    (k1 : rn_ko (T (rn_tks T n e)) = 2 ∧ rn_mok T (rn_tks T n e) r N (rn_te T n (rn_tks T n e) - rn_tks T n e).toNat → ∀ M', rn_fp M M' → rn_tat M' T n (rn_te T n (rn_tks T n e)) → rn_gi M' 467 = rn_mvs T (rn_tks T n e) r (rn_te T n (rn_tks T n e) - rn_tks T n e).toNat N → Q (some (rn_I 1)) M')
    (k2 : ¬ (rn_ko (T (rn_tks T n e)) = 2 ∧ rn_mok T (rn_tks T n e) r N (rn_te T n (rn_tks T n e) - rn_tks T n e).toNat) → ∀ M', rn_fp M M' → rn_gi M' 466 9 = rn_tks T n e → Q (some (rn_I 0)) M') : rn_ME 198 [rn_R 466] M Q := by
  have n0 := tt.1
  have br := rn_tks_r (T := T) he.2
  have er := rn_te_r (T := T) br.2
  have hat := h
  obtain ⟨h9, h10⟩ := h
  have s := rn_srt3 (i := rn_tks T n e) t tt (by omega)
  generalize hb : rn_tks T n e = b at *
  generalize hd : rn_te T n b = d at *
  have p0 : ¬ rn_PW 466 := rn_PW_66
  refine re_Mo_takesMoves (rb_Mo_takesMoves_0 hM ?_ ?_ ?_ ?_ ?_ ?_) <;> rw [h9] <;> (try rw [h10]) <;> (try simp only [s.2.2.1]) <;> (try rw [t.1]) <;> (try rw [hN])
  · omega
  · intro _; omega
  · intro _ _; omega
  · intro c; exact k2 (fun z => c z.1) M rn_fp_rf h9
  · intro ck c60
    rw [show N 0 - 1 = r by omega]
    have dg : ∀ j : Nat, (j : Int) < d - b → 48 ≤ T (b + j) ∧ T (b + j) ≤ 57 := fun j hj => by
      have := rn_te_k (T := T) (n := n) (b := b) ck (Or.inr rfl) (j := b + j) (by omega) (by rw [hd]; omega)
      exact rn_ko_2.mp this
    have iff := rn_mok_iff (T := T) (b := b) hr.1 l0 h0 (d - b).toNat (fun k hk => (dg k (by omega)).1)
    have loop : ∀ (m i : Nat) (M1 : rn_M), (i : Int) + m = d - b → rn_ch rn_P67 M M1 → rn_gi M1 467 = rn_mvs T b r i N → (∀ k : Nat, k < i → T (b + k) ≤ 55) → rn_WP 198 45 [rn_R 466, rn_I r, rn_I (b + i)] [] M1 Q := by
      intro m
      induction m with
      | zero =>
        intro i M1 hij c1 g1 d1
        have hM1 := rn_sh_ch c1 hM
        have f6 : rn_gi M1 466 = rn_gi M 466 := c1.2.2 466 (fun z => by unfold rn_P67 at z; omega)
        have ei : (d - b).toNat = i := by omega
        have o5 := rn_mvs_5 (T := T) (b := b) hr.1 l0 i
        rw [ei] at iff k1 k2
        refine rb_Mo_takesMoves_45 hM1 ?_ ?_ ?_ ?_ ?_ <;> rw [f6, h10]
        · intro z; omega
        · intro z; omega
        · intro z; omega
        · intro z; omega
        · intro _
          have on0 : rn_onm (rn_mvs T b r i N) r 0 := by
            have := rn_px_eq (N := N) (N' := rn_mvs T b r 0 N) (r := r) (fun _ _ _ => rfl)
            have all : ∀ k : Nat, k ≤ 60 → rn_onm (rn_mvs T b r k N) r 0 := by
              intro k
              induction k with
              | zero => intro _; exact h0
              | succ k ihk => intro hk; exact ((rn_mvs_p (T := T) (b := b) hr.1 l0 (k := k) (by omega)).1 0 (by omega)).mpr (ihk (by omega))
            exact all i (by omega)
          refine rm_walks2 hM1 g1 (by omega) on0 hr (fun M2 c2 w2 => rb_Mo_takesMoves_91 ?_)
          have hM2 := rn_sh_ch c2 hM1
          have g2 : rn_gi M2 467 = rn_mvs T b r i N := rn_N_ch c2 rn_PW_467 g1
          have fp2 : rn_fp M M2 := rn_fp_tr (rn_fp_ch (fun a z => Or.inl z) c1) (rn_fp_ch (fun a z => by unfold rn_PW at z; omega) c2)
          have t2 := rn_TM_fp t fp2
          have f66 : rn_gi M2 466 = rn_gi M 466 := (c2.2.2 466 p0).trans f6
          have at2 : rn_tat M2 T n e := by unfold rn_tat; rw [f66, hb, hd]; exact ⟨h9, h10⟩
          have loop2 : ∀ (m2 j : Nat), m2 + j = i + 1 → (∀ q : Nat, q < j → rn_onm (rn_mvs T b r i N) r q) → rn_WP 198 93 [rn_R 466, rn_I r, rn_I (j : Int)] [] M2 Q := by
            intro m2
            induction m2 with
            | zero =>
              intro j hj on
              refine rb_Mo_takesMoves_93 hM2 ?_ ?_ ?_ ?_ ?_ ?_ <;> (try rw [g2]) <;> (try rw [o5])
              · omega
              · intro z; omega
              · intro z; omega
              · intro _
                refine rm_next hM2 tt t2 at2 he (fun M3 f3 _ at3 => rb_Mo_takesMoves_133 ?_)
                rw [hb, hd] at at3
                refine k1 ⟨ck, iff.mpr ⟨by omega, d1, fun q hq => on q (by omega)⟩⟩ M3 (rn_fp_tr fp2 (rn_fp_ft f3)) at3 ?_
                rw [f3.1.2.2 467 (by omega)]; exact g2
              · intro z; omega
              · intro z; omega
            | succ m2 ih2 =>
              intro j hj on
              have w := w2 j (by omega) (by omega)
              rw [Int.toNat_natCast] at w
              refine rb_Mo_takesMoves_93 hM2 ?_ ?_ ?_ ?_ ?_ ?_ <;> (try rw [g2]) <;> (try rw [o5]) <;> (try rw [Int.toNat_natCast, w.1, w.2])
              · omega
              · intro _; omega
              · intro _ _; omega
              · intro z; omega
              · intro _ z
                refine k2 (fun y => z ((iff.mp y.2).2.2 j (by omega))) M2 fp2 ?_
                rw [f66]; exact h9
              · intro _ z
                have := ih2 (j + 1) (by omega) (fun q hq => by
                  by_cases e : q = j
                  · rw [e]; exact z
                  · exact on q (by omega))
                rw [show ((j + 1 : Nat) : Int) = (j : Int) + 1 by omega] at this
                exact this
          exact loop2 (i + 1) 0 (by omega) (fun q hq => by omega)
      | succ m ih =>
        intro i M1 hij c1 g1 d1
        have hM1 := rn_sh_ch c1 hM
        have f6 : rn_gi M1 466 = rn_gi M 466 := c1.2.2 466 (fun z => by unfold rn_P67 at z; omega)
        have f69 : rn_gi M1 469 = rn_gi M 469 := c1.2.2 469 (fun z => by unfold rn_P67 at z; omega)
        have o5 := rn_mvs_5 (T := T) (b := b) hr.1 l0 i
        have dgi := dg i (by omega)
        have tm := t.2 (b + i) (by omega) (by omega)
        refine rb_Mo_takesMoves_45 hM1 ?_ ?_ ?_ ?_ ?_ <;> (try rw [f6, h10]) <;> (try rw [f69, tm])
        · intro _; omega
        · intro _ _; omega
        · intro _ c55
          refine rm_lengthens hM1 g1 hr.1 hr.2 (by omega) (by omega) (fun M2 c2 g2 => rb_Mo_takesMoves_80 (by omega) ?_)
          have := ih (i + 1) M2 (by omega) (rn_ch_tr c1 c2) g2 (fun k hk => by
            by_cases e : k = i
            · rw [e]; exact c55
            · exact d1 k (by omega))
          rw [show b + ((i + 1 : Nat) : Int) = b + (i : Int) + 1 by omega] at this
          exact this
        · intro _ c55
          refine k2 (fun y => c55 ((iff.mp y.2).2.1 i (by omega))) M1 (rn_fp_ch (fun a z => Or.inl z) c1) ?_
          rw [f6]; exact h9
        · intro z; omega
    have := loop (d - b).toNat 0 M (by omega) rn_ch_rf hN (fun k hk => by omega)
    rw [show b + ((0 : Nat) : Int) = b by omega] at this
    exact this
  · intro ck c60
    refine k2 (fun y => c60 ?_) M rn_fp_rf h9
    have dg : ∀ j : Nat, (j : Int) < d - b → 48 ≤ T (b + j) ∧ T (b + j) ≤ 57 := fun j hj => by
      have := rn_te_k (T := T) (n := n) (b := b) ck (Or.inr rfl) (j := b + j) (by omega) (by rw [hd]; omega)
      exact rn_ko_2.mp this
    have := ((rn_mok_iff (T := T) (b := b) hr.1 l0 h0 (d - b).toNat (fun k hk => (dg k (by omega)).1)).mp y.2).1
    omega
end MV2
