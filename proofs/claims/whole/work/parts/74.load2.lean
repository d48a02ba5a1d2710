/-! load of the class; numbers, semicolons and moves of the reference -/
def rn_fg (M M' : rn_M) : Prop := M'.1 = M.1 ∧ ∀ x, x ≤ 8 ∨ x = 11 ∨ 466 ≤ x → rn_gi M' x = rn_gi M x ∧ ∀ k, rn_gr M' x k = rn_gr M x k
theorem rn_fg_fc {M M' : rn_M} (h : rn_fc M M') : rn_fg M M' := ⟨h.1, fun x hx => h.2 x (by omega)⟩
theorem rn_fg_tr {M M1 M2 : rn_M} (h : rn_fg M M1) (g : rn_fg M1 M2) : rn_fg M M2 := ⟨g.1.trans h.1, fun x hx => ⟨(g.2 x hx).1.trans (h.2 x hx).1, fun k => ((g.2 x hx).2 k).trans ((h.2 x hx).2 k)⟩⟩
theorem rn_fg_ch {P : Nat → Prop} {M M1 : rn_M} (hP : ∀ x, x ≤ 8 ∨ x = 11 ∨ 466 ≤ x → ¬ P x) (h : rn_ch P M M1) : rn_fg M M1 := ⟨h.1, fun x hx => ⟨h.2.2 x (hP x hx), fun k => h.2.1 x k⟩⟩
theorem rn_wrd_fc {M M' : rn_M} {a c L : Nat} {w : Nat → Int} (h : rn_wrd M a c L w) (k : rn_fg M M') (h1 : a ≤ 8) (h2 : c ≤ 8) : rn_wrd M' a c L w := by
  obtain ⟨w1, w2, w3, w4, w5, w6, w7⟩ := h
  have ka := k.2 a (by omega)
  have kc := k.2 c (by omega)
  refine ⟨?_, (ka.2 0).trans w2, by rw [ka.1]; exact w3, ?_, w5, w6, fun i hi => by rw [kc.1]; exact w7 i hi⟩
  · unfold rn_kd at *; rw [k.1]; exact w1
  · unfold rn_ba rn_kd rn_ln at *; rw [k.1]; exact w4
section LO2
variable {M : rn_M} {Q : rn_Q} {T : Int → Int} {n : Int} {N : Nat → Int} {m : Int} {K : Nat → Nat → Int}
theorem rn_Ct_ch {M' : rn_M} {P : Nat → Prop} {pr dr : Nat} {kp : Nat → Nat} (hP : ∀ a, 12 ≤ a → a < 462 → ¬ P a) (c : rn_ch P M M') (h : rn_Ct M N m K pr dr kp) : rn_Ct M' N m K pr dr kp := by
  obtain ⟨⟨⟨h1, h2, h3⟩, ⟨b1, b2, b3⟩, d⟩, g2, g3, g4, g5, g6⟩ := h
  have hP' : ∀ a, 14 ≤ a → a < 462 → ¬ P a := fun a h1 h2 => hP a (by omega) h2
  refine ⟨⟨⟨(c.2.1 _ _).trans h1, (c.2.1 _ _).trans h2, fun i hi => (c.2.1 _ _).trans (h3 i hi)⟩, ⟨⟨b1.1, rn_Bw_ch hP' c b1.1 b1.2⟩, ⟨b2.1, rn_Bw_ch hP' c b2.1 b2.2⟩, fun i hi => ⟨(b3 i hi).1, rn_Bw_ch hP' c (b3 i hi).1 (b3 i hi).2⟩⟩, d⟩, rn_Rp_ch hP' c b1.1 g3 g2, g3, ?_, g5, fun i hi => ⟨rn_Rp_ch hP' c (b3 i (by omega)).1 (g6 i hi).2 (g6 i hi).1, (g6 i hi).2⟩⟩
  rw [c.2.2 12 (hP 12 (by omega) (by omega))]; exact g4
theorem rq_load (hM : rn_sh M) (st : rn_St M) (tt : rn_TT T n) (t : rn_TC M T n) (wr : rn_wrd M 3 5 5 rn_wR) (wt : rn_wrd M 4 6 4 rn_wT) (h : rn_Cs M N m K)
    (k1 : 0 ≤ (rn_lS T n 151 N 0 0).1 → ∀ M', rn_fg M M' → rn_sh M' → rn_Cs M' (rn_lS T n 151 N 0 0).2 (min (m + 1) 5) (rn_nK m K N) → rn_gi M' 10 0 = 0 → Q (some (rn_I (rn_lS T n 151 N 0 0).1)) M')
    (k2 : (rn_lS T n 151 N 0 0).1 < 0 → ∀ M', rn_fg M M' → rn_sh M' → rn_Cs M' N m K → rn_gi M' 10 = rn_gi M 10 → Q (some (rn_I (rn_lS T n 151 N 0 0).1)) M') : rn_ME 93 [rn_R 8] M Q := by
  refine re_RN_load (rb_RN_load_0 hM (rs_draft hM h (fun M1 pr dr kp f1 s1 h1 p w r => ?_)))
  have bd := rn_bdB p
  have t1 : rn_TC M1 T n := rn_TC_eq t (f1.2 10 (by omega)).1 (f1.2 11 (by omega)).1
  have fg1 := rn_fg_fc f1
  refine rb_RN_load_11 s1 (rs_readInto s1 (rn_St_fc f1 st) p tt t1 (rn_wrd_fc wr fg1 (by omega) (by omega)) (rn_wrd_fc wt fg1 (by omega) (by omega)) w r h1.2.2.1 (fun M2 c2 w2 r2 => ?_))
  have s2 := rn_sh_ch c2 s1
  have h9 : rn_Ct (rn_w9 M1 M2) N m K pr dr kp := rn_Ct_ch (fun a q1 q2 z => by unfold rn_P9 at z; omega) rn_w9_ch h1
  have cj : rn_cj dr (rn_w9 M1 M2) M2 := ⟨c2.1, fun a ha _ => ⟨by
    by_cases e : a = 9
    · rw [e, rn_w9_9]
    · rw [rn_w9_ch.2.2 a (fun z => e z)]; exact c2.2.2 a (fun z => by unfold rn_Pb at z; omega), fun k => c2.2.1 a k⟩⟩
  have fg2 := rn_fg_tr fg1 (rn_fg_ch (fun x hx z => by unfold rn_Pb at z; omega) c2)
  have e10 : rn_gi M2 10 = rn_gi M 10 := (c2.2.2 10 (fun z => by unfold rn_Pb at z; omega)).trans (f1.2 10 (by omega)).1
  refine rb_RN_load_14 s2 (fun c => k2 c M2 fg2 s2 (rn_Cs_of (rn_Ct_cj h9 cj w2)) e10) (fun c => ?_)
  have c : 0 ≤ (rn_lS T n 151 N 0 0).1 := by omega
  have r2 := r2 c
  refine rs_enter2 s2 h9 cj w2 r2.1 r2.2 (fun M3 f3 s3 h3 _ => rb_RN_load_26 s3 (re_Te_wipe (rb_Te_wipe_0 s3 (rb_RN_load_36 ?_))))
  have c4 : rn_ch (fun a => a = 10) M3 (rn_si M3 10 0 0) := rn_ch_si rfl
  exact k1 c _ (rn_fg_tr fg2 (rn_fg_tr (rn_fg_fc f3) (rn_fg_ch (fun x hx z => by omega) c4))) (rn_sh_si s3) (rn_Cs_ch (fun a q1 q2 z => by omega) c4 h3) rn_si_eq
/-- the reference looks at the token behind e -/
def rn_tat (M : rn_M) (T : Int → Int) (n e : Int) : Prop := rn_gi M 466 9 = rn_tks T n e ∧ rn_gi M 466 10 = rn_te T n (rn_tks T n e)
/-- what the reference's parser may change -/
def rn_Pp (a : Nat) : Prop := a = 466 ∨ a = 467 ∨ a = 470 ∨ a = 471 ∨ a = 473
def rn_fp (M M' : rn_M) : Prop := rn_ch rn_Pp M M' ∧ ∀ j, j ≠ 9 → j ≠ 10 → j ≠ 11 → rn_gi M' 466 j = rn_gi M 466 j
theorem rn_fp_rf : rn_fp M M := ⟨rn_ch_rf, fun _ _ _ _ => rfl⟩
theorem rn_fp_tr {M1 M2 : rn_M} (h : rn_fp M M1) (g : rn_fp M1 M2) : rn_fp M M2 := ⟨rn_ch_tr h.1 g.1, fun j a b c => (g.2 j a b c).trans (h.2 j a b c)⟩
theorem rn_fp_ft {M1 : rn_M} (h : rn_ft M M1) : rn_fp M M1 := ⟨rn_ch_mono (fun a z => Or.inl z) h.1, h.2⟩
theorem rn_fp_ch {P : Nat → Prop} {M1 : rn_M} (hP : ∀ a, P a → a = 467 ∨ a = 470 ∨ a = 471 ∨ a = 473) (h : rn_ch P M M1) : rn_fp M M1 :=
  ⟨rn_ch_mono (fun a z => Or.inr (by have := hP a z; omega)) h, fun j _ _ _ => by rw [h.2.2 466 (fun z => by have := hP 466 z; omega)]⟩
theorem rn_TM_fp {M1 : rn_M} (h : rn_TM M T n) (c : rn_fp M M1) : rn_TM M1 T n := ⟨(c.2 4 (by omega) (by omega) (by omega)).trans h.1, fun i i0 i1 => by rw [c.1.2.2 469 (fun z => by unfold rn_Pp at z; omega)]; exact h.2 i i0 i1⟩
theorem rn_tat_ch {P : Nat → Prop} {M1 : rn_M} {e : Int} (hP : ¬ P 466) (h : rn_ch P M M1) (g : rn_tat M T n e) : rn_tat M1 T n e := by
  unfold rn_tat; rw [h.2.2 466 hP]; exact g
theorem rm_next {e : Int} (hM : rn_sh M) (tt : rn_TT T n) (t : rn_TM M T n) (h : rn_tat M T n e) (he : 0 ≤ e ∧ e ≤ n) (k : ∀ M', rn_ft M M' → rn_gi M' 466 11 = rn_gi M 466 11 → rn_tat M' T n (rn_te T n (rn_tks T n e)) → Q none M') : rn_ME 192 [rn_R 466] M Q := by
  have br := rn_tks_r (T := T) he.2
  have er := rn_te_r (T := T) br.2
  exact rm_nextToken hM tt t h.2 (by omega) (fun M' f g1 g2 g3 => k M' f g1 ⟨g2, g3⟩)
theorem rm_takesNumber {e lo hi : Int} (hM : rn_sh M) (tt : rn_TT T n) (t : rn_TM M T n) (h : rn_tat M T n e) (he : 0 ≤ e ∧ e ≤ n) (hl : 0 ≤ lo ∧ hi ≤ 99)
    (k1 : rn_nok T n (rn_tks T n e) lo hi → ∀ M', rn_ft M M' → rn_gi M' 466 11 = rn_val T (rn_tks T n e) (rn_te T n (rn_tks T n e) - rn_tks T n e).toNat → rn_tat M' T n (rn_te T n (rn_tks T n e)) → Q (some (rn_I 1)) M')
    (k2 : ¬ rn_nok T n (rn_tks T n e) lo hi → Q (some (rn_I 0)) M) : rn_ME 196 [rn_R 466, rn_I lo, rn_I hi] M Q := by
  have n0 := tt.1
  have br := rn_tks_r (T := T) he.2
  have er := rn_te_r (T := T) br.2
  obtain ⟨h9, h10⟩ := h
  have s := rn_srt3 (i := rn_tks T n e) t tt (by omega)
  generalize hb : rn_tks T n e = b at *
  generalize hd : rn_te T n b = d at *
  have bn : rn_ko (T b) = 2 → b < n ∧ rn_gi M 469 b.toNat = T b := fun c => by
    by_cases q : b < n
    · exact ⟨q, t.2 b (by omega) q⟩
    · have := rn_ko_2.mp c
      rw [tt.2.2 b (by omega)] at this; omega
  have loop : rn_ko (T b) = 2 → ¬ (1 < d - b ∧ T b = 48) → d - b ≤ 3 → ∀ (m i : Nat), (i : Int) + m = d - b → rn_WP 196 65 [rn_R 466, rn_I lo, rn_I hi, rn_I (rn_val T b i), rn_I (b + i)] [] M Q := by
    intro ck cz c3 m
    have dg : ∀ j : Nat, (j : Int) < d - b → 48 ≤ T (b + j) ∧ T (b + j) ≤ 57 := fun j hj => by
      have := rn_te_k (T := T) (n := n) (b := b) ck (Or.inr rfl) (j := b + j) (by omega) (by rw [hd]; omega)
      exact rn_ko_2.mp this
    induction m with
    | zero =>
      intro i hij
      have ei : (d - b).toNat = i := by omega
      have vr := rn_val_r (T := T) (b := b) i (fun j hj => dg j (by omega))
      refine rb_Mo_takesNumber_65 hM ?_ ?_ ?_ ?_ <;> rw [h10]
      · intro z; omega
      · intro z; omega
      · intro _ z
        refine k2 (fun y => z ?_)
        have := y.2
        rw [hd, ei] at this; exact this
      · intro _ z
        have d2 : d - b ≤ 2 := by
          by_cases q : d - b ≤ 2
          · exact q
          · have e3 : i = 3 := by omega
            subst e3
            have d0 := dg 0 (by omega)
            have d1 := dg 1 (by omega)
            have d2 := dg 2 (by omega)
            have z0 : T (b + ((0 : Nat) : Int)) = T b := by rw [show b + ((0 : Nat) : Int) = b by omega]
            have ev : rn_val T b 3 = 10 * (10 * (10 * 0 + T (b + ((0 : Nat) : Int)) - 48) + T (b + ((1 : Nat) : Int)) - 48) + T (b + ((2 : Nat) : Int)) - 48 := rfl
            omega
        have ok : rn_nok T n b lo hi := by
          unfold rn_nok
          rw [hd, ei]
          exact ⟨⟨ck, d2, cz⟩, z⟩
        have f1 : rn_ft M (rn_si M 466 11 (rn_val T b i)) := rn_ft_si (by omega)
        refine rm_nextToken (e := d) (rn_sh_si hM) tt (rn_TM_ft t f1) (by rw [rn_si_ne (by omega)]; exact h10) (by omega) (fun M2 f2 g11 g9 g10 => rb_Mo_takesNumber_116 ?_)
        refine k1 ok M2 (rn_ft_tr f1 f2) ?_ ⟨g9, g10⟩
        rw [g11, rn_si_eq, ei]
    | succ m ih =>
      intro i hij
      have vr := rn_val_r (T := T) (b := b) i (fun j hj => dg j (by omega))
      have vr3 := vr.2.2.2 (by omega)
      have dgi := dg i (by omega)
      have tm := t.2 (b + i) (by omega) (by omega)
      have := ih (i + 1) (by omega)
      refine rb_Mo_takesNumber_65 hM ?_ ?_ ?_ ?_ <;> rw [h10] <;> (try rw [tm])
      · intro _; omega
      · intro _
        rw [show b + ((i + 1 : Nat) : Int) = b + (i : Int) + 1 by omega] at this
        exact this
      · intro z; omega
      · intro z; omega
  have go : rn_ko (T b) = 2 → ¬ (1 < d - b ∧ T b = 48) → d - b ≤ 3 → rn_WP 196 65 [rn_R 466, rn_I lo, rn_I hi, rn_I 0, rn_I b] [] M Q := fun a1 a2 a3 => by
    have := loop a1 a2 a3 (d - b).toNat 0 (by omega)
    rw [show b + ((0 : Nat) : Int) = b by omega] at this
    exact this
  have no : ¬ (rn_ko (T b) = 2 ∧ d - b ≤ 2 ∧ ¬ (1 < d - b ∧ T b = 48)) → Q (some (rn_I 0)) M := fun z => k2 (fun y => z (by have := y.1; rw [hd] at this; exact this))
  refine re_Mo_takesNumber (rb_Mo_takesNumber_0 hM ?_ ?_ ?_ ?_ ?_ ?_ ?_ ?_ ?_ ?_ ?_) <;> rw [h9] <;> (try rw [h10]) <;> (try simp only [s.2.2.1]) <;> (try rw [t.1])
  · omega
  · intro z; have := bn z; omega
  · intro _ _; omega
  · intro _ _ _; omega
  · intro _ _; omega
  · intro z; exact no (fun y => z y.1)
  · intro z c c2; rw [(bn z).2] at c; exact no (fun y => y.2.2 ⟨c2, c⟩)
  · intro z c c2 c3; exact go z (fun y => c2 y.1) c3
  · intro z c c2 c3; exact no (fun y => by omega)
  · intro z c c2; rw [(bn z).2] at c; exact go z (fun y => c y.2) c2
  · intro z c c2; exact no (fun y => by omega)
theorem rm_takesSemicolon {e : Int} (hM : rn_sh M) (tt : rn_TT T n) (t : rn_TM M T n) (h : rn_tat M T n e) (he : 0 ≤ e ∧ e ≤ n) (k1 : T (rn_tks T n e) = 59 → ∀ M', rn_ft M M' → rn_tat M' T n (rn_te T n (rn_tks T n e)) → Q (some (rn_I 1)) M') (k2 : T (rn_tks T n e) ≠ 59 → Q (some (rn_I 0)) M) : rn_ME 197 [rn_R 466] M Q := by
  have n0 := tt.1
  have br := rn_tks_r (T := T) he.2
  have s := rn_srt3 (i := rn_tks T n e) t tt (by omega)
  refine re_Mo_takesSemicolon (rb_Mo_takesSemicolon_0 hM ?_ ?_ ?_) <;> rw [h.1] <;> (try simp only [s.2.2.2])
  · rw [t.1]; omega
  · exact k2
  · intro c; exact rm_next hM tt t h he (fun M' f _ g => rb_Mo_takesSemicolon_21 (k1 c M' f g))
end LO2
