/-! actions, as the law sees them; areStarts -/
section LE
variable {G : Nat × (Nat → Int)} {M : rn_M} {Q : rn_Q} {N : Nat → Int} {n : Int} {K : Nat → Nat → Int}
theorem rl_nK_top (hn : 0 ≤ n ∧ n ≤ 5) : rn_nK n K N (min n 4).toNat = N := by
  unfold rn_nK
  rw [if_pos rfl]
theorem iq_undo (J : rn_Jq G M N n K) (h : 1 ≤ n) (k : ∀ M', rn_Jq G M' (K (n - 1).toNat) (n - 1) K → Q (some (rn_I (n - 1))) M') : rn_ME 105 [rn_R 8] M Q :=
  rq_undo J.1 J.2.2.1 (fun _ M1 c s g => k M1 (rn_Jfc c s g (J.2.2.2.2.2.2 (n - 1).toNat (by omega)) (fun i hi => J.2.2.2.2.2.2 i (by omega)) J)) (fun z => by omega)
theorem iq_undo0 (J : rn_Jq G M N n K) (h : n = 0) (k : ∀ M', rn_Jq G M' N n K → Q (some (rn_I (-2))) M') : rn_ME 105 [rn_R 8] M Q :=
  rq_undo J.1 J.2.2.1 (fun z => by omega) (fun _ => k M J)
/-- the action before is undone -/
theorem iq_undoT {N' : Nat → Int} (hn : 0 ≤ n ∧ n ≤ 5) (J : rn_Jq G M N' (min (n + 1) 5) (rn_nK n K N)) (k : ∀ M', rn_Jq G M' N (min n 4) (rn_nK n K N) → Q (some (rn_I (min n 4))) M') : rn_ME 105 [rn_R 8] M Q := by
  refine iq_undo J (by omega) (fun M1 J1 => ?_)
  rw [show min (n + 1) 5 - 1 = min n 4 by omega] at J1 ⊢
  rw [rl_nK_top hn] at J1
  exact k M1 J1
theorem iq_set (J : rn_Jq G M N n K) {r s : Int} (h : (0 ≤ r ∧ r < N 0) ∧ 0 ≤ s ∧ s ≤ 60) (k1 : rn_why N r s (rn_o N r 1) (-9) ≠ 0 → ∀ M', rn_Jq G M' N n K → Q (some (rn_I (-2))) M') (k2 : rn_why N r s (rn_o N r 1) (-9) = 0 → N 2 = 20 → ∀ M', rn_Jq G M' N n K → Q (some (rn_I (-3))) M')
    (k3 : rn_why N r s (rn_o N r 1) (-9) = 0 → N 2 ≠ 20 → ∀ M', rn_Jq G M' (rn_nl N r s) (min (n + 1) 5) (rn_nK n K N) → Q (some (rn_I (N 2))) M') : rn_ME 101 [rn_R 8, rn_I r, rn_I s] M Q :=
  rq_set J.1 J.2.2.1 (fun z => absurd h z) (fun _ q M1 c s g => k1 q M1 (rn_Jf0 c s g J)) (fun _ q w M1 c s g => k2 q w M1 (rn_Jf0 c s g J)) (fun _ q w M1 c s g => k3 q w M1 (rn_Jnw c s g (rl_sm_gd (rl_nl_sm (rn_Jv J)) (rn_Jv J) (rn_Jg J)) J))
theorem iq_setRank (J : rn_Jq G M N n K) {r x : Int} (h : (0 ≤ r ∧ r < N 0) ∧ 1 ≤ x ∧ x ≤ 9) (k : ∀ M', rn_Jq G M' (rn_up N (4 + 78 * r + 1).toNat x) (min (n + 1) 5) (rn_nK n K N) → Q (some (rn_I (rn_o N r 1))) M') : rn_ME 97 [rn_R 8, rn_I r, rn_I x] M Q :=
  rq_setRank J.1 J.2.2.1 (fun _ M1 c s g => k M1 (rn_Jnw c s g (rl_sm_gd (rl_rk_sm h.1.1 (by have := (rn_Jv J).1; omega)) (rn_Jv J) (rn_Jg J)) J)) (fun z => absurd h z)
theorem iq_rankFor (J : rn_Jq G M N n K) {r : Int} (h : 0 ≤ r ∧ r < N 0) (k : ∀ y M', rn_Jq G M' N n K → rn_lst N r y → Q (some (rn_I y)) M') : rn_ME 117 [rn_R 8, rn_I r] M Q :=
  rq_rankFor J.1 J.2.2.1 (fun y M1 c1 q _ => k y M1 (rn_Jch c1 J) (q h))
theorem rl_bend_cg {N' : Nat → Int} {r : Int} (h : ∀ w, 0 ≤ w → w < 78 → rn_o N' r w = rn_o N r w) {s p : Int} (s0 : 0 ≤ s) (hp : s + p ≤ 61) : rn_bend N' r s p = rn_bend N r s p := by
  unfold rn_bend
  rcases Int.lt_or_le 2 p with q | q
  · exact rl_bdn_cg h s0 _ (by omega)
  · rw [show (p - 2).toNat = 0 by omega]; rfl
/-- from 359: the next start -/
theorem rs_as_359 (J : rn_Jq G M N n K) {r full s : Int} {v2 v3 v4 v5 v6 v10 v11 v12 : rn_V} (hf : full = 0 ∨ full = 1) (s0 : 0 ≤ s ∧ s ≤ 60) (kk : ∀ M' w10 w11 w12 s', rn_Jq G M' N n K → s' = (if full = 0 then s + 1 else s + 61) → rn_WP 129 43 [rn_R 8, rn_I r, v2, v3, v4, v5, v6, rn_I 1, rn_I full, rn_I s', w10, w11, w12] [] M' Q) : rn_WP 129 359 [rn_R 8, rn_I r, v2, v3, v4, v5, v6, rn_I 1, rn_I full, rn_I s, v10, v11, v12] [] M Q :=
  rb_Lw_areStarts_359 J (fun _ => by omega) (fun _ => by omega) (fun c M1 J1 => kk M1 _ _ _ _ J1 (by rw [if_pos c])) (fun c M1 J1 => kk M1 _ _ _ _ J1 (by rw [if_neg c]))
/-- a label was set, is looked at and taken back -/
theorem rs_as_set (v : rn_vd N) {r s best cost full : Int} (r0 : 0 ≤ r) (r1 : r < N 0) (s0 : 0 ≤ s ∧ s ≤ 60) (hw : rn_why N r s (rn_o N r 1) (-9) = 0) (h2 : N 2 ≠ 20) (hn : 0 ≤ n ∧ n ≤ 5) (hf : full = 0) (hb : best = rn_bsn N r s.toNat) (hc : best = -9 ∨ cost = rn_cost N r best) {g : Int64} {v12 : rn_V} (J : rn_Jq G M (rn_nl N r s) (min (n + 1) 5) (rn_nK n K N))
    (kk : ∀ M' best' cost' w11 w12, rn_Jq G M' N (min n 4) (rn_nK n K N) → best' = rn_bsn N r (s + 1).toNat → (best' = -9 ∨ cost' = rn_cost N r best') → rn_WP 129 359 [rn_R 8, rn_I r, rn_G g, rn_J, rn_I (min n 4), rn_I best', rn_I cost', rn_I 1, rn_I full, rn_I s, rn_I 0, w11, w12] [] M' Q) : rn_WP 129 162 [rn_R 8, rn_I r, rn_G g, rn_J, rn_I n, rn_I best, rn_I cost, rn_I 1, rn_I full, rn_I s, rn_I 0, rn_I (N 2), v12] [] M Q := by
  have v0 := v.1
  have v2 := v.2.2.1
  have vr := v.2.2.2.2.1 r r0 r1
  have vr0 := vr.1
  have v5 := vr.2.2.2.1
  have w0 := rl_why0.mp hw
  have wn := rl_nl_why v r0 r1 s0.1 hw
  have l0 : rn_lb (rn_nl N r s) (N 2) 0 = r := rn_nl_lb0 v2.1
  have l1 : rn_lb (rn_nl N r s) (N 2) 1 = s := rn_nl_lb1 v2.1
  have n2 : rn_nl N r s 2 = N 2 + 1 := rn_nl_2
  have n0 : rn_nl N r s 0 = N 0 := (rl_nl_sm v).1.1
  have eo : ∀ w, 0 ≤ w → w < 78 → rn_o (rn_nl N r s) r w = rn_o N r w := fun w a b => rl_nl_o v r0 (by omega) a b
  have e0 := eo 0 (by omega) (by omega)
  have e1 := eo 1 (by omega) (by omega)
  have e5 := eo 5 (by omega) (by omega)
  have bc : rn_bend (rn_nl N r s) r s (rn_o N r 0) = rn_bend N r s (rn_o N r 0) := rl_bend_cg eo s0.1 (by omega)
  have cc : rn_cost (rn_nl N r s) r s = rn_cost N r s := by unfold rn_cost; rw [e0, e5, bc]
  have br := rn_bend_r vr s0.1 w0.1
  have cd : rn_cost N r s = 10 * rn_bend N r s (rn_o N r 0) + max (2 * s + rn_o N r 0 - 1 - rn_o N r 5) (-(2 * s + rn_o N r 0 - 1 - rn_o N r 5)) := rfl
  have bn : rn_bsn N r (s + 1).toNat = rn_pick (rn_why N r s (rn_o N r 1) (-9) = 0 ∧ (rn_bsn N r s.toNat = -9 ∨ rn_cost N r s < rn_cost N r (rn_bsn N r s.toNat))) s (rn_bsn N r s.toNat) := by
    rw [show (s + 1).toNat = s.toNat + 1 by omega]
    show rn_pick (rn_why N r (s.toNat : Int) (rn_o N r 1) (-9) = 0 ∧ _) (s.toNat : Int) _ = _
    rw [show ((s.toNat : Nat) : Int) = s by omega]
  have bb := rn_bsn_r (N := N) r s.toNat
  rw [← hb] at bn bb
  -- from 223 on
  have p223 : ∀ {best' cost' : Int} {M1 : rn_M}, rn_Jq G M1 (rn_nl N r s) (min (n + 1) 5) (rn_nK n K N) → best' = rn_bsn N r (s + 1).toNat → (best' = -9 ∨ cost' = rn_cost N r best') → rn_WP 129 223 [rn_R 8, rn_I r, rn_G g, rn_J, rn_I n, rn_I best', rn_I cost', rn_I 1, rn_I full, rn_I s, rn_I 0, rn_I (N 2), rn_I (rn_cost (rn_nl N r s) r s)] [] M1 Q := by
    intro best' cost' M1 J1 h1 h3
    refine rb_Lw_areStarts_223 J1 ?_ (fun M2 J2 => iq_undoT hn J2 (fun M3 J3 => ?_))
    · rw [l0, l1, e0, e1, e5, n0, n2, bc, cc]
      omega
    · have fin : ∀ M', rn_Jq G M' N (min n 4) (rn_nK n K N) → rn_WP 129 345 [rn_R 8, rn_I r, rn_G g, rn_J, rn_I n, rn_I best', rn_I cost', rn_I 1, rn_I full, rn_I s, rn_I 0, rn_I (N 2), rn_I (rn_cost (rn_nl N r s) r s)] [] M' Q := by
        intro M4 J4
        have k4 := fun M' (J' : rn_Jq G M' N (min n 4) (rn_nK n K N)) => kk M' best' cost' (rn_I (N 2)) (rn_I (rn_cost (rn_nl N r s) r s)) J' h1 h3
        refine rb_Lw_areStarts_345 J4 rfl (fun c M5 J5 => ?_) (fun c M5 J5 => ?_)
        · have := k4 M5 J5
          rw [show min n 4 = 4 by omega] at this
          exact this
        · have := k4 M5 J5
          rw [show min n 4 = n by omega] at this
          exact this
      exact rb_Lw_areStarts_323 J3 rfl (fun c => by omega) (fun c => by omega) (fun _ => fin) (fun _ => fin)
  have p207 : ∀ {best' : Int} {M1 : rn_M}, rn_Jq G M1 (rn_nl N r s) (min (n + 1) 5) (rn_nK n K N) → best' = rn_bsn N r (s + 1).toNat → (best' = s ∨ best' = best ∧ (best = -9 ∨ 0 ≤ best ∧ best < s)) → rn_WP 129 207 [rn_R 8, rn_I r, rn_G g, rn_J, rn_I n, rn_I best', rn_I cost, rn_I 1, rn_I full, rn_I s, rn_I 0, rn_I (N 2), rn_I (rn_cost (rn_nl N r s) r s)] [] M1 Q := by
    intro best' M1 J1 h1 h3
    refine rb_Lw_areStarts_207 J1 (fun c M2 J2 => p223 J2 h1 (Or.inr ?_)) (fun c M2 J2 => p223 J2 h1 ?_)
    · rw [c, cc]
    · rcases h3 with q | ⟨q, -⟩
      · exact absurd q c
      · rw [q]; exact hc
  have bb2 : best = -9 ∨ 0 ≤ best ∧ best < s := by omega
  refine rb_Lw_areStarts_162 J rfl (fun _ _ => by rw [n2]; omega) ?_ ?_ ?_ (fun _ z => absurd hf z) (fun z => absurd rfl z)
  · intro _ _ c M1 J1
    rw [l0, l1]
    exact p207 J1 (by rw [bn, rn_pick_t ⟨hw, Or.inl (by omega)⟩]) (Or.inl rfl)
  · intro _ _ c c2 M1 J1
    rw [l0, l1] at c2 ⊢
    rw [cc] at c2
    have hc2 : cost = rn_cost N r best := hc.elim (fun q => by omega) id
    exact p207 J1 (by rw [bn, rn_pick_t ⟨hw, Or.inr (by omega)⟩]) (Or.inl rfl)
  · intro _ _ c c2 M1 J1
    rw [l0, l1] at c2 ⊢
    rw [cc] at c2
    have hc2 : cost = rn_cost N r best := hc.elim (fun q => by omega) id
    exact p207 J1 (by rw [bn, rn_pick_f (fun z => z.2.elim (fun q => by omega) (fun q => by omega))]) (Or.inr ⟨rfl, bb2⟩)
theorem rs_as_43 (v : rn_vd N) {r full : Int} (r0 : 0 ≤ r) (r1 : r < N 0) (hf : (full = 1 ∧ N 2 = 20) ∨ (full = 0 ∧ N 2 ≠ 20)) {g : Int64} (kk : ∀ M' n' K' best cost v9 v10 v11 v12, rn_Jq G M' N n' K' → (full = 0 → best = rn_bsn N r 61 ∧ (best = -9 ∨ cost = rn_cost N r best)) → rn_WP 129 378 [rn_R 8, rn_I r, rn_G g, rn_J, rn_I n', rn_I best, rn_I cost, rn_I 1, rn_I full, v9, v10, v11, v12] [] M' Q) : ∀ (j : Nat) (s : Int) (n : Int) (K : Nat → Nat → Int) (M : rn_M) (best cost : Int) (v10 v11 v12 : rn_V), rn_Jq G M N n K → 0 ≤ s → s ≤ 61 → 61 ≤ s + j → (full = 1 → s = 0 ∨ s = 61) → (full = 0 → best = rn_bsn N r s.toNat ∧ (best = -9 ∨ cost = rn_cost N r best)) → rn_WP 129 43 [rn_R 8, rn_I r, rn_G g, rn_J, rn_I n, rn_I best, rn_I cost, rn_I 1, rn_I full, rn_I s, v10, v11, v12] [] M Q := by
  have v0 := v.1
  have v2 := v.2.2.1
  have vr := v.2.2.2.2.1 r r0 r1
  have vr0 := vr.1
  have v5 := vr.2.2.2.1
  intro j
  induction j with
  | zero =>
    intro s n K M best cost v10 v11 v12 J s0 s1 s2 h1 h2
    obtain rfl : s = 61 := by omega
    exact rb_Lw_areStarts_43 J (fun z => by omega) (fun z => by omega) (fun _ M1 J1 => kk M1 n K best cost _ _ _ _ J1 h2)
  | succ j ih =>
    intro s n K M best cost v10 v11 v12 J s0 s1 s2 h1 h2
    have hn := rn_Jn J
    rcases (by omega : s = 61 ∨ s ≤ 60) with q | q
    · subst q
      exact rb_Lw_areStarts_43 J (fun z => by omega) (fun z => by omega) (fun _ M1 J1 => kk M1 n K best cost _ _ _ _ J1 h2)
    · refine rb_Lw_areStarts_43 J (fun _ => by omega) (fun _ M1 J1 => ?_) (fun z => by omega)
      have ff : full = 0 ∨ full = 1 := by omega
      have wr := rl_why_r (N := N) (r := r) (s := s) (k := rn_o N r 1) (but := -9)
      have w1 := rl_why1 (N := N) (r := r) (s := s) (k := rn_o N r 1) (but := -9)
      have bs : rn_why N r s (rn_o N r 1) (-9) ≠ 0 → rn_bsn N r (s + 1).toNat = rn_bsn N r s.toNat := by
        intro z
        rw [show (s + 1).toNat = s.toNat + 1 by omega]
        refine rn_pick_f (fun y => z ?_) _ _
        have := y.1
        rw [show ((s.toNat : Nat) : Int) = s by omega] at this
        exact this
      -- on with the same row, the best as before
      have same : ∀ {told : Int} {M2 : rn_M} {v12' : rn_V}, rn_Jq G M2 N n K → (full = 0 → rn_why N r s (rn_o N r 1) (-9) ≠ 0) → rn_WP 129 162 [rn_R 8, rn_I r, rn_G g, rn_J, rn_I n, rn_I best, rn_I cost, rn_I 1, rn_I full, rn_I s, rn_I (rn_why N r s (rn_o N r 1) (-9)), rn_I told, v12'] [] M2 Q := by
        intro told M2 v12' J2 hz
        have nx : ∀ (w10 w11 w12 : rn_V) (M' : rn_M), rn_Jq G M' N n K → rn_WP 129 359 [rn_R 8, rn_I r, rn_G g, rn_J, rn_I n, rn_I best, rn_I cost, rn_I 1, rn_I full, rn_I s, w10, w11, w12] [] M' Q := by
          intro w10 w11 w12 M3 J3
          refine rs_as_359 J3 ff ⟨s0, q⟩ (fun M4 w10 w11 w12 s' J4 e => ih s' n K M4 best cost w10 w11 w12 J4 ?_ ?_ ?_ ?_ ?_)
          · rw [e]; split <;> omega
          · rw [e]; split <;> omega
          · rw [e]; split <;> omega
          · intro z; rw [e, if_neg (by omega)]; omega
          · intro z
            rw [e, if_pos z, bs (hz z)]
            exact h2 z
        exact rb_Lw_areStarts_162 J2 rfl (fun c1 c2 => absurd c1 (hz c2)) (fun c1 c2 => absurd c1 (hz c2)) (fun c1 c2 => absurd c1 (hz c2)) (fun c1 c2 => absurd c1 (hz c2)) (fun _ _ M' J' => nx _ _ _ M' J') (fun _ M' J' => nx _ _ _ M' J')
      refine iq_set J1 ⟨⟨r0, r1⟩, s0, q⟩ (fun hw M2 J2 => ?_) (fun hw h20 M2 J2 => ?_) (fun hw h20 M2 J2 => ?_)
      · refine rb_Lw_areStarts_71 J2 (by omega) (fun _ _ => by omega) (fun c => by omega) (fun c => by omega) (fun _ M3 J3 => ?_)
        exact rb_Lw_areStarts_113 J3 rfl rfl (fun _ => by omega) (fun c z => w1.mp c z) (fun _ => by omega) (fun c z => c (w1.mpr z)) (fun _ _ M4 J4 => same J4 (fun _ => hw)) (fun _ _ M4 J4 => same J4 (fun _ => hw))
      · have hf1 : full ≠ 0 := by omega
        refine rb_Lw_areStarts_71 J2 (by omega) (fun _ c => absurd c hf1) (fun _ c => absurd c hf1) (fun _ _ M3 J3 => ?_) (fun c => by omega)
        exact rb_Lw_areStarts_113 J3 rfl rfl (fun _ => by omega) (fun c z => w1.mp c z) (fun _ => by omega) (fun c z => c (w1.mpr z)) (fun _ _ M4 J4 => same J4 (fun z => absurd z hf1)) (fun _ _ M4 J4 => same J4 (fun z => absurd z hf1))
      · have hf0 : full = 0 := by omega
        have n2 : rn_nl N r s 2 = N 2 + 1 := rn_nl_2
        have n0 : rn_nl N r s 0 = N 0 := (rl_nl_sm v).1.1
        have e0 := rl_nl_o v (r := r) (s := s) (q := r) (w := 0) r0 (by omega) (by omega) (by omega)
        have e5 := rl_nl_o v (r := r) (s := s) (q := r) (w := 5) r0 (by omega) (by omega) (by omega)
        have h2' := h2 hf0
        have go : ∀ {M3 : rn_M} {v12' : rn_V}, rn_Jq G M3 (rn_nl N r s) (min (n + 1) 5) (rn_nK n K N) → rn_WP 129 162 [rn_R 8, rn_I r, rn_G g, rn_J, rn_I n, rn_I best, rn_I cost, rn_I 1, rn_I full, rn_I s, rn_I (rn_why N r s (rn_o N r 1) (-9)), rn_I (N 2), v12'] [] M3 Q := by
          intro M3 v12' J3
          rw [hw]
          refine rs_as_set v r0 r1 ⟨s0, q⟩ hw h20 hn hf0 h2'.1 h2'.2 J3 (fun M4 best' cost' w11 w12 J4 g1 g2 => ?_)
          exact rs_as_359 J4 ff ⟨s0, q⟩ (fun M5 w10 w11 w12 s' J5 e => by
            rw [if_pos hf0] at e
            subst e
            exact ih (s + 1) _ _ M5 best' cost' w10 w11 w12 J5 (by omega) (by omega) (by omega) (fun z => by omega) (fun _ => ⟨g1, g2⟩))
        refine rb_Lw_areStarts_71 J2 (by omega) (fun _ _ => by omega) (fun _ _ M3 J3 => ?_) (fun _ c => absurd hf0 c) (fun c => by omega)
        exact rb_Lw_areStarts_113 J3 rfl (by omega) (fun _ => by rw [n0, e0, e5]; omega) (fun c z => by omega) (fun _ => by rw [n0, e0, e5]; omega) (fun c z => by rw [e0, e5] at z; exact c (w1.mpr z)) (fun _ _ M4 J4 => go J4) (fun _ _ M4 J4 => go J4)
/-- from 534 on -/
theorem rs_as_534 (J : rn_Jq G M N n K) {r y : Int} (r0 : 0 ≤ r) (r1 : r < N 0) (hy : rn_lst N r y) {v3 v4 v5 v6 v8 v11 v12 : rn_V} (k : ∀ M' n' K', rn_Jq G M' N n' K' → Q (some (rn_I 1)) M') : rn_WP 129 534 [rn_R 8, rn_I r, rn_G (rn_pr N), v3, v4, v5, v6, rn_I 1, v8, rn_I y, rn_I (rn_o N r 1), v11, v12] [] M Q := by
  have v := rn_Jv J
  have vr := v.2.2.2.2.1 r r0 r1
  have vr1 := vr.2.1
  have e := rn_cmp0 (rn_pr N)
  have b := rl_best_no v r0 r1
  have h1 : y = -9 → rn_best N r = -9 := by
    intro z
    rcases hy with ⟨-, h⟩ | ⟨h, -⟩
    · rcases b with q | ⟨-, q, -⟩
      · exact q.1
      · exact absurd q (h _ vr1.1 vr1.2)
    · omega
  have h2 : y = -9 ∨ 1 ≤ y ∧ y ≤ 9 := hy.elim (fun z => Or.inl z.1) (fun z => Or.inr z.1)
  have h3 : 0 ≤ rn_best N r → y ≤ rn_o N r 1 := by
    intro z
    rcases hy with ⟨q, h⟩ | ⟨-, -, h⟩
    · omega
    · rcases b with q | ⟨-, q, -⟩
      · omega
      · rcases Int.lt_or_le (rn_o N r 1) y with w | w
        · exact absurd q (h _ vr1.1 w)
        · exact w
  have kf := fun M' (J' : rn_Jq G M' N n K) => k M' n K J'
  exact rb_Lw_areStarts_534 J (fun _ => ⟨r0, r1⟩) (fun _ _ => e) (fun _ _ => by omega) (fun _ => by omega) (fun _ _ => e) (fun c z => by omega) (fun _ _ => kf) (fun _ _ => kf) (fun _ _ => kf) (fun _ _ => kf)
/-- with the rank y the river's best start is there, or it isn't -/
theorem rl_rk_best (v : rn_vd N) {r x : Int} (r0 : 0 ≤ r) (r1 : r < N 0) (v' : rn_vd (rn_up N (4 + 78 * r + 1).toNat x)) : (rn_fits N r x → 0 ≤ rn_best (rn_up N (4 + 78 * r + 1).toNat x) r) ∧ (¬ rn_fits N r x → rn_best (rn_up N (4 + 78 * r + 1).toNat x) r = -9) := by
  have v0 := v.1
  have n0 : rn_up N (4 + 78 * r + 1).toNat x 0 = N 0 := rn_up_ne (by omega)
  have b := rl_best_no v' r0 (by rw [n0]; exact r1)
  rw [rl_rk_1, rl_rk_fits v r0 r1] at b
  rcases b with ⟨q1, q2⟩ | ⟨q1, q2, -⟩
  · exact ⟨fun z => absurd z q2, fun _ => q1⟩
  · exact ⟨fun _ => q1.1, fun z => absurd q2 z⟩
theorem rs_as_441 (J : rn_Jq G M N n K) {r y : Int} (r0 : 0 ≤ r) (r1 : r < N 0) (hy : rn_lst N r y) {v3 v4 v5 v6 v8 v9 v10 v11 v12 : rn_V} (h6 : rn_ca v6 = 1) (h8 : rn_ca v8 = 1) (k : ∀ M' n' K', rn_Jq G M' N n' K' → Q (some (rn_I 1)) M') : rn_WP 129 441 [rn_R 8, rn_I r, rn_G (rn_pr N), v3, v4, v5, v6, rn_I 1, v8, v9, v10, v11, v12] [rn_I y] M Q := by
  have v := rn_Jv J
  have v0 := v.1
  refine rb_Lw_areStarts_441 J h8 ⟨r0, r1⟩ (fun _ M1 J1 => rs_as_534 J1 r0 r1 hy k) (fun c M1 J1 => ?_)
  obtain ⟨hy1, hy2, hy3⟩ : (1 ≤ y ∧ y ≤ 9) ∧ rn_fits N r y ∧ ∀ k : Int, 1 ≤ k → k < y → ¬ rn_fits N r k := hy.elim (fun z => by omega) id
  have n0 : ∀ {x : Int}, rn_up N (4 + 78 * r + 1).toNat x 0 = N 0 := fun {x} => rn_up_ne (by omega)
  have hn := rn_Jn J1
  refine iq_setRank J1 ⟨⟨r0, r1⟩, hy1⟩ (fun M2 J2 => ?_)
  have b2 := rl_rk_best v r0 r1 (rn_Jv J2)
  refine rb_Lw_areStarts_468 J2 ⟨rfl, ⟨r0, by rw [n0]; exact r1⟩, by have := b2.1 hy2; omega⟩ (fun M3 J3 => iq_undoT hn J3 (fun M4 J4 => ?_))
  refine rb_Lw_areStarts_486 J4 h6 (by omega) (fun _ => by omega) (fun _ M5 J5 => rs_as_534 J5 r0 r1 hy k) (fun c1 M5 J5 => ?_)
  have hn5 := rn_Jn J5
  refine iq_setRank J5 ⟨⟨r0, r1⟩, by omega⟩ (fun M6 J6 => ?_)
  have b6 := rl_rk_best v r0 r1 (rn_Jv J6)
  refine rb_Lw_areStarts_504 J6 ⟨rfl, ⟨r0, by rw [n0]; exact r1⟩, b6.2 (hy3 _ (by omega) (by omega))⟩ (fun M7 J7 => iq_undoT hn5 J7 (fun M8 J8 => ?_))
  exact rb_Lw_areStarts_524 J8 h6 (by omega) (fun M9 J9 => rs_as_534 J9 r0 r1 hy k)
theorem iq_areStarts (J : rn_Jq G M N n K) {r : Int} (h : 0 ≤ r ∧ r < N 0) (k : ∀ M' n' K', rn_Jq G M' N n' K' → Q (some (rn_I 1)) M') : rn_ME 129 [rn_R 8, rn_I r] M Q := by
  obtain ⟨r0, r1⟩ := h
  have v := rn_Jv J
  have v2 := v.2.2.1
  have e61 := rl_bsn_61 v r0 r1
  have b := rl_best_no v r0 r1
  have e := rn_cmp0 (rn_pr N)
  have go : ∀ {full : Int}, ((full = 1 ∧ N 2 = 20) ∨ (full = 0 ∧ N 2 ≠ 20)) → ∀ M', rn_Jq G M' N n K → rn_WP 129 43 [rn_R 8, rn_I r, rn_G (rn_pr N), rn_J, rn_I n, rn_I (-9), rn_I 0, rn_I 1, rn_I full, rn_I 0, rn_J, rn_J, rn_J] [] M' Q := by
    intro full hf M1 J1
    refine rs_as_43 v r0 r1 hf (fun M2 n' K' best cost v9 v10 v11 v12 J2 hb => ?_) 61 0 n K M1 (-9) 0 _ _ _ J1 (by omega) (by omega) (by omega) (fun _ => Or.inl rfl) (fun _ => ⟨rfl, Or.inl rfl⟩)
    have nx := fun M' (J' : rn_Jq G M' N n' K') => iq_rankFor (Q := fun r_1 M1 => rn_WP 129 441 [rn_R 8, rn_I r, rn_G (rn_pr N), rn_J, rn_I n', rn_I best, rn_I cost, rn_I 1, rn_I full, v9, v10, v11, v12] (r_1.toList ++ []) M1 Q) J' ⟨r0, r1⟩ (fun y M3 J3 hy => rs_as_441 J3 r0 r1 hy rfl rfl k)
    refine rb_Lw_areStarts_378 J2 (fun c => ?_) (fun c c1 => ?_) (fun c c1 => ?_) (fun _ => e) (fun _ _ => nx) (fun _ _ => nx) (fun _ => nx)
    · rw [← e61]; exact ⟨⟨r0, r1⟩, ((hb c).1).symm⟩
    · obtain ⟨q1, q2⟩ := hb c
      rw [e61] at q1
      refine ⟨?_, e⟩
      unfold rn_aBest
      rw [if_neg (by omega), if_neg (by omega)]
      have q3 : cost = rn_cost N r best := q2.elim (fun z => by omega) id
      rw [q3, q1]
    · obtain ⟨q1, q2⟩ := hb c
      rw [e61] at q1
      refine ⟨?_, e⟩
      unfold rn_aBest
      rw [if_neg (by omega), if_pos (Or.inl (by omega))]
      omega
  exact re_Lw_areStarts (rb_Lw_areStarts_0 J rfl (fun c => go (Or.inl ⟨rfl, c⟩)) (fun c => go (Or.inr ⟨rfl, c⟩)))
end LE
