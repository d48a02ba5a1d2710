/-! acts: any action keeps the state, or refuses -/
section LH
variable {G : Nat × (Nat → Int)} {M : rn_M} {Q : rn_Q} {N : Nat → Int} {n : Int} {K : Nat → Nat → Int}
theorem rl_gd_of {N' : Nat → Int} (e0 : N' 0 = N 0) (e : ∀ q w : Int, 0 ≤ q → q < 6 → 0 ≤ w → w < 18 → w = 0 ∨ 6 ≤ w → rn_o N' q w = rn_o N q w) (v : rn_vd N) (g : rn_gd N) : rn_gd N' := by
  intro r x r0 r1 x0 x1
  have v0 := v.1
  rw [e0] at r1
  have vr := (v.2.2.2.2.1 r r0 r1).1
  rw [e r 0 r0 (by omega) (by omega) (by omega) (by omega)] at x1
  rw [e r (6 + x) r0 (by omega) (by omega) (by omega) (by omega)]
  exact g r x r0 r1 x0 x1
theorem rl_up_gd {k : Nat} {x : Int} (h0 : k ≠ 0) (h : ∀ q w : Int, 0 ≤ q → q < 6 → 0 ≤ w → w < 18 → w = 0 ∨ 6 ≤ w → (4 + 78 * q + w).toNat ≠ k) (v : rn_vd N) (g : rn_gd N) : rn_gd (rn_up N k x) :=
  rl_gd_of (rn_up_ne (fun z => h0 z.symm)) (fun q w q0 q1 w0 w1 hw => by unfold rn_o; exact rn_up_ne (h q w q0 q1 w0 w1 hw)) v g
theorem rl_fl_gd {r d : Int} (r0 : 0 ≤ r) (l0 : 0 ≤ rn_o N r 5) (l1 : rn_o N r 5 < 60) (v : rn_vd N) (g : rn_gd N) : rn_gd (rn_fl N r d) :=
  rl_gd_of (rn_fl_lo r0 l0 (by omega)) (fun q w q0 q1 w0 w1 hw => rn_fl_o r0 l0 l1 q0 w0 (by omega) (fun z => by omega)) v g
theorem rl_at_gd {x y w h k : Int} (v : rn_vd N) (g : rn_gd N) : rn_gd (rn_at5 N x y w h k) := by
  have v1 := v.2.1
  exact rl_gd_of (rn_at5_ne v1.1 (by omega) (by omega)) (fun q w q0 q1 w0 w1 hw => by unfold rn_o; exact rn_at5_ne v1.1 (by omega) (by omega)) v g
theorem rl_nr_gd {L x y k h : Int} (hg : rn_rg L x y k h) (v : rn_vd N) (g : rn_gd N) : rn_gd (rn_nr N L x y k h (fun i => 97 + i)) := by
  have v0 := v.1
  intro r c r0 r1 c0 c1
  rw [rn_nr_0] at r1
  by_cases e : r = N 0
  · subst e
    unfold rn_rg at hg
    rw [rn_nr_o v0.1 (by omega) (by omega)] at c1
    have c2 : c < L := c1
    rw [rn_nr_o v0.1 (by omega) (by omega), show (6 + c).toNat = 6 + c.toNat by omega, rn_nv_n (by omega)]
    omega
  · have eq := rn_nr_eqR (N := N) (L := L) (x := x) (y := y) (k := k) (h := h) (nm := fun i => 97 + i) v0.1 r0 e
    have vr := (v.2.2.2.2.1 r r0 (by omega)).1
    have e0 := eq 0 (by omega) (by omega)
    rw [e0] at c1
    have e6 := eq (6 + c) (by omega) (by omega)
    rw [e6]
    exact g r c r0 (by omega) c0 c1
def rl_k0 (G : Nat × (Nat → Int)) (N : Nat → Int) (n : Int) (K : Nat → Nat → Int) (Q : rn_Q) : Prop := ∀ a M', (a = -1 ∨ a = -2 ∨ a = -3) → rn_Jq G M' N n K → Q (some (rn_I a)) M'
def rl_k1 (G : Nat × (Nat → Int)) (N : Nat → Int) (n : Int) (K : Nat → Nat → Int) (Q : rn_Q) : Prop := ∀ a N' M', 0 ≤ a → rn_Jq G M' N' (min (n + 1) 5) (rn_nK n K N) → Q (some (rn_I a)) M'
theorem ia_setGap (J : rn_Jq G M N n K) {x : Int} (k0 : rl_k0 G N n K Q) (k1 : rl_k1 G N n K Q) : rn_ME 100 [rn_R 8, rn_I x] M Q := by
  have v := rn_Jv J
  refine rq_setGap J.1 J.2.2.1 (fun c M1 f s g => k1 _ _ M1 (by have := v.2.2.2.1; omega) (rn_Jnw f s g (rl_up_gd (by omega) (fun q w _ _ _ _ _ => by omega) v (rn_Jg J)) J)) (fun _ => k0 _ M (by omega) J)
theorem ia_setRank (J : rn_Jq G M N n K) {r x : Int} (k0 : rl_k0 G N n K Q) (k1 : rl_k1 G N n K Q) : rn_ME 97 [rn_R 8, rn_I r, rn_I x] M Q := by
  have v := rn_Jv J
  refine rq_setRank J.1 J.2.2.1 (fun c M1 f s g => k1 _ _ M1 ?_ (rn_Jnw f s g (rl_up_gd (by omega) (fun q w _ _ _ _ _ => by omega) v (rn_Jg J)) J)) (fun _ M1 f s g => k0 _ M1 (by omega) (rn_Jf0 f s g J))
  have := (v.2.2.2.2.1 r c.1.1 c.1.2).2.1
  omega
theorem ia_setHalo (J : rn_Jq G M N n K) {r x : Int} (k0 : rl_k0 G N n K Q) (k1 : rl_k1 G N n K Q) : rn_ME 98 [rn_R 8, rn_I r, rn_I x] M Q := by
  have v := rn_Jv J
  refine rq_setHalo J.1 J.2.2.1 (fun c M1 f s g => k1 _ _ M1 ?_ (rn_Jnw f s g (rl_up_gd (by omega) (fun q w _ _ _ _ _ => by omega) v (rn_Jg J)) J)) (fun _ M1 f s g => k0 _ M1 (by omega) (rn_Jf0 f s g J))
  have := (v.2.2.2.2.1 r c.1.1 c.1.2).2.2.1
  omega
theorem ia_setTownRank (J : rn_Jq G M N n K) {t x : Int} (k0 : rl_k0 G N n K Q) (k1 : rl_k1 G N n K Q) : rn_ME 99 [rn_R 8, rn_I t, rn_I x] M Q := by
  have v := rn_Jv J
  refine rq_setTownRank J.1 J.2.2.1 (fun c M1 f s g => k1 _ _ M1 ?_ (rn_Jnw f s g (rl_up_gd (by omega) (fun q w _ _ _ _ _ => by omega) v (rn_Jg J)) J)) (fun _ M1 f s g => k0 _ M1 (by omega) (rn_Jf0 f s g J))
  have := v.2.2.2.2.2.1 t c.1.1 c.1.2
  unfold rn_vT at this
  omega
theorem ia_set (J : rn_Jq G M N n K) {r s : Int} (k0 : rl_k0 G N n K Q) (k1 : rl_k1 G N n K Q) : rn_ME 101 [rn_R 8, rn_I r, rn_I s] M Q := by
  have v := rn_Jv J
  exact rq_set J.1 J.2.2.1 (fun _ M1 f s g => k0 _ M1 (by omega) (rn_Jf0 f s g J)) (fun _ _ M1 f s g => k0 _ M1 (by omega) (rn_Jf0 f s g J)) (fun _ _ _ M1 f s g => k0 _ M1 (by omega) (rn_Jf0 f s g J))
    (fun _ _ _ M1 f s g => k1 _ _ M1 (by have := v.2.2.1; omega) (rn_Jnw f s g (rl_sm_gd (rl_nl_sm v) v (rn_Jg J)) J))
theorem ia_remove (J : rn_Jq G M N n K) {l : Int} (k0 : rl_k0 G N n K Q) (k1 : rl_k1 G N n K Q) : rn_ME 102 [rn_R 8, rn_I l] M Q := by
  have v := rn_Jv J
  exact rq_remove J.1 J.2.2.1 (fun c M1 f s g => k1 _ _ M1 (by omega) (rn_Jnw f s g (rl_sm_gd (rl_dl_sm c.1) v (rn_Jg J)) J)) (fun _ M1 f s g => k0 _ M1 (by omega) (rn_Jf0 f s g J))
theorem ia_place (J : rn_Jq G M N n K) {x : Int} (k0 : rl_k0 G N n K Q) (k1 : rl_k1 G N n K Q) : rn_ME 103 [rn_R 8, rn_I x] M Q := by
  have v := rn_Jv J
  by_cases c : 1 ≤ x ∧ x ≤ 5
  · refine iq_place J c (fun M1 J1 => k1 _ _ M1 ?_ J1)
    exact (rn_Jv J1).2.2.1.1
  · exact iq_placeB J c (fun M1 J1 => k0 _ M1 (by omega) J1)
theorem ia_tidy (J : rn_Jq G M N n K) (k1 : rl_k1 G N n K Q) : rn_ME 104 [rn_R 8] M Q := by
  have t := rl_tidy (rn_Jv J)
  exact iq_tidy J (fun M1 J1 => k1 _ _ M1 (by omega) J1)
theorem ia_flow (J : rn_Jq G M N n K) {r d : Int} (k0 : rl_k0 G N n K Q) (k1 : rl_k1 G N n K Q) : rn_ME 96 [rn_R 8, rn_I r, rn_I d] M Q := by
  have v := rn_Jv J
  refine rq_flow J.1 J.2.1 J.2.2.1 (fun _ M1 f s g => k0 _ M1 (by omega) (rn_Jf0 f s g J)) (fun _ _ M1 f s g => k0 _ M1 (by omega) (rn_Jf0 f s g J)) (fun _ _ _ M1 f s g => k0 _ M1 (by omega) (rn_Jf0 f s g J)) (fun c _ h M1 f s g => ?_)
  have v5 := (v.2.2.2.2.1 r c.1.1 c.1.2).2.2.2.1
  exact k1 _ _ M1 (by omega) (rn_Jnw f s g (rl_fl_gd c.1.1 (by omega) (by omega) v (rn_Jg J)) J)
theorem ia_addTown (J : rn_Jq G M N n K) {x y w h k : Int} (k0 : rl_k0 G N n K Q) (k1 : rl_k1 G N n K Q) : rn_ME 95 [rn_R 8, rn_I x, rn_I y, rn_I w, rn_I h, rn_I k] M Q := by
  have v := rn_Jv J
  exact rq_addTown J.1 J.2.2.1 (fun _ => k0 _ M (by omega) J) (fun _ _ M1 f s g => k0 _ M1 (by omega) (rn_Jf0 f s g J)) (fun _ _ M1 f s g => k1 _ _ M1 (by have := v.2.1; omega) (rn_Jnw f s g (rl_at_gd v (rn_Jg J)) J))
theorem ia_addRiver (J : rn_Jq G M N n K) {L x y k h : Int} (k0 : rl_k0 G N n K Q) (k1 : rl_k1 G N n K Q) : rn_ME 94 [rn_R 8, rn_I L, rn_I x, rn_I y, rn_I k, rn_I h] M Q := by
  have v := rn_Jv J
  exact rq_addRiver J.1 J.2.2.1 (fun _ => k0 _ M (by omega) J) (fun _ _ M1 f s g => k0 _ M1 (by omega) (rn_Jf0 f s g J)) (fun c _ M1 f s g => k1 _ _ M1 (by have := v.1; omega) (rn_Jnw f s g (rl_nr_gd c v (rn_Jg J)) J))
theorem iq_acts (J : rn_Jq G M N n K) {x y : Int} (hy : 0 ≤ y ∧ y ≤ 999999) (k0 : rl_k0 G N n K Q) (k1 : rl_k1 G N n K Q) : rn_ME 132 [rn_R 8, rn_I x, rn_I y] M Q := by
  have v0 := (rn_Jv J).1
  have v1 := (rn_Jv J).2.1
  have v2 := (rn_Jv J).2.2.1
  have go : ∀ {v3 v4 : rn_V} {a : Int} {M1 : rn_M}, rn_ca v3 = 1 → rn_Jq G M1 N n K → rn_WP 132 17 [rn_R 8, rn_I x, rn_I y, v3, v4] [rn_I a] M1 Q := by
    intro v3 v4 a M1 h3 J1
    have k2 : ∀ {pc : Nat} {v : rn_V}, (∀ {M' N' n' K'} {xs0 : Int}, rn_Jq G M' N' n' K' → (∀ M2, rn_Jq G M2 N' n' K' → Q (some (rn_I xs0)) M2) → rn_WP 132 pc [rn_R 8, rn_I x, rn_I y, v3, v] [rn_I xs0] M' Q) → rl_k0 G N n K (fun r M1 => rn_WP 132 pc [rn_R 8, rn_I x, rn_I y, v3, v] (r.toList ++ []) M1 Q) :=
      fun w a M' ha J' => w J' (fun M2 J2 => k0 a M2 ha J2)
    have k3 : ∀ {pc : Nat} {v : rn_V}, (∀ {M' N' n' K'} {xs0 : Int}, rn_Jq G M' N' n' K' → (∀ M2, rn_Jq G M2 N' n' K' → Q (some (rn_I xs0)) M2) → rn_WP 132 pc [rn_R 8, rn_I x, rn_I y, v3, v] [rn_I xs0] M' Q) → rl_k1 G N n K (fun r M1 => rn_WP 132 pc [rn_R 8, rn_I x, rn_I y, v3, v] (r.toList ++ []) M1 Q) :=
      fun w a N' M' ha J' => w J' (fun M2 J2 => k1 a N' M2 ha J2)
    refine rb_Lw_acts_17 J1 h3 ?_ ?_ ?_ ?_ ?_ ?_ ?_ ?_ ?_ ?_ ?_ ?_ ?_ ?_ ?_ ?_ ?_ ?_ ?_ ?_ ?_ ?_ ?_ ?_ ?_ ?_ ?_ ?_ ?_ ?_ ?_ ?_
      (fun _ M' J' => ia_place J' (k2 rb_Lw_acts_351) (k3 rb_Lw_acts_351))
      (fun _ M' J' => ia_addRiver J' (k2 rb_Lw_acts_147) (k3 rb_Lw_acts_147))
      (fun _ M' J' => ia_addTown J' (k2 rb_Lw_acts_184) (k3 rb_Lw_acts_184))
      (fun _ _ M' J' => ia_flow J' (k2 rb_Lw_acts_216) (k3 rb_Lw_acts_216)) (fun _ _ M' J' => ia_flow J' (k2 rb_Lw_acts_216) (k3 rb_Lw_acts_216))
      (fun _ _ M' J' => ia_flow J' (k2 rb_Lw_acts_216) (k3 rb_Lw_acts_216)) (fun _ _ M' J' => ia_flow J' (k2 rb_Lw_acts_216) (k3 rb_Lw_acts_216))
      (fun _ _ M' J' => ia_flow J' (k2 rb_Lw_acts_216) (k3 rb_Lw_acts_216)) (fun _ _ M' J' => ia_flow J' (k2 rb_Lw_acts_216) (k3 rb_Lw_acts_216))
      (fun _ _ M' J' => ia_flow J' (k2 rb_Lw_acts_216) (k3 rb_Lw_acts_216)) (fun _ _ M' J' => ia_flow J' (k2 rb_Lw_acts_216) (k3 rb_Lw_acts_216))
      (fun _ _ M' J' => ia_flow J' (k2 rb_Lw_acts_216) (k3 rb_Lw_acts_216)) (fun _ _ M' J' => ia_flow J' (k2 rb_Lw_acts_216) (k3 rb_Lw_acts_216))
      (fun _ _ M' J' => ia_flow J' (k2 rb_Lw_acts_216) (k3 rb_Lw_acts_216)) (fun _ _ M' J' => ia_flow J' (k2 rb_Lw_acts_216) (k3 rb_Lw_acts_216))
      (fun _ M' J' => ia_setRank J' (k2 rb_Lw_acts_232) (k3 rb_Lw_acts_232))
      (fun _ _ M' J' => ia_setHalo J' (k2 rb_Lw_acts_251) (k3 rb_Lw_acts_251))
      (fun _ _ M' J' => ia_setGap J' (k2 rb_Lw_acts_265) (k3 rb_Lw_acts_265))
      (fun _ _ M' J' => ia_setTownRank J' (k2 rb_Lw_acts_298) (k3 rb_Lw_acts_298)) (fun _ _ M' J' => ia_setTownRank J' (k2 rb_Lw_acts_298) (k3 rb_Lw_acts_298))
      (fun _ M' J' => ia_set J' (k2 rb_Lw_acts_312) (k3 rb_Lw_acts_312)) (fun _ M' J' => ia_set J' (k2 rb_Lw_acts_312) (k3 rb_Lw_acts_312))
      (fun _ M' J' => ia_set J' (k2 rb_Lw_acts_312) (k3 rb_Lw_acts_312)) (fun _ M' J' => ia_set J' (k2 rb_Lw_acts_312) (k3 rb_Lw_acts_312))
      (fun _ _ M' J' => ia_remove J' (k2 rb_Lw_acts_336) (k3 rb_Lw_acts_336)) (fun _ _ M' J' => ia_remove J' (k2 rb_Lw_acts_336) (k3 rb_Lw_acts_336))
      (fun _ M' J' => ia_tidy J' (k3 rb_Lw_acts_341)) <;> intros <;> omega
  refine re_Lw_acts (rb_Lw_acts_0 J (fun _ => by omega) (fun _ M1 J1 => go rfl J1) (fun _ M1 J1 => go rfl J1))
end LH
