/-! addTown; append and clearText -/
section TWN
variable {M : rn_M} {Q : rn_Q} {N : Nat → Int} {n : Int} {K : Nat → Nat → Int}
/-- nextTown and build on a board -/
theorem rs_build {b : Nat} {c x y w h k : Int} (p : rn_isB b) (c0 : 0 ≤ c ∧ c ≤ 9) : ∀ M', M' = rn_si (rn_si (rn_si (rn_si (rn_si (rn_si M b 1 (c + 1)) (b + 34 + c.toNat) 0 x) (b + 34 + c.toNat) 1 y) (b + 34 + c.toNat) 2 w) (b + 34 + c.toNat) 3 h) (b + 34 + c.toNat) 4 k →
    (∀ z, z ≠ b → z ≠ b + 34 + c.toNat → rn_gi M' z = rn_gi M z) ∧ (∀ z k, rn_gr M' z k = rn_gr M z k) ∧ M'.1 = M.1 ∧ (∀ j, j ≠ 1 → rn_gi M' b j = rn_gi M b j) ∧ rn_gi M' b 1 = c + 1 ∧
    rn_gi M' (b + 34 + c.toNat) 0 = x ∧ rn_gi M' (b + 34 + c.toNat) 1 = y ∧ rn_gi M' (b + 34 + c.toNat) 2 = w ∧ rn_gi M' (b + 34 + c.toNat) 3 = h ∧ rn_gi M' (b + 34 + c.toNat) 4 = k := by
  rintro M' rfl
  refine ⟨fun z h1 h2 => ?_, fun _ _ => rfl, rfl, fun j hj => ?_, ?_, ?_, ?_, ?_, ?_, ?_⟩
  · rw [rn_si_gif (by omega), rn_si_gif (by omega), rn_si_gif (by omega), rn_si_gif (by omega), rn_si_gif (by omega), rn_si_gif (by omega)]
  · rw [rn_si_gif (by omega), rn_si_gif (by omega), rn_si_gif (by omega), rn_si_gif (by omega), rn_si_gif (by omega), rn_si_ne (by omega)]
  · rw [rn_si_gif (by omega), rn_si_gif (by omega), rn_si_gif (by omega), rn_si_gif (by omega), rn_si_gif (by omega), rn_si_eq]
  · rw [rn_si_ne (by omega), rn_si_ne (by omega), rn_si_ne (by omega), rn_si_ne (by omega), rn_si_eq]
  · rw [rn_si_ne (by omega), rn_si_ne (by omega), rn_si_ne (by omega), rn_si_eq]
  · rw [rn_si_ne (by omega), rn_si_ne (by omega), rn_si_eq]
  · rw [rn_si_ne (by omega), rn_si_eq]
  · rw [rn_si_eq]
def rn_tg (x y w h k : Int) : Prop := ((0 ≤ x ∧ x < 60) ∧ 0 ≤ y ∧ y < 40) ∧ (1 ≤ w ∧ w ≤ 12) ∧ (1 ≤ h ∧ h ≤ 3) ∧ (x + w ≤ 60 ∧ y + h ≤ 40) ∧ 1 ≤ k ∧ k ≤ 9
theorem rq_addTown (hM : rn_sh M) (h : rn_Cs M N n K) {x y w hh r : Int} (k0 : ¬ rn_tg x y w hh r → Q (some (rn_I (-1))) M)
    (k1 : rn_tg x y w hh r → N 1 = 10 → ∀ M', rn_fc M M' → rn_sh M' → rn_Cs M' N n K → Q (some (rn_I (-3))) M')
    (k2 : rn_tg x y w hh r → N 1 ≠ 10 → ∀ M', rn_fc M M' → rn_sh M' → rn_Cs M' (rn_at5 N x y w hh r) (min (n + 1) 5) (rn_nK n K N) → Q (some (rn_I (N 1))) M') : rn_ME 95 [rn_R 8, rn_I x, rn_I y, rn_I w, rn_I hh, rn_I r] M Q := by
  unfold rn_tg at *
  refine re_RN_addTown (rb_RN_addTown_0 hM ?_ ?_ ?_ ?_ ?_ ?_ ?_)
  · intro _ _ _ _; omega
  · intro c; exact k0 (fun z => c z.1)
  · intro _ c; exact k0 (fun z => c z.2.1)
  · intro _ _ c; exact k0 (fun z => c z.2.2.1)
  · intro _ _ _ c; exact k0 (fun z => c z.2.2.2.2)
  · intro _ _ _ _ c; exact k0 (fun z => c (by omega))
  · intro c1 c2 c3 c4 c5
    refine rs_draft hM h (fun M1 pr dr kp f1 s1 h1 p wd rp => ?_)
    have bd := rn_bdB p
    have v := h1.2.2.1
    have v1 := v.2.1
    refine rb_RN_addTown_62 s1 p (rs_nextTown s1 p (c := N 1) rp.1.2.1 (fun c => ?_) (fun c => rb_RN_addTown_69n (k1 (by omega) (by omega) M1 f1 s1 (rn_Cs_of h1))))
    have pt : rn_isT (dr + 34 + (N 1).toNat) := rn_isT_of p (by omega)
    refine rb_RN_addTown_69s (rn_sh_si s1) pt (re_To_build (rb_To_build_0 (rn_sh_si s1) pt ?_))
    have fx := rs_build (M := M1) (x := x) (y := y) (w := w) (h := hh) (k := r) p c _ rfl
    generalize rn_si (rn_si (rn_si (rn_si (rn_si (rn_si M1 dr 1 (N 1 + 1)) (dr + 34 + (N 1).toNat) 0 x) (dr + 34 + (N 1).toNat) 1 y) (dr + 34 + (N 1).toNat) 2 w) (dr + 34 + (N 1).toNat) 3 hh) (dr + 34 + (N 1).toNat) 4 r = M2 at *
    obtain ⟨a1, a2, a3, a4, a5, a6⟩ := fx
    have s2 : rn_sh M2 := rn_sh_rf (M := M1) a3 (fun x k _ _ _ _ => a2 x k) s1
    have r2 := rn_Rp_at5 p rp v c.2 a1 a2 a4 a5 a6
    have v2 := rn_at5_vd (x := x) (y := y) (w := w) (h := hh) (k := r) v c.2 (by omega)
    have cb : rn_cb dr M1 M2 := ⟨a3, fun z hz => ⟨a1 z (by omega) (by omega), fun k => a2 z k⟩⟩
    refine rb_RN_addTown_91 s2 (rs_enter s2 h1 (rn_cj_cb cb) (rn_Bw_eq (M := M1) (fun i hi => by rw [a1 _ (by omega) (by omega)]) (fun k => a2 _ k) wd) r2 v2 (fun M' f2 s3 c6 g => ?_))
    have e : rn_gi M' dr 1 = N 1 + 1 := by rw [g]; exact a5
    refine rb_RN_addTown_98 s3 p (by omega) ?_
    rw [e, show N 1 + 1 - 1 = N 1 by omega]
    exact k2 (by omega) (by omega) M' (rn_fc_tr f1 (rn_fc_tr (rn_fc_cj p (rn_cj_cb cb)) f2)) s3 c6
end TWN
