/-! boards grow; a copy of a board -/
def rn_nl (N : Nat → Int) (r s : Int) : Nat → Int := rn_up (rn_up (rn_up N (522 + 2 * N 2).toNat r) (523 + 2 * N 2).toNat s) 2 (N 2 + 1)
section BW
variable {M : rn_M} {Q : rn_Q} {b d : Nat} {N : Nat → Int}
theorem rn_Bw_eq {M M' : rn_M} (hi : ∀ i : Nat, i < 6 → rn_gi M' (b + 4 + 5 * i) 0 = rn_gi M (b + 4 + 5 * i) 0) (hr : ∀ k, rn_gr M' (b + 3) k = rn_gr M (b + 3) k) (hw : rn_Bw M b) : rn_Bw M' b :=
  ⟨fun i h => (hi i h).trans (hw.1 i h), by simp only [hr]; exact hw.2⟩
theorem rs_nextRiver (hM : rn_sh M) (p : rn_isB b) {c : Int} (hc : rn_gi M b 0 = c) (k1 : 0 ≤ c ∧ c ≤ 5 → Q (some (rn_R (b + 4 + 5 * c.toNat))) (rn_si (rn_si (rn_si M (b + 4 + 5 * c.toNat) 3 0) (b + 4 + 5 * c.toNat) 4 0) b 0 (c + 1))) (k2 : ¬ (0 ≤ c ∧ c ≤ 5) → Q (some rn_N) M) : rn_ME 8 [rn_R b] M Q := by
  refine re_Bo_nextRiver (rb_Bo_nextRiver_0 hM p ?_ ?_ ?_) <;> rw [hc]
  · omega
  · exact k2
  · intro z
    have pr : rn_isR (b + 4 + 5 * c.toNat) := rn_isR_of p (by omega)
    refine rs_forget hM pr ?_
    have e : rn_gi (rn_si (rn_si M (b + 4 + 5 * c.toNat) 3 0) (b + 4 + 5 * c.toNat) 4 0) b 0 = c := by
      rw [rn_si_gif (by omega), rn_si_gif (by omega)]; exact hc
    refine rb_Bo_nextRiver_32 ?_ p ?_ ?_
    · exact rn_sh_rf rfl (fun _ _ _ _ _ _ => rfl) hM
    · rw [e]; omega
    · rw [e]; exact k1 z
theorem rs_nextTown (hM : rn_sh M) (p : rn_isB b) {c : Int} (hc : rn_gi M b 1 = c) (k1 : 0 ≤ c ∧ c ≤ 9 → Q (some (rn_R (b + 34 + c.toNat))) (rn_si M b 1 (c + 1))) (k2 : ¬ (0 ≤ c ∧ c ≤ 9) → Q (some rn_N) M) : rn_ME 9 [rn_R b] M Q := by
  refine re_Bo_nextTown (rb_Bo_nextTown_0 hM p ?_ ?_ ?_) <;> rw [hc]
  · omega
  · exact k2
  · intro z
    rw [show c + 1 - 1 = c by omega]
    exact k1 z
theorem rs_copyRiver (hM : rn_sh M) (p : rn_isB d) (q : rn_isB b) (e : b ≠ d) (wb : rn_Bw M b) (wd : rn_Bw M d) (v : rn_vd N) (hb : rn_Rp M b N) {i : Int} (i0 : 0 ≤ i) (i1 : i < N 0) (hd : rn_Rp M d (rn_tr N i 0 0)) (k : ∀ M', rn_cb d M M' → rn_sh M' → rn_Bw M' d → rn_Rp M' d (rn_tr N (i + 1) 0 0) → Q none M') : rn_ME 2 [rn_R d, rn_R (b + 4 + 5 * i.toNat)] M Q := by
  have v0 := v.1
  have pr := rn_isR_i q v i0 i1
  have pa : rn_isR (d + 4 + 5 * i.toNat) := rn_isR_of p (by omega)
  have ne := rn_isB_ne q p e
  refine re_Bo_copyRiver (rb_Bo_copyRiver_0 hM p (rs_nextRiver hM p (c := i) hd.1.1 (fun _ => ?_) (fun c => by omega)))
  have c1 : rn_cb d M (rn_si (rn_si (rn_si M (d + 4 + 5 * i.toNat) 3 0) (d + 4 + 5 * i.toNat) 4 0) d 0 (i + 1)) := rn_cb_tr (rn_cb_tr (rn_cb_si (by omega)) (rn_cb_si (by omega))) (rn_cb_si (by omega))
  have s1 : rn_sh (rn_si (rn_si (rn_si M (d + 4 + 5 * i.toNat) 3 0) (d + 4 + 5 * i.toNat) 4 0) d 0 (i + 1)) := rn_sh_rf rfl (fun _ _ _ _ _ _ => rfl) hM
  have g0 : rn_gi (rn_si (rn_si (rn_si M (d + 4 + 5 * i.toNat) 3 0) (d + 4 + 5 * i.toNat) 4 0) d 0 (i + 1)) (d + 4 + 5 * i.toNat) 0 = rn_gi M (d + 4 + 5 * i.toNat) 0 := by
    rw [rn_si_gif (by omega), rn_si_ne (by omega), rn_si_ne (by omega)]
  have g1 : ∀ x, x ≠ d → x ≠ d + 4 + 5 * i.toNat → rn_gi (rn_si (rn_si (rn_si M (d + 4 + 5 * i.toNat) 3 0) (d + 4 + 5 * i.toNat) 4 0) d 0 (i + 1)) x = rn_gi M x := fun x h1 h2 => by
    rw [rn_si_gif (by omega), rn_si_gif (by omega), rn_si_gif (by omega)]
  have g2 : ∀ w, w ≠ 0 → rn_gi (rn_si (rn_si (rn_si M (d + 4 + 5 * i.toNat) 3 0) (d + 4 + 5 * i.toNat) 4 0) d 0 (i + 1)) d w = rn_gi M d w := fun w h1 => by
    rw [rn_si_ne (by omega), rn_si_gif (by omega), rn_si_gif (by omega)]
  have g3 : rn_gi (rn_si (rn_si (rn_si M (d + 4 + 5 * i.toNat) 3 0) (d + 4 + 5 * i.toNat) 4 0) d 0 (i + 1)) d 0 = i + 1 := rn_si_eq
  have gR : ∀ x k, rn_gr (rn_si (rn_si (rn_si M (d + 4 + 5 * i.toNat) 3 0) (d + 4 + 5 * i.toNat) 4 0) d 0 (i + 1)) x k = rn_gr M x k := fun _ _ => rfl
  generalize rn_si (rn_si (rn_si M (d + 4 + 5 * i.toNat) 3 0) (d + 4 + 5 * i.toNat) 4 0) d 0 (i + 1) = M1 at *
  have hb1 := rn_Rp_cb q p e c1 wb v hb
  refine rb_Bo_copyRiver_4ss s1 pa (rs_Ri_copyFrom s1 pa pr (by omega) (fun M2 c2 r2 z2 => rb_Bo_copyRiver_18 ?_))
  have cb2 : rn_cb d M1 M2 := rn_cb_ch c2 (fun a ha => by unfold rn_PR at ha; omega)
  have o2 : ∀ x, ¬ rn_PR (d + 4 + 5 * i.toNat) x → rn_gi M2 x = rn_gi M1 x := c2.2.2
  have f : ∀ x, x ≠ d → ¬ rn_PR (d + 4 + 5 * i.toNat) x → rn_gi M2 x = rn_gi M x := fun x h1 h2 => (o2 x h2).trans (g1 x h1 (fun z => h2 (by unfold rn_PR; omega)))
  refine k M2 (rn_cb_tr c1 cb2) (rn_sh_ch c2 s1) ?_ ?_
  · refine rn_Bw_eq (fun j hj => ?_) (fun x => ?_) wd
    · by_cases ej : j = i.toNat
      · rw [ej, z2, g0]
      · rw [f _ (by omega) (by unfold rn_PR; omega)]
    · exact (c2.2.1 _ _).trans (gR _ _)
  · obtain ⟨⟨q0, q1, q2, q3⟩, p2, p3, p4, p5⟩ := hd
    refine ⟨⟨?_, ?_, ?_, ?_⟩, fun r r0 r1 => ?_, fun r r0 r1 => ?_, fun t t0 t1 => ?_, fun l l0 l1 => ?_⟩
    · rw [o2 d (by unfold rn_PR; omega), g3]; rfl
    · rw [o2 d (by unfold rn_PR; omega), g2 1 (by omega)]; exact q1
    · rw [o2 d (by unfold rn_PR; omega), g2 2 (by omega)]; exact q2
    · rw [o2 d (by unfold rn_PR; omega), g2 3 (by omega)]; exact q3
    · by_cases ej : r = i
      · rw [ej, z2, g0]; exact p2 i i0 (by omega)
      · rw [f _ (by omega) (by unfold rn_PR; omega)]; exact p2 r r0 r1
    · have r1 : r < i + 1 := r1
      have vr := v.2.2.2.2.1 r r0 (by omega)
      refine rn_Rv_cg (rn_tr_eqR r0) vr ?_
      by_cases ej : r = i
      · rw [ej]; rw [ej] at vr; exact r2 N i vr (hb1.2.2.1 i i0 i1)
      · have := p3 r r0 (show r < i by omega)
        have := rn_Rv_cg (rn_tr_eqR' r0) (rn_vR_cg (rn_tr_eqR r0) vr) this
        exact rn_Rv_eq (f _ (by omega) (by unfold rn_PR; omega)) (f _ (by omega) (by unfold rn_PR; omega)) (f _ (by omega) (by unfold rn_PR; omega)) (f _ (by omega) (by unfold rn_PR; omega)) (f _ (by omega) (by unfold rn_PR; omega)) this
    · have t1 : t < 0 := t1
      omega
    · have l1 : l < 0 := l1
      omega
theorem rs_copyTown (hM : rn_sh M) (p : rn_isB d) (q : rn_isB b) (e : b ≠ d) (wb : rn_Bw M b) (wd : rn_Bw M d) (v : rn_vd N) (hb : rn_Rp M b N) {i : Int} (i0 : 0 ≤ i) (i1 : i < N 1) (hd : rn_Rp M d (rn_tr N (N 0) i 0)) (k : ∀ M', rn_cb d M M' → rn_sh M' → rn_Bw M' d → rn_Rp M' d (rn_tr N (N 0) (i + 1) 0) → Q none M') : rn_ME 3 [rn_R d, rn_R (b + 34 + i.toNat)] M Q := by
  have v0 := v.1
  have v1 := v.2.1
  have pr : rn_isT (b + 34 + i.toNat) := rn_isT_of q (by omega)
  have pa : rn_isT (d + 34 + i.toNat) := rn_isT_of p (by omega)
  have ne := rn_isB_ne q p e
  refine re_Bo_copyTown (rb_Bo_copyTown_0 hM p (rs_nextTown hM p (c := i) hd.1.2.1 (fun _ => ?_) (fun c => by omega)))
  have c1 : rn_cb d M (rn_si M d 1 (i + 1)) := rn_cb_si (by omega)
  have s1 : rn_sh (rn_si M d 1 (i + 1)) := rn_sh_rf rfl (fun _ _ _ _ _ _ => rfl) hM
  have ht := (rn_Rp_cb q p e c1 wb v hb).2.2.2.1 i i0 i1
  refine rb_Bo_copyTown_4ss s1 pa (re_To_copyFrom (rb_To_copyFrom_0 s1 pr pa (re_To_build (rb_To_build_0 s1 pa (rb_To_copyFrom_24 (rb_Bo_copyTown_18 ?_))))))
  have f : ∀ x, x ≠ d → x ≠ d + 34 + i.toNat → rn_gi (rn_si (rn_si (rn_si (rn_si (rn_si (rn_si M d 1 (i + 1)) (d + 34 + i.toNat) 0 (rn_gi (rn_si M d 1 (i + 1)) (b + 34 + i.toNat) 0)) (d + 34 + i.toNat) 1 (rn_gi (rn_si M d 1 (i + 1)) (b + 34 + i.toNat) 1)) (d + 34 + i.toNat) 2 (rn_gi (rn_si M d 1 (i + 1)) (b + 34 + i.toNat) 2)) (d + 34 + i.toNat) 3 (rn_gi (rn_si M d 1 (i + 1)) (b + 34 + i.toNat) 3)) (d + 34 + i.toNat) 4 (rn_gi (rn_si M d 1 (i + 1)) (b + 34 + i.toNat) 4)) x = rn_gi M x := fun x h1 h2 => by
    rw [rn_si_gif (by omega), rn_si_gif (by omega), rn_si_gif (by omega), rn_si_gif (by omega), rn_si_gif (by omega), rn_si_gif (by omega)]
  have g : rn_gi (rn_si (rn_si (rn_si (rn_si (rn_si (rn_si M d 1 (i + 1)) (d + 34 + i.toNat) 0 (rn_gi (rn_si M d 1 (i + 1)) (b + 34 + i.toNat) 0)) (d + 34 + i.toNat) 1 (rn_gi (rn_si M d 1 (i + 1)) (b + 34 + i.toNat) 1)) (d + 34 + i.toNat) 2 (rn_gi (rn_si M d 1 (i + 1)) (b + 34 + i.toNat) 2)) (d + 34 + i.toNat) 3 (rn_gi (rn_si M d 1 (i + 1)) (b + 34 + i.toNat) 3)) (d + 34 + i.toNat) 4 (rn_gi (rn_si M d 1 (i + 1)) (b + 34 + i.toNat) 4)) d = rn_gi (rn_si M d 1 (i + 1)) d := by
    rw [rn_si_gif (by omega), rn_si_gif (by omega), rn_si_gif (by omega), rn_si_gif (by omega), rn_si_gif (by omega)]
  have tw : rn_Tw (rn_si (rn_si (rn_si (rn_si (rn_si (rn_si M d 1 (i + 1)) (d + 34 + i.toNat) 0 (rn_gi (rn_si M d 1 (i + 1)) (b + 34 + i.toNat) 0)) (d + 34 + i.toNat) 1 (rn_gi (rn_si M d 1 (i + 1)) (b + 34 + i.toNat) 1)) (d + 34 + i.toNat) 2 (rn_gi (rn_si M d 1 (i + 1)) (b + 34 + i.toNat) 2)) (d + 34 + i.toNat) 3 (rn_gi (rn_si M d 1 (i + 1)) (b + 34 + i.toNat) 3)) (d + 34 + i.toNat) 4 (rn_gi (rn_si M d 1 (i + 1)) (b + 34 + i.toNat) 4)) (d + 34 + i.toNat) N i := by
    rw [ht.1, ht.2.1, ht.2.2.1, ht.2.2.2.1, ht.2.2.2.2]
    refine ⟨?_, ?_, ?_, ?_, ?_⟩
    · rw [rn_si_ne (by omega), rn_si_ne (by omega), rn_si_ne (by omega), rn_si_ne (by omega), rn_si_eq]
    · rw [rn_si_ne (by omega), rn_si_ne (by omega), rn_si_ne (by omega), rn_si_eq]
    · rw [rn_si_ne (by omega), rn_si_ne (by omega), rn_si_eq]
    · rw [rn_si_ne (by omega), rn_si_eq]
    · rw [rn_si_eq]
  have sh : rn_sh (rn_si (rn_si (rn_si (rn_si (rn_si (rn_si M d 1 (i + 1)) (d + 34 + i.toNat) 0 (rn_gi (rn_si M d 1 (i + 1)) (b + 34 + i.toNat) 0)) (d + 34 + i.toNat) 1 (rn_gi (rn_si M d 1 (i + 1)) (b + 34 + i.toNat) 1)) (d + 34 + i.toNat) 2 (rn_gi (rn_si M d 1 (i + 1)) (b + 34 + i.toNat) 2)) (d + 34 + i.toNat) 3 (rn_gi (rn_si M d 1 (i + 1)) (b + 34 + i.toNat) 3)) (d + 34 + i.toNat) 4 (rn_gi (rn_si M d 1 (i + 1)) (b + 34 + i.toNat) 4)) := rn_sh_rf rfl (fun _ _ _ _ _ _ => rfl) hM
  have cb : rn_cb d M (rn_si (rn_si (rn_si (rn_si (rn_si (rn_si M d 1 (i + 1)) (d + 34 + i.toNat) 0 (rn_gi (rn_si M d 1 (i + 1)) (b + 34 + i.toNat) 0)) (d + 34 + i.toNat) 1 (rn_gi (rn_si M d 1 (i + 1)) (b + 34 + i.toNat) 1)) (d + 34 + i.toNat) 2 (rn_gi (rn_si M d 1 (i + 1)) (b + 34 + i.toNat) 2)) (d + 34 + i.toNat) 3 (rn_gi (rn_si M d 1 (i + 1)) (b + 34 + i.toNat) 3)) (d + 34 + i.toNat) 4 (rn_gi (rn_si M d 1 (i + 1)) (b + 34 + i.toNat) 4)) := ⟨rfl, fun x hx => ⟨f x (by omega) (by omega), fun _ => rfl⟩⟩
  have gR : ∀ x k, rn_gr (rn_si (rn_si (rn_si (rn_si (rn_si (rn_si M d 1 (i + 1)) (d + 34 + i.toNat) 0 (rn_gi (rn_si M d 1 (i + 1)) (b + 34 + i.toNat) 0)) (d + 34 + i.toNat) 1 (rn_gi (rn_si M d 1 (i + 1)) (b + 34 + i.toNat) 1)) (d + 34 + i.toNat) 2 (rn_gi (rn_si M d 1 (i + 1)) (b + 34 + i.toNat) 2)) (d + 34 + i.toNat) 3 (rn_gi (rn_si M d 1 (i + 1)) (b + 34 + i.toNat) 3)) (d + 34 + i.toNat) 4 (rn_gi (rn_si M d 1 (i + 1)) (b + 34 + i.toNat) 4)) x k = rn_gr M x k := fun _ _ => rfl
  generalize rn_si (rn_si (rn_si (rn_si (rn_si (rn_si M d 1 (i + 1)) (d + 34 + i.toNat) 0 (rn_gi (rn_si M d 1 (i + 1)) (b + 34 + i.toNat) 0)) (d + 34 + i.toNat) 1 (rn_gi (rn_si M d 1 (i + 1)) (b + 34 + i.toNat) 1)) (d + 34 + i.toNat) 2 (rn_gi (rn_si M d 1 (i + 1)) (b + 34 + i.toNat) 2)) (d + 34 + i.toNat) 3 (rn_gi (rn_si M d 1 (i + 1)) (b + 34 + i.toNat) 3)) (d + 34 + i.toNat) 4 (rn_gi (rn_si M d 1 (i + 1)) (b + 34 + i.toNat) 4) = M2 at *
  refine k M2 cb sh (rn_Bw_eq (fun j hj => by rw [f _ (by omega) (by omega)]) (fun x => gR _ _) wd) ?_
  obtain ⟨⟨q0, q1, q2, q3⟩, p2, p3, p4, p5⟩ := hd
  refine ⟨⟨?_, ?_, ?_, ?_⟩, fun r r0 r1 => ?_, fun r r0 r1 => ?_, fun t t0 t1 => ?_, fun l l0 l1 => ?_⟩
  · rw [g, rn_si_ne (by omega)]; exact q0
  · rw [g, rn_si_eq]; rfl
  · rw [g, rn_si_ne (by omega)]; exact q2
  · rw [g, rn_si_ne (by omega)]; exact q3
  · rw [f _ (by omega) (by omega)]; exact p2 r r0 r1
  · have r1 : r < N 0 := r1
    have vr := v.2.2.2.2.1 r r0 (by omega)
    refine rn_Rv_cg (rn_tr_eqR r0) vr ?_
    have := rn_Rv_cg (rn_tr_eqR' r0) (rn_vR_cg (rn_tr_eqR r0) vr) (p3 r r0 r1)
    exact rn_Rv_eq (f _ (by omega) (by omega)) (f _ (by omega) (by omega)) (f _ (by omega) (by omega)) (f _ (by omega) (by omega)) (f _ (by omega) (by omega)) this
  · have t1 : t < i + 1 := t1
    unfold rn_Tw
    rw [rn_tr_tw t0 (by omega), rn_tr_tw t0 (by omega), rn_tr_tw t0 (by omega), rn_tr_tw t0 (by omega), rn_tr_tw t0 (by omega)]
    by_cases ej : t = i
    · rw [ej]; exact tw
    · have := p4 t t0 (show t < i by omega)
      unfold rn_Tw at this
      rw [rn_tr_tw t0 (by omega), rn_tr_tw t0 (by omega), rn_tr_tw t0 (by omega), rn_tr_tw t0 (by omega), rn_tr_tw t0 (by omega)] at this
      rw [f _ (by omega) (by omega)]
      exact this
  · have l1 : l < 0 := l1
    omega
end BW
