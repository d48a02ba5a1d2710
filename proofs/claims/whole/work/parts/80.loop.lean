/-! the law's loop -/
section LOP
variable {Q : rn_Q} {L : Nat}
theorem rn_TT_sg {M : rn_M} (t : rn_Tx M) : rn_TT (rn_sg M) (rn_gi M 10 0) := by
  refine ⟨t.1, fun i i0 i1 => ?_, fun i hi => ?_⟩
  · have := (t.2.2 i i0 i1).2
    unfold rn_sg
    rw [if_pos (by omega)]; exact this
  · unfold rn_sg; rw [if_neg (by omega)]
theorem rn_TM_sg {M M1 : rn_M} (t : rn_Tx M) (f : rn_fg M M1) : rn_TM M1 (rn_sg M) (rn_gi M 10 0) := by
  refine ⟨by rw [(f.2 466 (by omega)).1]; exact t.2.1, fun i i0 i1 => ?_⟩
  rw [(f.2 469 (by omega)).1, (t.2.2 i i0 i1).1]
  unfold rn_sg; rw [if_pos (by omega)]
set_option maxHeartbeats 4000000 in
theorem rn_loop (hQ : ∀ M, Q (some (rn_I 1)) M) : ∀ (m : Nat) (i : Int) (M : rn_M) (N : Nat → Int) (n : Int) (K : Nat → Nat → Int) (B : Int), (L : Int) - i ≤ 6 * m + 5 → 0 ≤ i → (L : Int) ≤ 100000 → rn_Iv M L N n K B → B ≤ 1000000000 - 20000 * m → rn_WP 215 18 [rn_R 0, rn_R 8, rn_R 466, rn_I i] [] M Q := by
  intro m
  induction m with
  | zero =>
    intro i M N n K B hm i0 hL iv hB
    obtain ⟨hM, st, cs, ms, tx, fa, wr, wt⟩ := id iv
    refine rb_Lw_law_18 hM fa ?_ ?_ ?_ ?_ ?_ ?_ ?_ ?_ ?_ ?_ ?_ ?_ ?_ ?_ ?_ ?_ ?_ ?_ ?_ ?_ ?_ ?_ ?_ ?_ ?_ ?_ ?_ ?_ ?_ ?_ ?_ ?_ ?_ ?_ ?_ ?_ ?_ ?_ ?_ ?_ ?_ ?_ ?_ ?_ ?_ ?_ ?_ ?_ ?_ ?_ ?_ ?_ ?_ ?_ ?_
    all_goals first | (intros; omega) | (intros; exact hQ M) | (intros; exfalso; omega)
  | succ m ih =>
    intro i M N n K B hm i0 hL iv hB
    obtain ⟨hM, st, cs, ms, tx, fa, wr, wt⟩ := id iv
    obtain ⟨v, n0⟩ := rn_Cs_vd cs
    have hB1 : B ≤ 1000000000 := by omega
    have nxt : ∀ {M2 : rn_M} {N' : Nat → Int} {n' : Int} {K' : Nat → Nat → Int} {B' : Int}, rn_Iv M2 L N' n' K' B' → B' ≤ B + 20000 → rn_WP 215 18 [rn_R 0, rn_R 8, rn_R 466, rn_I (i + 6)] [] M2 Q := fun iv2 hb => ih (i + 6) _ _ _ _ _ (by omega) (by omega) hL iv2 (by omega)
    have fin : ∀ {M1 M2 : rn_M} {N' : Nat → Int} {n' : Int} {K' : Nat → Nat → Int} {B' : Int}, rn_fc M M1 → rn_sh M1 → rn_Cs M1 N' n' K' → rn_fm M1 M2 → rn_Ms M2 N' n' K' B' → B' ≤ B + 20000 → rn_WP 215 18 [rn_R 0, rn_R 8, rn_R 466, rn_I (i + 6)] [] M2 Q := fun f1 s1 c1 f2 m2 hb => nxt (rn_Iv_step iv f1 s1 c1 f2 m2) hb
    have ms1 : ∀ {M1 : rn_M}, rn_fc M M1 → rn_Ms M1 N n K B := fun f1 => rn_Ms_fg (rn_fg_fc f1) ms
    have e0 : ∀ {M1 : rn_M}, rn_fc M M1 → rn_gi M1 0 = rn_gi M 0 := fun f1 => (f1.2 0 (by omega)).1
    have fa1 : ∀ {M1 : rn_M}, rn_fc M M1 → rn_fa M1 0 L := fun f1 => rn_fa_kp (rn_kp_fc f1) fa
    have c5 : ∀ {M1 : rn_M}, rn_ch rn_P5 M M1 → rn_Cs M1 N n K := fun c1 => rn_Cs_ch (fun a q1 q2 z => by unfold rn_P5 at z; omega) c1 cs
    refine rb_Lw_law_18 hM fa ?_ ?_ ?_ ?_ ?_ ?_ ?_ ?_ ?_ ?_ ?_ ?_ ?_ ?_ ?_ ?_ ?_ ?_ ?_ ?_ ?_ ?_ ?_ ?_ ?_ ?_ ?_ ?_ ?_ ?_ ?_ ?_ ?_ ?_ ?_ ?_ ?_ ?_ ?_ ?_ ?_ ?_ ?_ ?_ ?_ ?_ ?_ ?_ ?_ ?_ ?_ ?_ ?_ ?_ ?_
    all_goals first | (intros; omega) | skip
    · intro _; exact hQ M
    · intro _ _; exact nxt iv (by omega)
    · intro c0 _
      refine rq_append hM tx.1 (fun c => ?_) (fun c c2 => ?_) (fun c c2 => ?_)
      · exact rb_Lw_law_165 hM fa (by omega) (rp_append hM (by rw [tx.2.1]; exact tx.1) (fun _ => rb_Lw_law_174 (fun _ => by omega) (fun _ => nxt iv (by omega)) (fun z => absurd rfl z)) (fun z => absurd z c) (fun z => absurd z c))
      · exact rb_Lw_law_165 hM fa (by omega) (rp_append hM (by rw [tx.2.1]; exact tx.1) (fun z => absurd c z) (fun _ _ => rb_Lw_law_174 (fun _ => by omega) (fun _ => nxt iv (by omega)) (fun z => absurd rfl z)) (fun _ z => absurd (tx.2.1.trans c2) z))
      · have cA : rn_ch (fun a => a = 10 ∨ a = 11) M (rn_si (rn_si M 11 (rn_gi M 10 0).toNat (rn_gi M 0 (i + 1).toNat)) 10 0 (rn_gi M 10 0 + 1)) := rn_ch_tr (rn_ch_si (Or.inr rfl)) (rn_ch_si (Or.inl rfl))
        have a10 : rn_gi (rn_si (rn_si M 11 (rn_gi M 10 0).toNat (rn_gi M 0 (i + 1).toNat)) 10 0 (rn_gi M 10 0 + 1)) 10 0 = rn_gi M 10 0 + 1 := rn_si_eq
        have a11 : rn_gi (rn_si (rn_si M 11 (rn_gi M 10 0).toNat (rn_gi M 0 (i + 1).toNat)) 10 0 (rn_gi M 10 0 + 1)) 11 = rn_up (rn_gi M 11) (rn_gi M 10 0).toNat (rn_gi M 0 (i + 1).toNat) := by rw [rn_si_gif (by omega), rn_si_up]
        generalize rn_si (rn_si M 11 (rn_gi M 10 0).toNat (rn_gi M 0 (i + 1).toNat)) 10 0 (rn_gi M 10 0 + 1) = MA at *
        have sA := rn_sh_ch cA hM
        have kA : rn_kp M MA := rn_kp_ch (fun x hx z => by omega) cA
        have gA : ∀ a, 466 ≤ a → rn_gi MA a = rn_gi M a := fun a ha => cA.2.2 a (by omega)
        refine rb_Lw_law_165 sA (rn_fa_kp kA fa) (by omega) ?_
        rw [cA.2.2 0 (by omega)]
        have eA : rn_gi MA 466 4 = rn_gi M 10 0 := by rw [gA 466 (by omega)]; exact tx.2.1
        refine rp_append sA (by rw [eA]; exact tx.1) (fun z => absurd c z) (fun _ z => absurd (eA.symm.trans z) c2) (fun _ _ => ?_)
        rw [eA]
        refine rb_Lw_law_174 (fun _ => by omega) (fun _ => ?_) (fun z => absurd rfl z)
        have cB : rn_ch (fun a => a = 466 ∨ a = 469) MA (rn_si (rn_si MA 469 (rn_gi M 10 0).toNat (rn_gi M 0 (i + 1).toNat)) 466 4 (rn_gi M 10 0 + 1)) := rn_ch_tr (rn_ch_si (Or.inr rfl)) (rn_ch_si (Or.inl rfl))
        have b4 : rn_gi (rn_si (rn_si MA 469 (rn_gi M 10 0).toNat (rn_gi M 0 (i + 1).toNat)) 466 4 (rn_gi M 10 0 + 1)) 466 4 = rn_gi M 10 0 + 1 := rn_si_eq
        have bj : ∀ j, j ≠ 4 → rn_gi (rn_si (rn_si MA 469 (rn_gi M 10 0).toNat (rn_gi M 0 (i + 1).toNat)) 466 4 (rn_gi M 10 0 + 1)) 466 j = rn_gi M 466 j := fun j hj => by rw [rn_si_ne (by omega), rn_si_gif (by omega), gA 466 (by omega)]
        have b69 : rn_gi (rn_si (rn_si MA 469 (rn_gi M 10 0).toNat (rn_gi M 0 (i + 1).toNat)) 466 4 (rn_gi M 10 0 + 1)) 469 = rn_up (rn_gi M 469) (rn_gi M 10 0).toNat (rn_gi M 0 (i + 1).toNat) := by rw [rn_si_gif (by omega), rn_si_up, gA 469 (by omega)]
        generalize rn_si (rn_si MA 469 (rn_gi M 10 0).toNat (rn_gi M 0 (i + 1).toNat)) 466 4 (rn_gi M 10 0 + 1) = MB at *
        have kB := rn_kp_tr kA (rn_kp_ch (fun x hx z => by omega) cB)
        have gB : ∀ a, a = 467 ∨ a = 468 ∨ a = 472 → rn_gi MB a = rn_gi M a := fun a ha => (cB.2.2 a (by omega)).trans (gA a (by omega))
        have mB : rn_Ms MB N n K B := by
          obtain ⟨h1, h2, h3, h4⟩ := ms
          refine ⟨(gB 467 (by omega)).trans h1, (bj 2 (by omega)).trans h2, fun i hi j hj => by rw [gB 468 (by omega)]; exact h3 i hi j hj, ?_⟩
          unfold rn_ma; rw [gB 472 (by omega), bj 8 (by omega)]; exact h4
        have e10 : rn_gi MB 10 0 = rn_gi M 10 0 + 1 := by rw [cB.2.2 10 (by omega)]; exact a10
        have e11 : rn_gi MB 11 = rn_up (rn_gi M 11) (rn_gi M 10 0).toNat (rn_gi M 0 (i + 1).toNat) := by rw [cB.2.2 11 (by omega)]; exact a11
        have t1 := tx.1
        refine nxt (B' := B) ⟨rn_sh_ch cB sA, rn_St_kp kB st, rn_Cs_ch (fun a q1 q2 z => by omega) cB (rn_Cs_ch (fun a q1 q2 z => by omega) cA cs), mB, ⟨by omega, by omega, fun j j0 j1 => ?_⟩, rn_fa_kp kB fa, rn_wrd_kp wr kB (by omega) (by omega), rn_wrd_kp wt kB (by omega) (by omega)⟩ (by omega)
        rw [b69, e11]
        by_cases q : j.toNat = (rn_gi M 10 0).toNat
        · rw [q, rn_up_eq, rn_up_eq]; exact ⟨rfl, c⟩
        · rw [rn_up_ne q, rn_up_ne q]; exact tx.2.2 j j0 (by omega)
    · intro c0 _
      refine rq_clearText hM ?_
      have cA : rn_ch (fun a => a = 10) M (rn_si M 10 0 0) := rn_ch_si rfl
      have a10 : rn_gi (rn_si M 10 0 0) 10 0 = 0 := rn_si_eq
      generalize rn_si M 10 0 0 = MA at *
      have sA := rn_sh_ch cA hM
      have kA : rn_kp M MA := rn_kp_ch (fun x hx z => by omega) cA
      have gA : ∀ a, 466 ≤ a → rn_gi MA a = rn_gi M a := fun a ha => cA.2.2 a (by omega)
      refine rb_Lw_law_183 sA (rp_clearText sA ?_)
      rw [gA 466 (by omega), tx.2.1]
      refine rb_Lw_law_187 (fun _ => by omega) (fun _ => ?_) (fun z => absurd rfl z)
      have cB : rn_ch (fun a => a = 466) MA (rn_si MA 466 4 0) := rn_ch_si rfl
      have b4 : rn_gi (rn_si MA 466 4 0) 466 4 = 0 := rn_si_eq
      have bj : ∀ j, j ≠ 4 → rn_gi (rn_si MA 466 4 0) 466 j = rn_gi M 466 j := fun j hj => by rw [rn_si_ne (by omega), gA 466 (by omega)]
      generalize rn_si MA 466 4 0 = MB at *
      have kB := rn_kp_tr kA (rn_kp_ch (fun x hx z => by omega) cB)
      have gB : ∀ a, a = 467 ∨ a = 468 ∨ a = 472 → rn_gi MB a = rn_gi M a := fun a ha => (cB.2.2 a (by omega)).trans (gA a (by omega))
      have mB : rn_Ms MB N n K B := by
        obtain ⟨h1, h2, h3, h4⟩ := ms
        refine ⟨(gB 467 (by omega)).trans h1, (bj 2 (by omega)).trans h2, fun i hi j hj => by rw [gB 468 (by omega)]; exact h3 i hi j hj, ?_⟩
        unfold rn_ma; rw [gB 472 (by omega), bj 8 (by omega)]; exact h4
      have e10 : rn_gi MB 10 0 = 0 := by rw [cB.2.2 10 (by omega)]; exact a10
      exact nxt (B' := B) ⟨rn_sh_ch cB sA, rn_St_kp kB st, rn_Cs_ch (fun a q1 q2 z => by omega) cB (rn_Cs_ch (fun a q1 q2 z => by omega) cA cs), mB, ⟨by omega, by omega, fun j j0 j1 => by omega⟩, rn_fa_kp kB fa, rn_wrd_kp wr kB (by omega) (by omega), rn_wrd_kp wt kB (by omega) (by omega)⟩ (by omega)
    · intro c0 _
      refine rq_load hM st (rn_TT_sg tx) ⟨rfl, fun _ => rfl⟩ wr wt cs (fun ca M1 f1 s1 c1 z10 => ?_) (fun ca M1 f1 s1 c1 z10 => ?_)
      · have k1 := rn_kp_fg f1
        refine rb_Lw_law_196 s1 (rp_load s1 (rn_TT_sg tx) (rn_TM_sg tx f1) (rn_Ms_fg f1 ms) v n0 (fun _ M2 f2 z4 r2 m2 => ?_) (fun z => by omega))
        refine rb_Lw_law_200 (fun _ => by omega) (fun _ => ?_) (fun z => absurd rfl z)
        have kk := rn_kp_tr k1 (rn_kp_ch (fun x hx z => by omega) f2)
        have e10 : rn_gi M2 10 0 = 0 := by rw [f2.2.2 10 (by omega)]; exact z10
        exact nxt ⟨rn_sh_ch f2 s1, rn_St_kp kk st, rn_Cs_62 r2 (rn_Cs_ch (fun a q1 q2 z => by omega) f2 c1), m2, ⟨by omega, by omega, fun j j0 j1 => by omega⟩, rn_fa_kp kk fa, rn_wrd_kp wr kk (by omega) (by omega), rn_wrd_kp wt kk (by omega) (by omega)⟩ (by omega)
      · have k1 := rn_kp_fg f1
        refine rb_Lw_law_196 s1 (rp_load s1 (rn_TT_sg tx) (rn_TM_sg tx f1) (rn_Ms_fg f1 ms) v n0 (fun z => by omega) (fun _ M2 f2 z69 z4 r2 m2 => ?_))
        refine rb_Lw_law_200 (fun _ => by omega) (fun _ => ?_) (fun z => absurd rfl z)
        have kk := rn_kp_tr k1 (rn_kp_ch (fun x hx z => by omega) f2)
        have e10 : rn_gi M2 10 = rn_gi M 10 := by rw [f2.2.2 10 (by omega)]; exact z10
        have e11 : rn_gi M2 11 = rn_gi M 11 := by rw [f2.2.2 11 (by omega)]; exact (f1.2 11 (by omega)).1
        have e69 : rn_gi M2 469 = rn_gi M 469 := z69.trans (f1.2 469 (by omega)).1
        have e4 : rn_gi M2 466 4 = rn_gi M 466 4 := by rw [z4, (f1.2 466 (by omega)).1]
        refine nxt ⟨rn_sh_ch f2 s1, rn_St_kp kk st, rn_Cs_62 r2 (rn_Cs_ch (fun a q1 q2 z => by omega) f2 c1), m2, ?_, rn_fa_kp kk fa, rn_wrd_kp wr kk (by omega) (by omega), rn_wrd_kp wt kk (by omega) (by omega)⟩ (by omega)
        unfold rn_Tx
        rw [e10, e11, e69, e4]; exact tx
    · intro c0 _
      refine rq_addRiver hM cs (fun c => ?_) (fun c c2 M1 f1 s1 c1 => ?_) (fun c c2 M1 f1 s1 c1 => ?_)
      · have f1 : rn_fc M M := rn_fc_rf
        have s1 := hM
        have c1 := cs
        exact rb_Lw_law_234 s1 (fa1 f1) (by omega) (rp_addRiver s1 (ms1 f1) v n0 (fun _ => rb_Lw_law_263 (fun _ => by omega) (fun _ => fin f1 s1 c1 rn_fm_rf (ms1 f1) (by omega)) (fun z => absurd rfl z)) (fun z => absurd z c) (fun z => absurd z c))
      · exact rb_Lw_law_234 s1 (fa1 f1) (by omega) (by rw [e0 f1]; exact rp_addRiver s1 (ms1 f1) v n0 (fun z => absurd c z) (fun _ _ => rb_Lw_law_263 (fun _ => by omega) (fun _ => fin f1 s1 c1 rn_fm_rf (ms1 f1) (by omega)) (fun z => absurd rfl z)) (fun _ z => absurd c2 z))
      · exact rb_Lw_law_234 s1 (fa1 f1) (by omega) (by rw [e0 f1]; exact rp_addRiver s1 (ms1 f1) v n0 (fun z => absurd c z) (fun _ z => absurd z c2) (fun _ _ M2 f2 m2 => rb_Lw_law_263 (fun _ => by omega) (fun _ => fin f1 s1 c1 f2 m2 (by omega)) (fun z => absurd rfl z)))
    · intro c0 _
      refine rq_addTown hM cs (fun c => ?_) (fun c c2 M1 f1 s1 c1 => ?_) (fun c c2 M1 f1 s1 c1 => ?_)
      · have f1 : rn_fc M M := rn_fc_rf
        have s1 := hM
        have c1 := cs
        exact rb_Lw_law_297 s1 (fa1 f1) (by omega) (rp_addTown s1 (ms1 f1) v n0 (fun _ => rb_Lw_law_326 (fun _ => by omega) (fun _ => fin f1 s1 c1 rn_fm_rf (ms1 f1) (by omega)) (fun z => absurd rfl z)) (fun z => absurd z c) (fun z => absurd z c))
      · exact rb_Lw_law_297 s1 (fa1 f1) (by omega) (by rw [e0 f1]; exact rp_addTown s1 (ms1 f1) v n0 (fun z => absurd c z) (fun _ _ => rb_Lw_law_326 (fun _ => by omega) (fun _ => fin f1 s1 c1 rn_fm_rf (ms1 f1) (by omega)) (fun z => absurd rfl z)) (fun _ z => absurd c2 z))
      · exact rb_Lw_law_297 s1 (fa1 f1) (by omega) (by rw [e0 f1]; exact rp_addTown s1 (ms1 f1) v n0 (fun z => absurd c z) (fun _ z => absurd z c2) (fun _ _ M2 f2 m2 => rb_Lw_law_326 (fun _ => by omega) (fun _ => fin f1 s1 c1 f2 m2 (by omega)) (fun z => absurd rfl z)))
    · intro c0 _
      refine rq_flow hM st cs (fun c M1 f1 s1 c1 => ?_) (fun c c2 M1 f1 s1 c1 => ?_) (fun c c2 c3 M1 f1 s1 c1 => ?_) (fun c c2 c3 M1 f1 s1 c1 => ?_)
      · exact rb_Lw_law_345 s1 (fa1 f1) (by omega) (by rw [e0 f1]; exact rp_flow s1 (ms1 f1) v n0 (fun _ M2 f2 m2 => rb_Lw_law_359 (fun _ => by omega) (fun _ => fin f1 s1 c1 f2 m2 (by omega)) (fun z => absurd rfl z)) (fun z => absurd z c) (fun z => absurd z c) (fun z => absurd z c))
      · exact rb_Lw_law_345 s1 (fa1 f1) (by omega) (by rw [e0 f1]; exact rp_flow s1 (ms1 f1) v n0 (fun z => absurd c z) (fun _ _ M2 f2 m2 => rb_Lw_law_359 (fun _ => by omega) (fun _ => fin f1 s1 c1 f2 m2 (by omega)) (fun z => absurd rfl z)) (fun _ z => absurd z c2) (fun _ z => absurd z c2))
      · exact rb_Lw_law_345 s1 (fa1 f1) (by omega) (by rw [e0 f1]; exact rp_flow s1 (ms1 f1) v n0 (fun z => absurd c z) (fun _ z => absurd c2 z) (fun _ _ _ M2 f2 m2 => rb_Lw_law_359 (fun _ => by omega) (fun _ => fin f1 s1 c1 f2 m2 (by omega)) (fun z => absurd rfl z)) (fun _ _ z => absurd c3 z))
      · exact rb_Lw_law_345 s1 (fa1 f1) (by omega) (by rw [e0 f1]; exact rp_flow s1 (ms1 f1) v n0 (fun z => absurd c z) (fun _ z => absurd c2 z) (fun _ _ z => absurd z c3) (fun _ _ _ M2 f2 m2 => rb_Lw_law_359 (fun _ => by omega) (fun _ => fin f1 s1 c1 f2 m2 (by omega)) (fun z => absurd rfl z)))
    · intro c0 _
      refine rq_setRank hM cs (fun c M1 f1 s1 c1 => ?_) (fun c M1 f1 s1 c1 => ?_)
      · exact rb_Lw_law_378 s1 (fa1 f1) (by omega) (by rw [e0 f1]; exact rp_setRank s1 (ms1 f1) v n0 (fun _ M2 f2 m2 => rb_Lw_law_392 (fun _ => by omega) (fun _ => fin f1 s1 c1 f2 m2 (by omega)) (fun z => absurd rfl z)) (fun z => absurd c z))
      · exact rb_Lw_law_378 s1 (fa1 f1) (by omega) (by rw [e0 f1]; exact rp_setRank s1 (ms1 f1) v n0 (fun z => absurd z c) (fun _ => rb_Lw_law_392 (fun _ => by omega) (fun _ => fin f1 s1 c1 rn_fm_rf (ms1 f1) (by omega)) (fun z => absurd rfl z)))
    · intro c0 _
      refine rq_setHalo hM cs (fun c M1 f1 s1 c1 => ?_) (fun c M1 f1 s1 c1 => ?_)
      · exact rb_Lw_law_411 s1 (fa1 f1) (by omega) (by rw [e0 f1]; exact rp_setHalo s1 (ms1 f1) v n0 (fun _ M2 f2 m2 => rb_Lw_law_425 (fun _ => by omega) (fun _ => fin f1 s1 c1 f2 m2 (by omega)) (fun z => absurd rfl z)) (fun z => absurd c z))
      · exact rb_Lw_law_411 s1 (fa1 f1) (by omega) (by rw [e0 f1]; exact rp_setHalo s1 (ms1 f1) v n0 (fun z => absurd z c) (fun _ => rb_Lw_law_425 (fun _ => by omega) (fun _ => fin f1 s1 c1 rn_fm_rf (ms1 f1) (by omega)) (fun z => absurd rfl z)))
    · intro c0 _
      refine rq_setTownRank hM cs (fun c M1 f1 s1 c1 => ?_) (fun c M1 f1 s1 c1 => ?_)
      · exact rb_Lw_law_444 s1 (fa1 f1) (by omega) (by rw [e0 f1]; exact rp_setTownRank s1 (ms1 f1) v n0 (fun _ M2 f2 m2 => rb_Lw_law_458 (fun _ => by omega) (fun _ => fin f1 s1 c1 f2 m2 (by omega)) (fun z => absurd rfl z)) (fun z => absurd c z))
      · exact rb_Lw_law_444 s1 (fa1 f1) (by omega) (by rw [e0 f1]; exact rp_setTownRank s1 (ms1 f1) v n0 (fun z => absurd z c) (fun _ => rb_Lw_law_458 (fun _ => by omega) (fun _ => fin f1 s1 c1 rn_fm_rf (ms1 f1) (by omega)) (fun z => absurd rfl z)))
    · intro c0 _
      refine rq_setGap hM cs (fun c M1 f1 s1 c1 => ?_) (fun c => ?_)
      · exact rb_Lw_law_472 s1 (fa1 f1) (by omega) (by rw [e0 f1]; exact rp_setGap s1 (ms1 f1) n0 (fun _ M2 f2 m2 => rb_Lw_law_481 (fun _ => by omega) (fun _ => fin f1 s1 c1 f2 m2 (by omega)) (fun z => absurd rfl z)) (fun z => absurd c z))
      · have f1 : rn_fc M M := rn_fc_rf
        have s1 := hM
        have c1 := cs
        exact rb_Lw_law_472 s1 (fa1 f1) (by omega) (rp_setGap s1 (ms1 f1) n0 (fun z => absurd z c) (fun _ => rb_Lw_law_481 (fun _ => by omega) (fun _ => fin f1 s1 c1 rn_fm_rf (ms1 f1) (by omega)) (fun z => absurd rfl z)))
    · intro c0 _
      refine rq_set hM cs (fun c M1 f1 s1 c1 => ?_) (fun c c2 M1 f1 s1 c1 => ?_) (fun c c2 c3 M1 f1 s1 c1 => ?_) (fun c c2 c3 M1 f1 s1 c1 => ?_)
      · exact rb_Lw_law_500 s1 (fa1 f1) (by omega) (by rw [e0 f1]; exact rp_set s1 (ms1 f1) v n0 hB1 (fun _ M2 f2 m2 => rb_Lw_law_514 (fun _ => by omega) (fun _ => fin f1 s1 c1 f2 m2 (by omega)) (fun z => absurd rfl z)) (fun z => absurd z c) (fun z => absurd z c) (fun z => absurd z c))
      · exact rb_Lw_law_500 s1 (fa1 f1) (by omega) (by rw [e0 f1]; exact rp_set s1 (ms1 f1) v n0 hB1 (fun z => absurd c z) (fun _ _ M2 f2 m2 => rb_Lw_law_514 (fun _ => by omega) (fun _ => fin f1 s1 c1 f2 m2 (by omega)) (fun z => absurd rfl z)) (fun _ z => absurd z c2) (fun _ z => absurd z c2))
      · exact rb_Lw_law_500 s1 (fa1 f1) (by omega) (by rw [e0 f1]; exact rp_set s1 (ms1 f1) v n0 hB1 (fun z => absurd c z) (fun _ z => absurd c2 z) (fun _ _ _ M2 f2 m2 => rb_Lw_law_514 (fun _ => by omega) (fun _ => fin f1 s1 c1 f2 m2 (by omega)) (fun z => absurd rfl z)) (fun _ _ z => absurd c3 z))
      · exact rb_Lw_law_500 s1 (fa1 f1) (by omega) (by rw [e0 f1]; exact rp_set s1 (ms1 f1) v n0 hB1 (fun z => absurd c z) (fun _ z => absurd c2 z) (fun _ _ z => absurd z c3) (fun _ _ _ M2 f2 m2 => rb_Lw_law_514 (fun _ => by omega) (fun _ => fin f1 s1 c1 f2 m2 (by omega)) (fun z => absurd rfl z)))
    · intro c0 _
      refine rq_remove hM cs (fun c M1 f1 s1 c1 => ?_) (fun c M1 f1 s1 c1 => ?_)
      · exact rb_Lw_law_528 s1 (fa1 f1) (by omega) (by rw [e0 f1]; exact rp_remove s1 (ms1 f1) v n0 (fun _ M2 f2 m2 => rb_Lw_law_537 (fun _ => by omega) (fun _ => fin f1 s1 c1 f2 m2 (by omega)) (fun z => absurd rfl z)) (fun z => absurd c z))
      · exact rb_Lw_law_528 s1 (fa1 f1) (by omega) (by rw [e0 f1]; exact rp_remove s1 (ms1 f1) v n0 (fun z => absurd z c) (fun _ => rb_Lw_law_537 (fun _ => by omega) (fun _ => fin f1 s1 c1 rn_fm_rf (ms1 f1) (by omega)) (fun z => absurd rfl z)))
    · intro c0 _
      refine rq_place hM cs (fun c M1 f1 s1 c1 => ?_) (fun c => ?_)
      · exact rb_Lw_law_551 s1 (fa1 f1) (by omega) (by rw [e0 f1]; exact rp_place s1 (ms1 f1) v n0 hB1 (fun _ M2 f2 m2 => rb_Lw_law_560 (fun _ => by omega) (fun _ => fin f1 s1 c1 f2 m2 (by omega)) (fun z => absurd rfl z)) (fun z => absurd c z))
      · have f1 : rn_fc M M := rn_fc_rf
        have s1 := hM
        have c1 := cs
        exact rb_Lw_law_551 s1 (fa1 f1) (by omega) (rp_place s1 (ms1 f1) v n0 hB1 (fun z => absurd z c) (fun _ => rb_Lw_law_560 (fun _ => by omega) (fun _ => fin f1 s1 c1 rn_fm_rf (ms1 f1) (by omega)) (fun z => absurd rfl z)))
    · intro c0 _
      refine rq_tidy hM cs (fun M1 f1 s1 c1 => ?_)
      exact rb_Lw_law_569 s1 (rp_tidy s1 (ms1 f1) v n0 hB1 (fun M2 f2 m2 => rb_Lw_law_573 (fun _ => by omega) (fun _ => fin f1 s1 c1 f2 m2 (by omega)) (fun z => absurd rfl z)))
    · intro c0 _
      refine rq_undo hM cs (fun c M1 f1 s1 c1 => ?_) (fun c => ?_)
      · exact rb_Lw_law_582 s1 (rp_undo s1 (ms1 f1) n0 (fun _ M2 f2 r2 m2 => rb_Lw_law_586 (fun _ => by omega) (fun _ => fin f1 s1 (rn_Cs_62 r2 c1) f2 m2 (by omega)) (fun z => absurd rfl z)) (fun z => by omega))
      · have f1 : rn_fc M M := rn_fc_rf
        have s1 := hM
        have c1 := cs
        exact rb_Lw_law_582 s1 (rp_undo s1 (ms1 f1) n0 (fun z => by omega) (fun _ => rb_Lw_law_586 (fun _ => by omega) (fun _ => fin f1 s1 c1 rn_fm_rf (ms1 f1) (by omega)) (fun z => absurd rfl z)))
    · intro c0 _
      refine rq_count hM cs (fun M1 ch1 => ?_)
      have f1 := rn_P5_fc ch1
      have s1 := rn_sh_ch ch1 hM
      have c1 := c5 ch1
      have e4 : rn_gi M1 466 4 = rn_gi M 10 0 := by rw [(f1.2 466 (by omega)).1]; exact tx.2.1
      exact rb_Lw_law_600 s1 (fa1 f1) (by omega) (by rw [e0 f1]; exact rp_count s1 (ms1 f1) v hB1 (fun M2 f2 m2 => by rw [e4]; exact rb_Lw_law_609 (fun _ => by omega) (fun _ => fin f1 s1 c1 f2 m2 (by omega)) (fun z => absurd rfl z)))
    · intro c0 _
      refine rq_river hM cs (fun M1 ch1 => ?_)
      have f1 := rn_P5_fc ch1
      have s1 := rn_sh_ch ch1 hM
      have c1 := c5 ch1
      exact rb_Lw_law_628 s1 (fa1 f1) (by omega) (by rw [e0 f1]; exact rp_river s1 (ms1 f1) v hB1 (fun M2 f2 m2 => rb_Lw_law_642 (fun _ => by omega) (fun _ => fin f1 s1 c1 f2 m2 (by omega)) (fun z => absurd rfl z)))
    · intro c0 _
      refine rq_cell hM cs ?_
      have f1 : rn_fc M M := rn_fc_rf
      have s1 := hM
      have c1 := cs
      exact rb_Lw_law_661 s1 (fa1 f1) (by omega) (rp_cell s1 (ms1 f1) v (fun M2 f2 m2 => rb_Lw_law_675 (fun _ => by omega) (fun _ => fin f1 s1 c1 f2 m2 (by omega)) (fun z => absurd rfl z)))
    · intro c0 _
      refine rq_letter hM cs ?_
      have f1 : rn_fc M M := rn_fc_rf
      have s1 := hM
      have c1 := cs
      exact rb_Lw_law_694 s1 (fa1 f1) (by omega) (rp_letter s1 (ms1 f1) v (fun M2 f2 m2 => rb_Lw_law_708 (fun _ => by omega) (fun _ => fin f1 s1 c1 f2 m2 (by omega)) (fun z => absurd rfl z)))
    · intro c0 _
      refine rq_town hM cs ?_
      have f1 : rn_fc M M := rn_fc_rf
      have s1 := hM
      have c1 := cs
      exact rb_Lw_law_727 s1 (fa1 f1) (by omega) (rp_town s1 (ms1 f1) v hB1 (fun M2 f2 m2 => rb_Lw_law_741 (fun _ => by omega) (fun _ => fin f1 s1 c1 f2 m2 (by omega)) (fun z => absurd rfl z)))
    · intro c0 _
      refine rq_label hM cs (fun M1 ch1 => ?_)
      have f1 := rn_P5_fc ch1
      have s1 := rn_sh_ch ch1 hM
      have c1 := c5 ch1
      exact rb_Lw_law_760 s1 (fa1 f1) (by omega) (by rw [e0 f1]; exact rp_label s1 (ms1 f1) v hB1 (fun M2 f2 m2 => rb_Lw_law_774 (fun _ => by omega) (fun _ => fin f1 s1 c1 f2 m2 (by omega)) (fun z => absurd rfl z)))
    · intro c0 _
      refine rq_written hM cs ?_
      have f1 : rn_fc M M := rn_fc_rf
      have s1 := hM
      have c1 := cs
      exact rb_Lw_law_793 s1 (fa1 f1) (by omega) (rp_written s1 (ms1 f1) v (fun M2 f2 m2 => rb_Lw_law_807 (fun _ => by omega) (fun _ => fin f1 s1 c1 f2 m2 (by omega)) (fun z => absurd rfl z)))
    · intro c0 _
      refine rq_bend hM cs ?_
      have f1 : rn_fc M M := rn_fc_rf
      have s1 := hM
      have c1 := cs
      exact rb_Lw_law_831 s1 (fa1 f1) (by omega) (rp_bend s1 (ms1 f1) v (fun M2 f2 m2 => rb_Lw_law_850 (fun _ => by omega) (fun _ => fin f1 s1 c1 f2 m2 (by omega)) (fun z => absurd rfl z)))
    · intro c0 _
      refine rq_straightest hM cs ?_
      have f1 : rn_fc M M := rn_fc_rf
      have s1 := hM
      have c1 := cs
      exact rb_Lw_law_869 s1 (fa1 f1) (by omega) (rp_straightest s1 (ms1 f1) v (fun M2 f2 m2 => rb_Lw_law_883 (fun _ => by omega) (fun _ => fin f1 s1 c1 f2 m2 (by omega)) (fun z => absurd rfl z)))
    · intro c0 _
      refine rq_reason hM cs ?_
      have f1 : rn_fc M M := rn_fc_rf
      have s1 := hM
      have c1 := cs
      exact rb_Lw_law_902 s1 (fa1 f1) (by omega) (rp_reason s1 (ms1 f1) v hB1 (fun M2 f2 m2 => rb_Lw_law_916 (fun _ => by omega) (fun _ => fin f1 s1 c1 f2 m2 (by omega)) (fun z => absurd rfl z)))
    · intro c0 _
      refine rq_best hM cs (fun M1 ch1 => ?_)
      have f1 := rn_P5_fc ch1
      have s1 := rn_sh_ch ch1 hM
      have c1 := c5 ch1
      exact rb_Lw_law_935 s1 (fa1 f1) (by omega) (by rw [e0 f1]; exact rp_best s1 (ms1 f1) v hB1 (fun M2 f2 m2 => rb_Lw_law_949 (fun _ => by omega) (fun _ => fin f1 s1 c1 f2 m2 (by omega)) (fun z => absurd rfl z)))
    · intro c0 _
      refine rq_rankFor hM cs (fun y M1 ch1 y1 y2 => ?_)
      have f1 := rn_P5_fc ch1
      have s1 := rn_sh_ch ch1 hM
      have c1 := c5 ch1
      refine rb_Lw_law_963 s1 (fa1 f1) (by omega) ?_
      rw [e0 f1]
      refine rp_rankFor s1 (ms1 f1) v hB1 (fun y' M2 f2 m2 z1 z2 => ?_)
      have ee : y = y' := by
        by_cases c : 0 ≤ rn_gi M 0 (i + 1).toNat ∧ rn_gi M 0 (i + 1).toNat < N 0
        · exact rn_lst_u (y1 c) (z1 c)
        · rw [y2 c, z2 c]
      exact rb_Lw_law_972 (fun _ => by omega) (fun _ => fin f1 s1 c1 f2 m2 (by omega)) (fun z => absurd ee z)
end LOP
