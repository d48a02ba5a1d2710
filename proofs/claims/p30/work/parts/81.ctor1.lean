/-! constructors: cells that come -/
theorem rn_alc {M : rn_M} {a f k n b : Nat} (hb : M.1.length = b) (ha : a < b) : (rn_sr (rn_nw M k n) a f (some M.1.length)).1 = M.1 ++ [(k, n)] ∧ (rn_sr (rn_nw M k n) a f (some M.1.length)).2.1.1 = M.2.1.1 - 1 ∧ (rn_sr (rn_nw M k n) a f (some M.1.length)).2.1.2 = M.2.1.2 - n ∧
    (∀ x, x < b → rn_gi (rn_sr (rn_nw M k n) a f (some M.1.length)) x = rn_gi M x) ∧ (∀ j, rn_gi (rn_sr (rn_nw M k n) a f (some M.1.length)) b j = 0) ∧ (∀ x j, x < b → ¬ (x = a ∧ j = f) → rn_gr (rn_sr (rn_nw M k n) a f (some M.1.length)) x j = rn_gr M x j) ∧ rn_gr (rn_sr (rn_nw M k n) a f (some M.1.length)) a f = some b ∧ rn_kd (rn_sr (rn_nw M k n) a f (some M.1.length)) a = rn_kd M a := by
  subst hb
  refine ⟨rfl, rfl, rfl, fun x hx => funext fun j => (rn_nw_gi (k := k) (n := n) hx j).1, fun j => (rn_nw_gn (M := M) (k := k) (n := n) j).1, fun x j hx hn => ?_, rn_sr_eq, (rn_nw_kd ha).1⟩
  rw [rn_sr_ne hn]; exact (rn_nw_gi (k := k) (n := n) hx j).2
section CT1
variable {M : rn_M} {Q : rn_Q}
set_option maxRecDepth 4000 in
theorem rs_La_init {a : Nat} {g : Option Nat} (hk : rn_kd M a = 4) (k : Q none (rn_sr M a 0 g)) : rn_ME 40 [rn_R a, .inr (.inl (some g))] M Q := by
  refine re_La_init ?_
  refine (rn_step (e := (.aload_n 0, 1, 0, 0, 0, 0, 0, [])) rfl).mpr ?_
  refine (rn_step (e := (.invokespecial 1, 4, 1000, 1, 168, 2, 0, [0])) rfl).mpr ?_
  refine (rn_step (e := (.aload_n 0, 5, 0, 0, 0, 0, 0, [])) rfl).mpr ?_
  refine (rn_step (e := (.aload_n 1, 6, 1, 0, 0, 0, 0, [])) rfl).mpr ?_
  refine (rn_step (e := (.putfield 7, 9, 3, 0, 169, 2, 4, [])) rfl).mpr (And.intro hk ?_)
  exact (rn_step (e := (.return_, 10, 0, 0, 0, 0, 0, [])) rfl).mpr k
set_option maxRecDepth 4000 in
theorem rs_Ri_init {a : Nat} {i : Int} (len0 : M.1.length = a + 1) (kk0 : rn_kd M a = 6) (hc : 4 ≤ M.2.1.1) (hs : 400 ≤ M.2.1.2) (k : ∀ M', M'.1 = M.1 ++ [(20, 12), (20, 60), (20, 61), (20, 61)] → (∀ x, x < a → rn_gi M' x = rn_gi M x ∧ ∀ j, rn_gr M' x j = rn_gr M x j) → rn_gi M' a 0 = i → (rn_gr M' a 5 = some (a + 1) ∧ rn_gr M' a 6 = some (a + 2) ∧ rn_gr M' a 7 = some (a + 3) ∧ rn_gr M' a 8 = some (a + 4)) → Q none M') : rn_ME 57 [rn_R a, rn_I i] M Q := by
  refine re_Ri_init ?_
  refine (rn_step (e := (.aload_n 0, 1, 0, 0, 0, 0, 0, [])) rfl).mpr ?_
  refine (rn_step (e := (.invokespecial 3, 4, 1000, 1, 94, 2, 0, [0])) rfl).mpr ?_
  refine (rn_step (e := (.aload_n 0, 5, 0, 0, 0, 0, 0, [])) rfl).mpr ?_
  refine (rn_step (e := (.bipush 12, 7, 0, 0, 0, 0, 0, [])) rfl).mpr ?_
  refine (rn_step (e := (.newarray .int, 9, 0, 0, 0, 0, 0, [])) rfl).mpr (And.intro (by decide) (And.intro (by decide) (And.intro (by omega) (And.intro (show 12 ≤ M.2.1.2 by omega) ?_))))
  refine (rn_step (e := (.putfield 9, 12, 5, 5, 114, 2, 6, [])) rfl).mpr (And.intro ((rn_nw_kd (M := M) (by omega)).1.trans kk0) ?_)
  show rn_WP 57 12 [rn_R a, rn_I i] [] (rn_sr (rn_nw M 20 12) a 5 (some M.1.length)) Q
  obtain ⟨l1, bc1, bs1, lo1, z1, g1, f1, k1⟩ := rn_alc (M := M) (a := a) (f := 5) (k := 20) (n := 12) (b := a + 1) len0 (by omega)
  generalize rn_sr (rn_nw M 20 12) a 5 (some M.1.length) = M1 at *
  have len1 : M1.1.length = a + 2 := by rw [l1, List.length_append, len0]; rfl
  have kk1 := k1.trans kk0
  refine (rn_step (e := (.aload_n 0, 13, 0, 0, 0, 0, 0, [])) rfl).mpr ?_
  refine (rn_step (e := (.bipush 60, 15, 0, 0, 0, 0, 0, [])) rfl).mpr ?_
  refine (rn_step (e := (.newarray .int, 17, 0, 0, 0, 0, 0, [])) rfl).mpr (And.intro (by decide) (And.intro (by decide) (And.intro (by omega) (And.intro (show 60 ≤ M1.2.1.2 by omega) ?_))))
  refine (rn_step (e := (.putfield 15, 20, 5, 6, 115, 2, 6, [])) rfl).mpr (And.intro ((rn_nw_kd (M := M1) (by omega)).1.trans kk1) ?_)
  show rn_WP 57 20 [rn_R a, rn_I i] [] (rn_sr (rn_nw M1 20 60) a 6 (some M1.1.length)) Q
  obtain ⟨l2, bc2, bs2, lo2, z2, g2, f2, k2⟩ := rn_alc (M := M1) (a := a) (f := 6) (k := 20) (n := 60) (b := a + 2) len1 (by omega)
  generalize rn_sr (rn_nw M1 20 60) a 6 (some M1.1.length) = M2 at *
  have len2 : M2.1.length = a + 3 := by rw [l2, List.length_append, len1]; rfl
  have kk2 := k2.trans kk1
  refine (rn_step (e := (.aload_n 0, 21, 0, 0, 0, 0, 0, [])) rfl).mpr ?_
  refine (rn_step (e := (.bipush 61, 23, 0, 0, 0, 0, 0, [])) rfl).mpr ?_
  refine (rn_step (e := (.newarray .int, 25, 0, 0, 0, 0, 0, [])) rfl).mpr (And.intro (by decide) (And.intro (by decide) (And.intro (by omega) (And.intro (show 61 ≤ M2.2.1.2 by omega) ?_))))
  refine (rn_step (e := (.putfield 18, 28, 5, 7, 116, 2, 6, [])) rfl).mpr (And.intro ((rn_nw_kd (M := M2) (by omega)).1.trans kk2) ?_)
  show rn_WP 57 28 [rn_R a, rn_I i] [] (rn_sr (rn_nw M2 20 61) a 7 (some M2.1.length)) Q
  obtain ⟨l3, bc3, bs3, lo3, z3, g3, f3, k3⟩ := rn_alc (M := M2) (a := a) (f := 7) (k := 20) (n := 61) (b := a + 3) len2 (by omega)
  generalize rn_sr (rn_nw M2 20 61) a 7 (some M2.1.length) = M3 at *
  have len3 : M3.1.length = a + 4 := by rw [l3, List.length_append, len2]; rfl
  have kk3 := k3.trans kk2
  refine (rn_step (e := (.aload_n 0, 29, 0, 0, 0, 0, 0, [])) rfl).mpr ?_
  refine (rn_step (e := (.bipush 61, 31, 0, 0, 0, 0, 0, [])) rfl).mpr ?_
  refine (rn_step (e := (.newarray .int, 33, 0, 0, 0, 0, 0, [])) rfl).mpr (And.intro (by decide) (And.intro (by decide) (And.intro (by omega) (And.intro (show 61 ≤ M3.2.1.2 by omega) ?_))))
  refine (rn_step (e := (.putfield 21, 36, 5, 8, 117, 2, 6, [])) rfl).mpr (And.intro ((rn_nw_kd (M := M3) (by omega)).1.trans kk3) ?_)
  show rn_WP 57 36 [rn_R a, rn_I i] [] (rn_sr (rn_nw M3 20 61) a 8 (some M3.1.length)) Q
  obtain ⟨l4, bc4, bs4, lo4, z4, g4, f4, k4⟩ := rn_alc (M := M3) (a := a) (f := 8) (k := 20) (n := 61) (b := a + 4) len3 (by omega)
  generalize rn_sr (rn_nw M3 20 61) a 8 (some M3.1.length) = M4 at *
  have len4 : M4.1.length = a + 5 := by rw [l4, List.length_append, len3]; rfl
  have kk4 := k4.trans kk3
  refine (rn_step (e := (.aload_n 0, 37, 0, 0, 0, 0, 0, [])) rfl).mpr ?_
  refine (rn_step (e := (.iload_n 1, 38, 1, 0, 0, 0, 0, [])) rfl).mpr ?_
  refine (rn_step (e := (.putfield 24, 41, 5, 0, 95, 0, 6, [])) rfl).mpr (And.intro kk4 ?_)
  refine (rn_step (e := (.return_, 42, 0, 0, 0, 0, 0, [])) rfl).mpr ?_
  refine k _ ?_ (fun x hx => ⟨?_, fun j => ?_⟩) rn_si_eq ⟨?_, ?_, ?_, ?_⟩
  · show M4.1 = _
    rw [l4, l3, l2, l1]; simp
  · rw [rn_si_gif (by omega), lo4 x (by omega), lo3 x (by omega), lo2 x (by omega), lo1 x (by omega)]
  · rw [rn_si_gr, g4 x j (by omega) (by omega), g3 x j (by omega) (by omega), g2 x j (by omega) (by omega), g1 x j (by omega) (by omega)]
  · rw [rn_si_gr, g4 a 5 (by omega) (by omega), g3 a 5 (by omega) (by omega), g2 a 5 (by omega) (by omega), f1]
  · rw [rn_si_gr, g4 a 6 (by omega) (by omega), g3 a 6 (by omega) (by omega), f2]
  · rw [rn_si_gr, g4 a 7 (by omega) (by omega), f3]
  · rw [rn_si_gr, f4]
end CT1
