/-! constructors: cells that come -/
theorem rn_alc {M : rn_M} {a f k n b : Nat} (hb : M.1.length = b) (ha : a < b) : (rn_sr (rn_nw M k n) a f (some M.1.length)).1 = M.1 ++ [(k, n)] ∧ (rn_sr (rn_nw M k n) a f (some M.1.length)).2.1.1 = M.2.1.1 - 1 ∧ (rn_sr (rn_nw M k n) a f (some M.1.length)).2.1.2 = M.2.1.2 - n ∧
    (∀ x, x < b → rn_gi (rn_sr (rn_nw M k n) a f (some M.1.length)) x = rn_gi M x) ∧ (∀ j, rn_gi (rn_sr (rn_nw M k n) a f (some M.1.length)) b j = 0) ∧ (∀ x j, x < b → ¬ (x = a ∧ j = f) → rn_gr (rn_sr (rn_nw M k n) a f (some M.1.length)) x j = rn_gr M x j) ∧ rn_gr (rn_sr (rn_nw M k n) a f (some M.1.length)) a f = some b ∧ rn_kd (rn_sr (rn_nw M k n) a f (some M.1.length)) a = rn_kd M a := by
  subst hb
  refine ⟨rfl, rfl, rfl, fun x hx => funext fun j => (rn_nw_gi (k := k) (n := n) hx j).1, fun j => (rn_nw_gn (M := M) (k := k) (n := n) j).1, fun x j hx hn => ?_, rn_sr_eq, (rn_nw_kd ha).1⟩
  rw [rn_sr_ne hn]; exact (rn_nw_gi (k := k) (n := n) hx j).2
section CT1
variable {M : rn_M} {Q : rn_Q}
set_option maxRecDepth 4000 in
theorem rs_La_init {a : Nat} {g : Option Nat} (hk : rn_kd M a = 4) (k : Q none (rn_sr M a 0 g)) : rn_ME 40 [rn_R a, .inr (some g)] M Q := by
  refine re_La_init ?_
  refine (rn_step (e := (.aload_n 0, 1, 0, 0, 0, 0, 0, [])) rfl).mpr ?_
  refine (rn_step (e := (.invokespecial 1, 4, 1000, 1, 230, 2, 0, [0])) rfl).mpr ?_
  refine (rn_step (e := (.aload_n 0, 5, 0, 0, 0, 0, 0, [])) rfl).mpr ?_
  refine (rn_step (e := (.aload_n 1, 6, 1, 0, 0, 0, 0, [])) rfl).mpr ?_
  refine (rn_step (e := (.putfield 7, 9, 3, 0, 231, 2, 4, [])) rfl).mpr (And.intro hk ?_)
  exact (rn_step (e := (.return_, 10, 0, 0, 0, 0, 0, [])) rfl).mpr k
set_option maxRecDepth 4000 in
theorem rs_Ri_init {a : Nat} {i : Int} (len0 : M.1.length = a + 1) (kk0 : rn_kd M a = 6) (hc : 4 ≤ M.2.1.1) (hs : 400 ≤ M.2.1.2) (k : ∀ M', M'.1 = M.1 ++ [(20, 12), (20, 60), (20, 61), (20, 61)] → (∀ x, x < a → rn_gi M' x = rn_gi M x ∧ ∀ j, rn_gr M' x j = rn_gr M x j) → rn_gi M' a 0 = i → (rn_gr M' a 5 = some (a + 1) ∧ rn_gr M' a 6 = some (a + 2) ∧ rn_gr M' a 7 = some (a + 3) ∧ rn_gr M' a 8 = some (a + 4)) → Q none M') : rn_ME 57 [rn_R a, rn_I i] M Q := by
  refine re_Ri_init ?_
  refine (rn_step (e := (.aload_n 0, 1, 0, 0, 0, 0, 0, [])) rfl).mpr ?_
  refine (rn_step (e := (.invokespecial 3, 4, 1000, 1, 156, 2, 0, [0])) rfl).mpr ?_
  refine (rn_step (e := (.aload_n 0, 5, 0, 0, 0, 0, 0, [])) rfl).mpr ?_
  refine (rn_step (e := (.bipush 12, 7, 0, 0, 0, 0, 0, [])) rfl).mpr ?_
  refine (rn_step (e := (.newarray .int, 9, 0, 0, 0, 0, 0, [])) rfl).mpr (And.intro (by decide) (And.intro (by decide) (And.intro (by omega) (And.intro (show 12 ≤ M.2.1.2 by omega) ?_))))
  refine (rn_step (e := (.putfield 9, 12, 5, 5, 176, 2, 6, [])) rfl).mpr (And.intro ((rn_nw_kd (M := M) (by omega)).1.trans kk0) ?_)
  show rn_WP 57 12 [rn_R a, rn_I i] [] (rn_sr (rn_nw M 20 12) a 5 (some M.1.length)) Q
  obtain ⟨l1, bc1, bs1, lo1, z1, g1, f1, k1⟩ := rn_alc (M := M) (a := a) (f := 5) (k := 20) (n := 12) (b := a + 1) len0 (by omega)
  generalize rn_sr (rn_nw M 20 12) a 5 (some M.1.length) = M1 at *
  have len1 : M1.1.length = a + 2 := by rw [l1, List.length_append, len0]; rfl
  have kk1 := k1.trans kk0
  refine (rn_step (e := (.aload_n 0, 13, 0, 0, 0, 0, 0, [])) rfl).mpr ?_
  refine (rn_step (e := (.bipush 60, 15, 0, 0, 0, 0, 0, [])) rfl).mpr ?_
  refine (rn_step (e := (.newarray .int, 17, 0, 0, 0, 0, 0, [])) rfl).mpr (And.intro (by decide) (And.intro (by decide) (And.intro (by omega) (And.intro (show 60 ≤ M1.2.1.2 by omega) ?_))))
  refine (rn_step (e := (.putfield 15, 20, 5, 6, 177, 2, 6, [])) rfl).mpr (And.intro ((rn_nw_kd (M := M1) (by omega)).1.trans kk1) ?_)
  show rn_WP 57 20 [rn_R a, rn_I i] [] (rn_sr (rn_nw M1 20 60) a 6 (some M1.1.length)) Q
  obtain ⟨l2, bc2, bs2, lo2, z2, g2, f2, k2⟩ := rn_alc (M := M1) (a := a) (f := 6) (k := 20) (n := 60) (b := a + 2) len1 (by omega)
  generalize rn_sr (rn_nw M1 20 60) a 6 (some M1.1.length) = M2 at *
  have len2 : M2.1.length = a + 3 := by rw [l2, List.length_append, len1]; rfl
  have kk2 := k2.trans kk1
  refine (rn_step (e := (.aload_n 0, 21, 0, 0, 0, 0, 0, [])) rfl).mpr ?_
  refine (rn_step (e := (.bipush 61, 23, 0, 0, 0, 0, 0, [])) rfl).mpr ?_
  refine (rn_step (e := (.newarray .int, 25, 0, 0, 0, 0, 0, [])) rfl).mpr (And.intro (by decide) (And.intro (by decide) (And.intro (by omega) (And.intro (show 61 ≤ M2.2.1.2 by omega) ?_))))
  refine (rn_step (e := (.putfield 18, 28, 5, 7, 178, 2, 6, [])) rfl).mpr (And.intro ((rn_nw_kd (M := M2) (by omega)).1.trans kk2) ?_)
  show rn_WP 57 28 [rn_R a, rn_I i] [] (rn_sr (rn_nw M2 20 61) a 7 (some M2.1.length)) Q
  obtain ⟨l3, bc3, bs3, lo3, z3, g3, f3, k3⟩ := rn_alc (M := M2) (a := a) (f := 7) (k := 20) (n := 61) (b := a + 3) len2 (by omega)
  generalize rn_sr (rn_nw M2 20 61) a 7 (some M2.1.length) = M3 at *
  have len3 : M3.1.length = a + 4 := by rw [l3, List.length_append, len2]; rfl
  have kk3 := k3.trans kk2
  refine (rn_step (e := (.aload_n 0, 29, 0, 0, 0, 0, 0, [])) rfl).mpr ?_
  refine (rn_step (e := (.bipush 61, 31, 0, 0, 0, 0, 0, [])) rfl).mpr ?_
  refine (rn_step (e := (.newarray .int, 33, 0, 0, 0, 0, 0, [])) rfl).mpr (And.intro (by decide) (And.intro (by decide) (And.intro (by omega) (And.intro (show 61 ≤ M3.2.1.2 by omega) ?_))))
  refine (rn_step (e := (.putfield 21, 36, 5, 8, 179, 2, 6, [])) rfl).mpr (And.intro ((rn_nw_kd (M := M3) (by omega)).1.trans kk3) ?_)
  show rn_WP 57 36 [rn_R a, rn_I i] [] (rn_sr (rn_nw M3 20 61) a 8 (some M3.1.length)) Q
  obtain ⟨l4, bc4, bs4, lo4, z4, g4, f4, k4⟩ := rn_alc (M := M3) (a := a) (f := 8) (k := 20) (n := 61) (b := a + 4) len3 (by omega)
  generalize rn_sr (rn_nw M3 20 61) a 8 (some M3.1.length) = M4 at *
  have len4 : M4.1.length = a + 5 := by rw [l4, List.length_append, len3]; rfl
  have kk4 := k4.trans kk3
  refine (rn_step (e := (.aload_n 0, 37, 0, 0, 0, 0, 0, [])) rfl).mpr ?_
  refine (rn_step (e := (.iload_n 1, 38, 1, 0, 0, 0, 0, [])) rfl).mpr ?_
  refine (rn_step (e := (.putfield 24, 41, 5, 0, 157, 0, 6, [])) rfl).mpr (And.intro kk4 ?_)
  refine (rn_step (e := (.return_, 42, 0, 0, 0, 0, 0, [])) rfl).mpr ?_
  refine k _ ?_ (fun x hx => ⟨?_, fun j => ?_⟩) rn_si_eq ⟨?_, ?_, ?_, ?_⟩
  · show M4.1 = _
    rw [l4, l3, l2, l1]; simp
  · rw [rn_si_gif (by omega), lo4 x (by omega), lo3 x (by omega), lo2 x (by omega), lo1 x (by omega)]
  · rw [rn_si_gr, g4 x j (by omega) (by omega), g3 x j (by omega) (by omega), g2 x j (by omega) (by omega), g1 x j (by omega) (by omega)]
  · rw [rn_si_gr, g4 a 5 (by omega) (by omega), g3 a 5 (by omega) (by omega), g2 a 5 (by omega) (by omega), f1]
  · rw [rn_si_gr, g4 a 6 (by omega) (by omega), g3 a 6 (by omega) (by omega), f2]
  · rw [rn_si_gr, g4 a 7 (by omega) (by omega), f3]
  · rw [rn_si_gr, f4]
set_option maxRecDepth 4000 in
theorem rs_Mo_init {a : Nat} (len0 : M.1.length = a + 1) (kk0 : rn_kd M a = 11) (hc : 20 ≤ M.2.1.1) (hs : 10000 ≤ M.2.1.2) (k : ∀ M', M'.1 = M.1 ++ [(20, 562), (20, 2810), (20, 150), (20, 61), (20, 61), (20, 2400), (20, 5), (20, 562), (20, 562)] → (∀ x, x < a → rn_gi M' x = rn_gi M x ∧ ∀ j, rn_gr M' x j = rn_gr M x j) → rn_gi M' a = rn_gi M a → rn_gi M' (a + 1) = (fun j => if j = 3 then 10 else 0) → (∀ j, rn_gi M' (a + 6) j = 0) → (rn_gr M' a 0 = some (a + 1) ∧ rn_gr M' a 1 = some (a + 2) ∧ rn_gr M' a 3 = some (a + 3) ∧ rn_gr M' a 5 = some (a + 4) ∧ rn_gr M' a 6 = some (a + 5) ∧ rn_gr M' a 7 = some (a + 6) ∧ rn_gr M' a 12 = some (a + 7) ∧ rn_gr M' a 13 = some (a + 8) ∧ rn_gr M' a 14 = some (a + 9)) → Q none M') : rn_ME 123 [rn_R a] M Q := by
  refine re_Mo_init ?_
  refine (rn_step (e := (.aload_n 0, 1, 0, 0, 0, 0, 0, [])) rfl).mpr ?_
  refine (rn_step (e := (.invokespecial 1, 4, 1000, 1, 901, 2, 0, [0])) rfl).mpr ?_
  refine (rn_step (e := (.aload_n 0, 5, 0, 0, 0, 0, 0, [])) rfl).mpr ?_
  refine (rn_step (e := (.sipush 562, 8, 0, 0, 0, 0, 0, [])) rfl).mpr ?_
  refine (rn_step (e := (.newarray .int, 10, 0, 0, 0, 0, 0, [])) rfl).mpr (And.intro (by decide) (And.intro (by decide) (And.intro (by omega) (And.intro (show 562 ≤ M.2.1.2 by omega) ?_))))
  refine (rn_step (e := (.putfield 7, 13, 10, 0, 902, 2, 11, [])) rfl).mpr (And.intro ((rn_nw_kd (M := M) (by omega)).1.trans kk0) ?_)
  show rn_WP 123 13 [rn_R a] [] (rn_sr (rn_nw M 20 562) a 0 (some M.1.length)) Q
  obtain ⟨l1, bc1, bs1, lo1, z1, g1, f1, k1⟩ := rn_alc (M := M) (a := a) (f := 0) (k := 20) (n := 562) (b := a + 1) len0 (by omega)
  generalize rn_sr (rn_nw M 20 562) a 0 (some M.1.length) = M1 at *
  have len1 : M1.1.length = a + 2 := by rw [l1, List.length_append, len0]; rfl
  have kk1 := k1.trans kk0
  refine (rn_step (e := (.aload_n 0, 14, 0, 0, 0, 0, 0, [])) rfl).mpr ?_
  refine (rn_step (e := (.sipush 2810, 17, 0, 0, 0, 0, 0, [])) rfl).mpr ?_
  refine (rn_step (e := (.newarray .int, 19, 0, 0, 0, 0, 0, [])) rfl).mpr (And.intro (by decide) (And.intro (by decide) (And.intro (by omega) (And.intro (show 2810 ≤ M1.2.1.2 by omega) ?_))))
  refine (rn_step (e := (.putfield 13, 22, 10, 1, 903, 2, 11, [])) rfl).mpr (And.intro ((rn_nw_kd (M := M1) (by omega)).1.trans kk1) ?_)
  show rn_WP 123 22 [rn_R a] [] (rn_sr (rn_nw M1 20 2810) a 1 (some M1.1.length)) Q
  obtain ⟨l2, bc2, bs2, lo2, z2, g2, f2, k2⟩ := rn_alc (M := M1) (a := a) (f := 1) (k := 20) (n := 2810) (b := a + 2) len1 (by omega)
  generalize rn_sr (rn_nw M1 20 2810) a 1 (some M1.1.length) = M2 at *
  have len2 : M2.1.length = a + 3 := by rw [l2, List.length_append, len1]; rfl
  have kk2 := k2.trans kk1
  refine (rn_step (e := (.aload_n 0, 23, 0, 0, 0, 0, 0, [])) rfl).mpr ?_
  refine (rn_step (e := (.sipush 150, 26, 0, 0, 0, 0, 0, [])) rfl).mpr ?_
  refine (rn_step (e := (.newarray .int, 28, 0, 0, 0, 0, 0, [])) rfl).mpr (And.intro (by decide) (And.intro (by decide) (And.intro (by omega) (And.intro (show 150 ≤ M2.2.1.2 by omega) ?_))))
  refine (rn_step (e := (.putfield 16, 31, 10, 3, 905, 2, 11, [])) rfl).mpr (And.intro ((rn_nw_kd (M := M2) (by omega)).1.trans kk2) ?_)
  show rn_WP 123 31 [rn_R a] [] (rn_sr (rn_nw M2 20 150) a 3 (some M2.1.length)) Q
  obtain ⟨l3, bc3, bs3, lo3, z3, g3, f3, k3⟩ := rn_alc (M := M2) (a := a) (f := 3) (k := 20) (n := 150) (b := a + 3) len2 (by omega)
  generalize rn_sr (rn_nw M2 20 150) a 3 (some M2.1.length) = M3 at *
  have len3 : M3.1.length = a + 4 := by rw [l3, List.length_append, len2]; rfl
  have kk3 := k3.trans kk2
  refine (rn_step (e := (.aload_n 0, 32, 0, 0, 0, 0, 0, [])) rfl).mpr ?_
  refine (rn_step (e := (.bipush 61, 34, 0, 0, 0, 0, 0, [])) rfl).mpr ?_
  refine (rn_step (e := (.newarray .int, 36, 0, 0, 0, 0, 0, [])) rfl).mpr (And.intro (by decide) (And.intro (by decide) (And.intro (by omega) (And.intro (show 61 ≤ M3.2.1.2 by omega) ?_))))
  refine (rn_step (e := (.putfield 19, 39, 10, 5, 907, 2, 11, [])) rfl).mpr (And.intro ((rn_nw_kd (M := M3) (by omega)).1.trans kk3) ?_)
  show rn_WP 123 39 [rn_R a] [] (rn_sr (rn_nw M3 20 61) a 5 (some M3.1.length)) Q
  obtain ⟨l4, bc4, bs4, lo4, z4, g4, f4, k4⟩ := rn_alc (M := M3) (a := a) (f := 5) (k := 20) (n := 61) (b := a + 4) len3 (by omega)
  generalize rn_sr (rn_nw M3 20 61) a 5 (some M3.1.length) = M4 at *
  have len4 : M4.1.length = a + 5 := by rw [l4, List.length_append, len3]; rfl
  have kk4 := k4.trans kk3
  refine (rn_step (e := (.aload_n 0, 40, 0, 0, 0, 0, 0, [])) rfl).mpr ?_
  refine (rn_step (e := (.bipush 61, 42, 0, 0, 0, 0, 0, [])) rfl).mpr ?_
  refine (rn_step (e := (.newarray .int, 44, 0, 0, 0, 0, 0, [])) rfl).mpr (And.intro (by decide) (And.intro (by decide) (And.intro (by omega) (And.intro (show 61 ≤ M4.2.1.2 by omega) ?_))))
  refine (rn_step (e := (.putfield 22, 47, 10, 6, 908, 2, 11, [])) rfl).mpr (And.intro ((rn_nw_kd (M := M4) (by omega)).1.trans kk4) ?_)
  show rn_WP 123 47 [rn_R a] [] (rn_sr (rn_nw M4 20 61) a 6 (some M4.1.length)) Q
  obtain ⟨l5, bc5, bs5, lo5, z5, g5, f5, k5⟩ := rn_alc (M := M4) (a := a) (f := 6) (k := 20) (n := 61) (b := a + 5) len4 (by omega)
  generalize rn_sr (rn_nw M4 20 61) a 6 (some M4.1.length) = M5 at *
  have len5 : M5.1.length = a + 6 := by rw [l5, List.length_append, len4]; rfl
  have kk5 := k5.trans kk4
  refine (rn_step (e := (.aload_n 0, 48, 0, 0, 0, 0, 0, [])) rfl).mpr ?_
  refine (rn_step (e := (.sipush 2400, 51, 0, 0, 0, 0, 0, [])) rfl).mpr ?_
  refine (rn_step (e := (.newarray .int, 53, 0, 0, 0, 0, 0, [])) rfl).mpr (And.intro (by decide) (And.intro (by decide) (And.intro (by omega) (And.intro (show 2400 ≤ M5.2.1.2 by omega) ?_))))
  refine (rn_step (e := (.putfield 25, 56, 10, 7, 909, 2, 11, [])) rfl).mpr (And.intro ((rn_nw_kd (M := M5) (by omega)).1.trans kk5) ?_)
  show rn_WP 123 56 [rn_R a] [] (rn_sr (rn_nw M5 20 2400) a 7 (some M5.1.length)) Q
  obtain ⟨l6, bc6, bs6, lo6, z6, g6, f6, k6⟩ := rn_alc (M := M5) (a := a) (f := 7) (k := 20) (n := 2400) (b := a + 6) len5 (by omega)
  generalize rn_sr (rn_nw M5 20 2400) a 7 (some M5.1.length) = M6 at *
  have len6 : M6.1.length = a + 7 := by rw [l6, List.length_append, len5]; rfl
  have kk6 := k6.trans kk5
  refine (rn_step (e := (.aload_n 0, 57, 0, 0, 0, 0, 0, [])) rfl).mpr ?_
  refine (rn_step (e := (.iconst 5, 58, 0, 0, 0, 0, 0, [])) rfl).mpr ?_
  refine (rn_step (e := (.newarray .int, 60, 0, 0, 0, 0, 0, [])) rfl).mpr (And.intro (by decide) (And.intro (by decide) (And.intro (by omega) (And.intro (show 5 ≤ M6.2.1.2 by omega) ?_))))
  refine (rn_step (e := (.putfield 28, 63, 10, 12, 914, 2, 11, [])) rfl).mpr (And.intro ((rn_nw_kd (M := M6) (by omega)).1.trans kk6) ?_)
  show rn_WP 123 63 [rn_R a] [] (rn_sr (rn_nw M6 20 5) a 12 (some M6.1.length)) Q
  obtain ⟨l7, bc7, bs7, lo7, z7, g7, f7, k7⟩ := rn_alc (M := M6) (a := a) (f := 12) (k := 20) (n := 5) (b := a + 7) len6 (by omega)
  generalize rn_sr (rn_nw M6 20 5) a 12 (some M6.1.length) = M7 at *
  have len7 : M7.1.length = a + 8 := by rw [l7, List.length_append, len6]; rfl
  have kk7 := k7.trans kk6
  refine (rn_step (e := (.aload_n 0, 64, 0, 0, 0, 0, 0, [])) rfl).mpr ?_
  refine (rn_step (e := (.sipush 562, 67, 0, 0, 0, 0, 0, [])) rfl).mpr ?_
  refine (rn_step (e := (.newarray .int, 69, 0, 0, 0, 0, 0, [])) rfl).mpr (And.intro (by decide) (And.intro (by decide) (And.intro (by omega) (And.intro (show 562 ≤ M7.2.1.2 by omega) ?_))))
  refine (rn_step (e := (.putfield 31, 72, 10, 13, 915, 2, 11, [])) rfl).mpr (And.intro ((rn_nw_kd (M := M7) (by omega)).1.trans kk7) ?_)
  show rn_WP 123 72 [rn_R a] [] (rn_sr (rn_nw M7 20 562) a 13 (some M7.1.length)) Q
  obtain ⟨l8, bc8, bs8, lo8, z8, g8, f8, k8⟩ := rn_alc (M := M7) (a := a) (f := 13) (k := 20) (n := 562) (b := a + 8) len7 (by omega)
  generalize rn_sr (rn_nw M7 20 562) a 13 (some M7.1.length) = M8 at *
  have len8 : M8.1.length = a + 9 := by rw [l8, List.length_append, len7]; rfl
  have kk8 := k8.trans kk7
  refine (rn_step (e := (.aload_n 0, 73, 0, 0, 0, 0, 0, [])) rfl).mpr ?_
  refine (rn_step (e := (.sipush 562, 76, 0, 0, 0, 0, 0, [])) rfl).mpr ?_
  refine (rn_step (e := (.newarray .int, 78, 0, 0, 0, 0, 0, [])) rfl).mpr (And.intro (by decide) (And.intro (by decide) (And.intro (by omega) (And.intro (show 562 ≤ M8.2.1.2 by omega) ?_))))
  refine (rn_step (e := (.putfield 34, 81, 10, 14, 916, 2, 11, [])) rfl).mpr (And.intro ((rn_nw_kd (M := M8) (by omega)).1.trans kk8) ?_)
  show rn_WP 123 81 [rn_R a] [] (rn_sr (rn_nw M8 20 562) a 14 (some M8.1.length)) Q
  obtain ⟨l9, bc9, bs9, lo9, z9, g9, f9, k9⟩ := rn_alc (M := M8) (a := a) (f := 14) (k := 20) (n := 562) (b := a + 9) len8 (by omega)
  generalize rn_sr (rn_nw M8 20 562) a 14 (some M8.1.length) = M9 at *
  have len9 : M9.1.length = a + 10 := by rw [l9, List.length_append, len8]; rfl
  have kk9 := k9.trans kk8
  refine (rn_step (e := (.aload_n 0, 82, 0, 0, 0, 0, 0, [])) rfl).mpr ?_
  have r0 : rn_gr M9 a 0 = some (a + 1) := by rw [g9 a 0 (by omega) (by omega), g8 a 0 (by omega) (by omega), g7 a 0 (by omega) (by omega), g6 a 0 (by omega) (by omega), g5 a 0 (by omega) (by omega), g4 a 0 (by omega) (by omega), g3 a 0 (by omega) (by omega), g2 a 0 (by omega) (by omega), f1]
  have w1 : rn_kd M9 (a + 1) = 20 ∧ rn_ln M9 (a + 1) = 562 := by
    unfold rn_kd rn_ln
    rw [l9, l8, l7, l6, l5, l4, l3, l2, l1]
    simp only [List.append_assoc, List.getD_eq_getElem?_getD]
    rw [List.getElem?_append_right (by omega), len0, Nat.sub_self]
    exact ⟨rfl, rfl⟩
  refine (rn_step (e := (.getfield 7, 85, 10, 0, 902, 2, 11, [])) rfl).mpr (And.intro kk9 (rn_cg r0 ?_))
  refine (rn_step (e := (.iconst 3, 86, 0, 0, 0, 0, 0, [])) rfl).mpr ?_
  refine (rn_step (e := (.bipush 10, 88, 0, 0, 0, 0, 0, [])) rfl).mpr ?_
  refine (rn_step (e := (.iastore, 89, 0, 0, 0, 0, 0, [])) rfl).mpr (And.intro w1.1 (And.intro (And.intro (by decide) (by rw [w1.2]; decide)) ?_))
  refine (rn_step (e := (.return_, 90, 0, 0, 0, 0, 0, [])) rfl).mpr ?_
  show Q none (rn_si M9 (a + 1) 3 10)
  refine k _ ?_ (fun x hx => ⟨?_, fun j => ?_⟩) ?_ ?_ (fun j => ?_) ⟨?_, ?_, ?_, ?_, ?_, ?_, ?_, ?_, ?_⟩
  · show M9.1 = _
    rw [l9, l8, l7, l6, l5, l4, l3, l2, l1]; simp
  · rw [rn_si_gif (by omega), lo9 x (by omega), lo8 x (by omega), lo7 x (by omega), lo6 x (by omega), lo5 x (by omega), lo4 x (by omega), lo3 x (by omega), lo2 x (by omega), lo1 x (by omega)]
  · rw [rn_si_gr, g9 x j (by omega) (by omega), g8 x j (by omega) (by omega), g7 x j (by omega) (by omega), g6 x j (by omega) (by omega), g5 x j (by omega) (by omega), g4 x j (by omega) (by omega), g3 x j (by omega) (by omega), g2 x j (by omega) (by omega), g1 x j (by omega) (by omega)]
  · rw [rn_si_gif (by omega), lo9 a (by omega), lo8 a (by omega), lo7 a (by omega), lo6 a (by omega), lo5 a (by omega), lo4 a (by omega), lo3 a (by omega), lo2 a (by omega), lo1 a (by omega)]
  · funext j
    by_cases e : j = 3
    · rw [e, rn_si_eq, if_pos rfl]
    · rw [rn_si_ne (by omega), if_neg e, lo9 (a + 1) (by omega), lo8 (a + 1) (by omega), lo7 (a + 1) (by omega), lo6 (a + 1) (by omega), lo5 (a + 1) (by omega), lo4 (a + 1) (by omega), lo3 (a + 1) (by omega), lo2 (a + 1) (by omega), z1]
  · rw [rn_si_gif (by omega), lo9 (a + 6) (by omega), lo8 (a + 6) (by omega), lo7 (a + 6) (by omega), z6]
  · rw [rn_si_gr, g9 a 0 (by omega) (by omega), g8 a 0 (by omega) (by omega), g7 a 0 (by omega) (by omega), g6 a 0 (by omega) (by omega), g5 a 0 (by omega) (by omega), g4 a 0 (by omega) (by omega), g3 a 0 (by omega) (by omega), g2 a 0 (by omega) (by omega), f1]
  · rw [rn_si_gr, g9 a 1 (by omega) (by omega), g8 a 1 (by omega) (by omega), g7 a 1 (by omega) (by omega), g6 a 1 (by omega) (by omega), g5 a 1 (by omega) (by omega), g4 a 1 (by omega) (by omega), g3 a 1 (by omega) (by omega), f2]
  · rw [rn_si_gr, g9 a 3 (by omega) (by omega), g8 a 3 (by omega) (by omega), g7 a 3 (by omega) (by omega), g6 a 3 (by omega) (by omega), g5 a 3 (by omega) (by omega), g4 a 3 (by omega) (by omega), f3]
  · rw [rn_si_gr, g9 a 5 (by omega) (by omega), g8 a 5 (by omega) (by omega), g7 a 5 (by omega) (by omega), g6 a 5 (by omega) (by omega), g5 a 5 (by omega) (by omega), f4]
  · rw [rn_si_gr, g9 a 6 (by omega) (by omega), g8 a 6 (by omega) (by omega), g7 a 6 (by omega) (by omega), g6 a 6 (by omega) (by omega), f5]
  · rw [rn_si_gr, g9 a 7 (by omega) (by omega), g8 a 7 (by omega) (by omega), g7 a 7 (by omega) (by omega), f6]
  · rw [rn_si_gr, g9 a 12 (by omega) (by omega), g8 a 12 (by omega) (by omega), f7]
  · rw [rn_si_gr, g9 a 13 (by omega) (by omega), f8]
  · rw [rn_si_gr, f9]
end CT1
