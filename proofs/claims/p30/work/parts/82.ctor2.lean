/-! constructors: boards, the history -/
def rn_rl : Nat → List (Nat × Nat)
  | 0 => []
  | i + 1 => rn_rl i ++ [(6, 9), (20, 12), (20, 60), (20, 61), (20, 61)]
def rn_rp (x : Nat × Nat) : Nat → List (Nat × Nat)
  | 0 => []
  | i + 1 => rn_rp x i ++ [x]
def rn_bl : Nat → List (Nat × Nat)
  | 0 => []
  | i + 1 => rn_bl i ++ rn_SB
theorem rn_rl_len : ∀ i, (rn_rl i).length = 5 * i
  | 0 => rfl
  | i + 1 => by unfold rn_rl; rw [List.length_append, rn_rl_len i]; simp; omega
theorem rn_rp_len {x : Nat × Nat} : ∀ i, (rn_rp x i).length = i
  | 0 => rfl
  | i + 1 => by unfold rn_rp; rw [List.length_append, rn_rp_len i]; rfl
theorem rn_SB_len : rn_SB.length = 64 := by decide
theorem rn_bl_len : ∀ i, (rn_bl i).length = 64 * i
  | 0 => rfl
  | i + 1 => by unfold rn_bl; rw [List.length_append, rn_bl_len i, rn_SB_len]; omega
theorem rn_kd_ap {M M0 : rn_M} {l : List (Nat × Nat)} (h : M.1 = M0.1 ++ l) : (∀ x, x < M0.1.length → rn_kd M x = rn_kd M0 x ∧ rn_ln M x = rn_ln M0 x) ∧ ∀ t, rn_kd M (M0.1.length + t) = (l.getD t (0, 0)).1 ∧ rn_ln M (M0.1.length + t) = (l.getD t (0, 0)).2 := by
  unfold rn_kd rn_ln
  rw [h]
  refine ⟨fun x hx => ?_, fun t => ?_⟩
  · simp only [List.getD_eq_getElem?_getD, List.getElem?_append_left hx]
    exact ⟨trivial, trivial⟩
  · simp only [List.getD_eq_getElem?_getD]
    rw [List.getElem?_append_right (by omega), Nat.add_sub_cancel_left]
    exact ⟨rfl, rfl⟩
/-- a new board -/
def rn_nbd (M : rn_M) (b : Nat) : Prop := (rn_gi M b 0 = 0 ∧ rn_gi M b 1 = 0 ∧ rn_gi M b 2 = 0 ∧ rn_gi M b 3 = 10) ∧ (rn_gr M b 4 = some (b + 1) ∧ rn_gr M b 5 = some (b + 2) ∧ rn_gr M b 6 = some (b + 3)) ∧
  (∀ i : Nat, i < 6 → rn_gr M (b + 1) i = some (b + 4 + 5 * i) ∧ rn_gi M (b + 4 + 5 * i) 0 = i ∧ rn_gr M (b + 4 + 5 * i) 5 = some (b + 5 + 5 * i) ∧ rn_gr M (b + 4 + 5 * i) 6 = some (b + 6 + 5 * i) ∧ rn_gr M (b + 4 + 5 * i) 7 = some (b + 7 + 5 * i) ∧ rn_gr M (b + 4 + 5 * i) 8 = some (b + 8 + 5 * i)) ∧
  (∀ i : Nat, i < 10 → rn_gr M (b + 2) i = some (b + 34 + i)) ∧ ∀ i : Nat, i < 20 → rn_gr M (b + 3) i = some (b + 44 + i)
theorem rn_nbd_eq {M M' : rn_M} {b : Nat} (h : ∀ x, b ≤ x → x < b + 64 → rn_gi M' x = rn_gi M x ∧ ∀ j, rn_gr M' x j = rn_gr M x j) (g : rn_nbd M b) : rn_nbd M' b := by
  obtain ⟨g1, g2, g3, g4, g5⟩ := g
  refine ⟨?_, ?_, fun i hi => ?_, fun i hi => ?_, fun i hi => ?_⟩
  · rw [(h b (by omega) (by omega)).1]; exact g1
  · simp only [(h b (by omega) (by omega)).2]; exact g2
  · rw [(h (b + 1) (by omega) (by omega)).2, (h (b + 4 + 5 * i) (by omega) (by omega)).1]
    simp only [(h (b + 4 + 5 * i) (by omega) (by omega)).2]
    exact g3 i hi
  · rw [(h (b + 2) (by omega) (by omega)).2]; exact g4 i hi
  · rw [(h (b + 3) (by omega) (by omega)).2]; exact g5 i hi
/-- a board that is being made: i rivers, j towns, l labels so far -/
def rn_bo (M0 M : rn_M) (b i j l : Nat) : Prop :=
  M.1 = M0.1 ++ ([(35, 6), (38, 10), (33, 20)] ++ rn_rl i ++ rn_rp (9, 5) j ++ rn_rp (4, 2) l) ∧ (63 ≤ M.2.1.1 + 3 + 5 * i + j + l ∧ 3000 ≤ M.2.1.2 + 36 + 409 * i + 5 * j + 2 * l) ∧
  (∀ x, x < b → rn_gi M x = rn_gi M0 x ∧ ∀ k, rn_gr M x k = rn_gr M0 x k) ∧ (rn_gi M b 3 = 10 ∧ ∀ k, k ≠ 3 → rn_gi M b k = rn_gi M0 b k) ∧ (rn_gr M b 4 = some (b + 1) ∧ rn_gr M b 5 = some (b + 2) ∧ rn_gr M b 6 = some (b + 3)) ∧
  (∀ q : Nat, q < i → rn_gr M (b + 1) q = some (b + 4 + 5 * q) ∧ rn_gi M (b + 4 + 5 * q) 0 = q ∧ rn_gr M (b + 4 + 5 * q) 5 = some (b + 5 + 5 * q) ∧ rn_gr M (b + 4 + 5 * q) 6 = some (b + 6 + 5 * q) ∧ rn_gr M (b + 4 + 5 * q) 7 = some (b + 7 + 5 * q) ∧ rn_gr M (b + 4 + 5 * q) 8 = some (b + 8 + 5 * q)) ∧
  (∀ q : Nat, q < j → rn_gr M (b + 2) q = some (b + 34 + q)) ∧ ∀ q : Nat, q < l → rn_gr M (b + 3) q = some (b + 44 + q)
section CT2
variable {M : rn_M} {Q : rn_Q}
theorem rn_bo_len {M0 : rn_M} {b i j l : Nat} (len0 : M0.1.length = b + 1) (h : rn_bo M0 M b i j l) : M.1.length = b + 4 + 5 * i + j + l := by
  rw [h.1, List.length_append, List.length_append, List.length_append, List.length_append, rn_rl_len, rn_rp_len, rn_rp_len, len0]
  show b + 1 + (3 + 5 * i + j + l) = _
  omega
theorem rn_bo_kd {M0 : rn_M} {b i j l : Nat} (len0 : M0.1.length = b + 1) (kk0 : rn_kd M0 b = 1) (h : rn_bo M0 M b i j l) : rn_kd M b = 1 ∧ rn_qa M (b + 1) 5 6 ∧ rn_qa M (b + 2) 8 10 ∧ rn_qa M (b + 3) 3 20 := by
  have ap := rn_kd_ap h.1
  rw [len0] at ap
  refine ⟨(ap.1 b (by omega)).1.trans kk0, ?_, ?_, ?_⟩
  · have := ap.2 0
    simp only [List.append_assoc] at this
    exact this
  · have := ap.2 1
    simp only [List.append_assoc] at this
    exact this
  · have := ap.2 2
    simp only [List.append_assoc] at this
    exact this
set_option maxRecDepth 4000 in
theorem rs_Bo_init {b : Nat} (len0 : M.1.length = b + 1) (kk0 : rn_kd M b = 1) (hc : 63 ≤ M.2.1.1) (hs : 3000 ≤ M.2.1.2) (k : ∀ M', rn_bo M M' b 6 10 20 → Q none M') : rn_ME 0 [rn_R b] M Q := by
  refine re_Bo_init ?_
  refine (rn_step (e := (.aload_n 0, 1, 0, 0, 0, 0, 0, [])) rfl).mpr ?_
  refine (rn_step (e := (.invokespecial 3, 4, 1000, 1, 83, 2, 0, [0])) rfl).mpr ?_
  refine (rn_step (e := (.aload_n 0, 5, 0, 0, 0, 0, 0, [])) rfl).mpr ?_
  refine (rn_step (e := (.bipush 10, 7, 0, 0, 0, 0, 0, [])) rfl).mpr ?_
  refine (rn_step (e := (.putfield 9, 10, 0, 3, 191, 0, 1, [])) rfl).mpr (And.intro kk0 ?_)
  show rn_WP 0 10 [rn_R b, rn_J] [] (rn_si M b 3 10) Q
  have s1 : (rn_si M b 3 10).1 = M.1 := rfl
  have s2 : (rn_si M b 3 10).2.1 = M.2.1 := rfl
  have s3 : rn_gi (rn_si M b 3 10) b 3 = 10 := rn_si_eq
  have s4 : ∀ k, k ≠ 3 → rn_gi (rn_si M b 3 10) b k = rn_gi M b k := fun k hk => rn_si_ne (by omega)
  have s5 : ∀ x, x < b → rn_gi (rn_si M b 3 10) x = rn_gi M x := fun x hx => rn_si_gif (by omega)
  have s6 : ∀ x j, rn_gr (rn_si M b 3 10) x j = rn_gr M x j := fun _ _ => rfl
  have kk0' : rn_kd (rn_si M b 3 10) b = 1 := kk0
  have len0' : (rn_si M b 3 10).1.length = b + 1 := len0
  have hc' : 63 ≤ (rn_si M b 3 10).2.1.1 := hc
  have hs' : 3000 ≤ (rn_si M b 3 10).2.1.2 := hs
  generalize rn_si M b 3 10 = M0 at *
  refine (rn_step (e := (.aload_n 0, 11, 0, 0, 0, 0, 0, [])) rfl).mpr ?_
  refine (rn_step (e := (.bipush 6, 13, 0, 0, 0, 0, 0, [])) rfl).mpr ?_
  refine (rn_step (e := (.anewarray 15, 16, 5, 0, 84, 0, 0, [])) rfl).mpr (And.intro (by decide) (And.intro (by decide) (And.intro (by omega) (And.intro (show 6 ≤ M0.2.1.2 by omega) ?_))))
  refine (rn_step (e := (.putfield 17, 19, 0, 4, 194, 2, 1, [])) rfl).mpr (And.intro ((rn_nw_kd (M := M0) (by omega)).1.trans kk0') ?_)
  show rn_WP 0 19 [rn_R b, rn_J] [] (rn_sr (rn_nw M0 35 6) b 4 (some M0.1.length)) Q
  obtain ⟨l1, bc1, bs1, lo1, z1, g1, f1, k1⟩ := rn_alc (M := M0) (a := b) (f := 4) (k := 35) (n := 6) (b := b + 1) len0' (by omega)
  generalize rn_sr (rn_nw M0 35 6) b 4 (some M0.1.length) = M1 at *
  have len1 : M1.1.length = b + 2 := by rw [l1, List.length_append, len0']; rfl
  have kk1 := k1.trans kk0'
  refine (rn_step (e := (.aload_n 0, 20, 0, 0, 0, 0, 0, [])) rfl).mpr ?_
  refine (rn_step (e := (.bipush 10, 22, 0, 0, 0, 0, 0, [])) rfl).mpr ?_
  refine (rn_step (e := (.anewarray 21, 25, 8, 0, 86, 0, 0, [])) rfl).mpr (And.intro (by decide) (And.intro (by decide) (And.intro (by omega) (And.intro (show 10 ≤ M1.2.1.2 by omega) ?_))))
  refine (rn_step (e := (.putfield 23, 28, 0, 5, 195, 2, 1, [])) rfl).mpr (And.intro ((rn_nw_kd (M := M1) (by omega)).1.trans kk1) ?_)
  show rn_WP 0 28 [rn_R b, rn_J] [] (rn_sr (rn_nw M1 38 10) b 5 (some M1.1.length)) Q
  obtain ⟨l2, bc2, bs2, lo2, z2, g2, f2, k2⟩ := rn_alc (M := M1) (a := b) (f := 5) (k := 38) (n := 10) (b := b + 2) len1 (by omega)
  generalize rn_sr (rn_nw M1 38 10) b 5 (some M1.1.length) = M2 at *
  have len2 : M2.1.length = b + 3 := by rw [l2, List.length_append, len1]; rfl
  have kk2 := k2.trans kk1
  refine (rn_step (e := (.aload_n 0, 29, 0, 0, 0, 0, 0, [])) rfl).mpr ?_
  refine (rn_step (e := (.bipush 20, 31, 0, 0, 0, 0, 0, [])) rfl).mpr ?_
  refine (rn_step (e := (.anewarray 27, 34, 3, 0, 88, 0, 0, [])) rfl).mpr (And.intro (by decide) (And.intro (by decide) (And.intro (by omega) (And.intro (show 20 ≤ M2.2.1.2 by omega) ?_))))
  refine (rn_step (e := (.putfield 29, 37, 0, 6, 196, 2, 1, [])) rfl).mpr (And.intro ((rn_nw_kd (M := M2) (by omega)).1.trans kk2) ?_)
  show rn_WP 0 37 [rn_R b, rn_J] [] (rn_sr (rn_nw M2 33 20) b 6 (some M2.1.length)) Q
  obtain ⟨l3, bc3, bs3, lo3, z3, g3, f3, k3⟩ := rn_alc (M := M2) (a := b) (f := 6) (k := 33) (n := 20) (b := b + 3) len2 (by omega)
  generalize rn_sr (rn_nw M2 33 20) b 6 (some M2.1.length) = M3 at *
  have len3 : M3.1.length = b + 4 := by rw [l3, List.length_append, len2]; rfl
  have kk3 := k3.trans kk2
  refine (rn_step (e := (.iconst 0, 38, 0, 0, 0, 0, 0, [])) rfl).mpr ?_
  refine (rn_step (e := (.istore_n 1, 39, 1, 0, 0, 0, 0, [])) rfl).mpr ?_
  have bo : rn_bo M M3 b 0 0 0 := by
    refine ⟨?_, ⟨by omega, by omega⟩, fun x hx => ⟨?_, fun j => ?_⟩, ⟨?_, fun j hj => ?_⟩, ⟨?_, ?_, ?_⟩, fun q hq => by omega, fun q hq => by omega, fun q hq => by omega⟩
    · rw [l3, l2, l1, s1]
      show _ = M.1 ++ ([(35, 6), (38, 10), (33, 20)] ++ [] ++ [] ++ [])
      simp
    · rw [lo3 x (by omega), lo2 x (by omega), lo1 x (by omega), s5 x hx]
    · rw [g3 x j (by omega) (by omega), g2 x j (by omega) (by omega), g1 x j (by omega) (by omega), s6]
    · rw [lo3 b (by omega), lo2 b (by omega), lo1 b (by omega), s3]
    · rw [lo3 b (by omega), lo2 b (by omega), lo1 b (by omega), s4 j hj]
    · rw [g3 b 4 (by omega) (by omega), g2 b 4 (by omega) (by omega), f1]
    · rw [g3 b 5 (by omega) (by omega), f2]
    · exact f3
  clear l1 l2 l3 bc1 bc2 bc3 bs1 bs2 bs3 lo1 lo2 lo3 z1 z2 z3 g1 g2 g3 f1 f2 f3 k1 k2 k3 kk1 kk2 kk3 len1 len2 len3 s1 s2 s3 s4 s5 s6 kk0' len0' hc' hs'
  have labels : ∀ (m l : Nat) (M4 : rn_M), m + l = 20 → rn_bo M M4 b 6 10 l → rn_WP 0 94 [rn_R b, rn_I (l : Int)] [] M4 Q := by
    intro m
    induction m with
    | zero =>
      intro l M4 hl bo
      have kd := rn_bo_kd len0 kk0 bo
      have len := rn_bo_len len0 bo
      have r1 : rn_gr (rn_nw M4 4 2) b 4 = some (b + 1) := by rw [(rn_nw_gi (by omega) 4).2]; exact bo.2.2.2.2.1.1
      refine rb_Bo_init_94 (g1 := b + 3) (g2 := b + 1) (g5 := b + 4) (c4 := 5) (n3 := 6) kd.1 bo.2.2.2.2.1.2.2 ((rn_nw_kd (by omega)).1.trans kd.1) r1 ?_ ?_ rn_nw_kn.1 ?_ ?_ ?_
      · unfold rn_qa; rw [(rn_nw_kd (by omega)).1, (rn_nw_kd (by omega)).2]; exact kd.2.1
      · rw [(rn_nw_gi (by omega) 0).2]; exact (bo.2.2.2.2.2.1 0 (by omega)).1
      · intro z; omega
      · intro z; omega
      · intro _
        rw [show l = 20 by omega] at bo
        exact k M4 bo
    | succ m ih =>
      intro l M4 hl bo
      have kd := rn_bo_kd len0 kk0 bo
      have len := rn_bo_len len0 bo
      have r1 : rn_gr (rn_nw M4 4 2) b 4 = some (b + 1) := by rw [(rn_nw_gi (by omega) 4).2]; exact bo.2.2.2.2.1.1
      refine rb_Bo_init_94 (g1 := b + 3) (g2 := b + 1) (g5 := b + 4) (c4 := 5) (n3 := 6) kd.1 bo.2.2.2.2.1.2.2 ((rn_nw_kd (by omega)).1.trans kd.1) r1 ?_ ?_ rn_nw_kn.1 ?_ ?_ ?_
      · unfold rn_qa; rw [(rn_nw_kd (by omega)).1, (rn_nw_kd (by omega)).2]; exact kd.2.1
      · rw [(rn_nw_gi (by omega) 0).2]; exact (bo.2.2.2.2.2.1 0 (by omega)).1
      · intro _; have := bo.2.1; omega
      · intro _
        refine rs_La_init rn_nw_kn.1 ?_
        have e1 : (rn_sr (rn_nw M4 4 2) M4.1.length 0 (some (b + 4))).1 = M4.1 ++ [(4, 2)] := rfl
        have e2 : (rn_sr (rn_nw M4 4 2) M4.1.length 0 (some (b + 4))).2.1.1 = M4.2.1.1 - 1 ∧ (rn_sr (rn_nw M4 4 2) M4.1.length 0 (some (b + 4))).2.1.2 = M4.2.1.2 - 2 := ⟨rfl, rfl⟩
        have e3 : ∀ x, x < M4.1.length → rn_gi (rn_sr (rn_nw M4 4 2) M4.1.length 0 (some (b + 4))) x = rn_gi M4 x ∧ ∀ j, rn_gr (rn_sr (rn_nw M4 4 2) M4.1.length 0 (some (b + 4))) x j = rn_gr M4 x j := fun x hx => ⟨funext fun j => (rn_nw_gi (k := 4) (n := 2) hx j).1, fun j => by rw [rn_sr_ne (by omega)]; exact (rn_nw_gi hx j).2⟩
        have e4 : rn_kd (rn_sr (rn_nw M4 4 2) M4.1.length 0 (some (b + 4))) M4.1.length = 4 := (rn_nw_kn (M := M4) (k := 4) (n := 2)).1
        generalize rn_sr (rn_nw M4 4 2) M4.1.length 0 (some (b + 4)) = M5 at *
        have qa5 : rn_qa M5 (b + 3) 3 20 := by
          have ap := (rn_kd_ap e1).1 (b + 3) (by omega)
          unfold rn_qa; rw [ap.1, ap.2]; exact kd.2.2.2
        refine rb_Bo_init_118 (c2 := 3) (n1 := 20) qa5 e4 (by omega) ?_
        have := ih (l + 1) (rn_sr M5 (b + 3) l (some M4.1.length)) (by omega) ?_
        · rw [show ((l + 1 : Nat) : Int) = (l : Int) + 1 by omega] at this
          exact this
        · obtain ⟨b1, b2, b3, b4, b5, b6, b7, b8⟩ := bo
          refine ⟨?_, ⟨?_, ?_⟩, fun x hx => ⟨(e3 x (by omega)).1.trans (b3 x hx).1, fun j => ?_⟩, ⟨?_, fun j hj => ?_⟩, ⟨?_, ?_, ?_⟩, fun q hq => ⟨?_, ?_, ?_, ?_, ?_, ?_⟩, fun q hq => ?_, fun q hq => ?_⟩
          · show M5.1 = _
            rw [e1, b1]; show _ = M.1 ++ ([(35, 6), (38, 10), (33, 20)] ++ rn_rl 6 ++ rn_rp (9, 5) 10 ++ (rn_rp (4, 2) l ++ [(4, 2)]))
            simp
          · show 63 ≤ M5.2.1.1 + _ + _ + _ + _; omega
          · show 3000 ≤ M5.2.1.2 + _ + _ + _ + _; omega
          · rw [rn_sr_ne (by omega), (e3 x (by omega)).2]; exact (b3 x hx).2 j
          · show rn_gi M5 b 3 = _; rw [(e3 b (by omega)).1]; exact b4.1
          · show rn_gi M5 b j = _; rw [(e3 b (by omega)).1]; exact b4.2 j hj
          · rw [rn_sr_ne (by omega), (e3 b (by omega)).2]; exact b5.1
          · rw [rn_sr_ne (by omega), (e3 b (by omega)).2]; exact b5.2.1
          · rw [rn_sr_ne (by omega), (e3 b (by omega)).2]; exact b5.2.2
          · rw [rn_sr_ne (by omega), (e3 _ (by omega)).2]; exact (b6 q hq).1
          · show rn_gi M5 _ 0 = _; rw [(e3 _ (by omega)).1]; exact (b6 q hq).2.1
          · rw [rn_sr_ne (by omega), (e3 _ (by omega)).2]; exact (b6 q hq).2.2.1
          · rw [rn_sr_ne (by omega), (e3 _ (by omega)).2]; exact (b6 q hq).2.2.2.1
          · rw [rn_sr_ne (by omega), (e3 _ (by omega)).2]; exact (b6 q hq).2.2.2.2.1
          · rw [rn_sr_ne (by omega), (e3 _ (by omega)).2]; exact (b6 q hq).2.2.2.2.2
          · rw [rn_sr_ne (by omega), (e3 _ (by omega)).2]; exact b7 q hq
          · by_cases c : q = l
            · rw [c, rn_sr_eq, len]
            · rw [rn_sr_ne (fun z => c z.2), (e3 _ (by omega)).2]; exact b8 q (by omega)
      · intro z; omega
  have towns : ∀ (m j : Nat) (M4 : rn_M), m + j = 10 → rn_bo M M4 b 6 j 0 → rn_WP 0 67 [rn_R b, rn_I (j : Int)] [] M4 Q := by
    intro m
    induction m with
    | zero =>
      intro j M4 hj bo
      have kd := rn_bo_kd len0 kk0 bo
      refine rb_Bo_init_67 (g1 := b + 2) kd.1 bo.2.2.2.2.1.2.1 rn_nw_kn.1 ?_ ?_ ?_
      · intro z; omega
      · intro z; omega
      · intro _
        rw [show j = 10 by omega] at bo
        exact labels 20 0 M4 (by omega) bo
    | succ m ih =>
      intro j M4 hj bo
      have kd := rn_bo_kd len0 kk0 bo
      have len := rn_bo_len len0 bo
      refine rb_Bo_init_67 (g1 := b + 2) kd.1 bo.2.2.2.2.1.2.1 rn_nw_kn.1 ?_ ?_ ?_
      · intro _; have := bo.2.1; omega
      · intro _
        refine re_To_init (rb_To_init_0 ?_)
        have e1 : (rn_nw M4 9 5).1 = M4.1 ++ [(9, 5)] := rfl
        have e2 : (rn_nw M4 9 5).2.1.1 = M4.2.1.1 - 1 ∧ (rn_nw M4 9 5).2.1.2 = M4.2.1.2 - 5 := ⟨rfl, rfl⟩
        have e3 : ∀ x, x < M4.1.length → rn_gi (rn_nw M4 9 5) x = rn_gi M4 x ∧ ∀ j, rn_gr (rn_nw M4 9 5) x j = rn_gr M4 x j := fun x hx => ⟨funext fun j => (rn_nw_gi hx j).1, fun j => (rn_nw_gi hx j).2⟩
        have e4 : rn_kd (rn_nw M4 9 5) M4.1.length = 9 := rn_nw_kn.1
        generalize rn_nw M4 9 5 = M5 at *
        have qa5 : rn_qa M5 (b + 2) 8 10 := by
          have ap := (rn_kd_ap e1).1 (b + 2) (by omega)
          unfold rn_qa; rw [ap.1, ap.2]; exact kd.2.2.1
        refine rb_Bo_init_85 (c2 := 8) (n1 := 10) qa5 e4 (by omega) ?_
        have := ih (j + 1) (rn_sr M5 (b + 2) j (some M4.1.length)) (by omega) ?_
        · rw [show ((j + 1 : Nat) : Int) = (j : Int) + 1 by omega] at this
          exact this
        · obtain ⟨b1, b2, b3, b4, b5, b6, b7, b8⟩ := bo
          refine ⟨?_, ⟨?_, ?_⟩, fun x hx => ⟨(e3 x (by omega)).1.trans (b3 x hx).1, fun j => ?_⟩, ⟨?_, fun j hj => ?_⟩, ⟨?_, ?_, ?_⟩, fun q hq => ⟨?_, ?_, ?_, ?_, ?_, ?_⟩, fun q hq => ?_, fun q hq => by omega⟩
          · show M5.1 = _
            rw [e1, b1]; show _ = M.1 ++ ([(35, 6), (38, 10), (33, 20)] ++ rn_rl 6 ++ (rn_rp (9, 5) j ++ [(9, 5)]) ++ [])
            show (M.1 ++ ([(35, 6), (38, 10), (33, 20)] ++ rn_rl 6 ++ rn_rp (9, 5) j ++ [])) ++ [(9, 5)] = _
            simp
          · show 63 ≤ M5.2.1.1 + _ + _ + _ + _; omega
          · show 3000 ≤ M5.2.1.2 + _ + _ + _ + _; omega
          · rw [rn_sr_ne (by omega), (e3 x (by omega)).2]; exact (b3 x hx).2 j
          · show rn_gi M5 b 3 = _; rw [(e3 b (by omega)).1]; exact b4.1
          · show rn_gi M5 b j = _; rw [(e3 b (by omega)).1]; exact b4.2 j hj
          · rw [rn_sr_ne (by omega), (e3 b (by omega)).2]; exact b5.1
          · rw [rn_sr_ne (by omega), (e3 b (by omega)).2]; exact b5.2.1
          · rw [rn_sr_ne (by omega), (e3 b (by omega)).2]; exact b5.2.2
          · rw [rn_sr_ne (by omega), (e3 _ (by omega)).2]; exact (b6 q hq).1
          · show rn_gi M5 _ 0 = _; rw [(e3 _ (by omega)).1]; exact (b6 q hq).2.1
          · rw [rn_sr_ne (by omega), (e3 _ (by omega)).2]; exact (b6 q hq).2.2.1
          · rw [rn_sr_ne (by omega), (e3 _ (by omega)).2]; exact (b6 q hq).2.2.2.1
          · rw [rn_sr_ne (by omega), (e3 _ (by omega)).2]; exact (b6 q hq).2.2.2.2.1
          · rw [rn_sr_ne (by omega), (e3 _ (by omega)).2]; exact (b6 q hq).2.2.2.2.2
          · by_cases c : q = j
            · rw [c, rn_sr_eq, len, show b + 4 + 5 * 6 + j + 0 = b + 34 + j by omega]
            · rw [rn_sr_ne (fun z => c z.2), (e3 _ (by omega)).2]; exact b7 q (by omega)
      · intro z; omega
  have rivers : ∀ (m i : Nat) (M4 : rn_M), m + i = 6 → rn_bo M M4 b i 0 0 → rn_WP 0 39 [rn_R b, rn_I (i : Int)] [] M4 Q := by
    intro m
    induction m with
    | zero =>
      intro i M4 hi bo
      have kd := rn_bo_kd len0 kk0 bo
      refine rb_Bo_init_39 (g1 := b + 1) kd.1 bo.2.2.2.2.1.1 rn_nw_kn.1 ?_ ?_ ?_
      · intro z; omega
      · intro z; omega
      · intro _
        rw [show i = 6 by omega] at bo
        exact towns 10 0 M4 (by omega) bo
    | succ m ih =>
      intro i M4 hi bo
      have kd := rn_bo_kd len0 kk0 bo
      have len := rn_bo_len len0 bo
      refine rb_Bo_init_39 (g1 := b + 1) kd.1 bo.2.2.2.2.1.1 rn_nw_kn.1 ?_ ?_ ?_
      · intro _; have := bo.2.1; omega
      · intro _
        have bb := bo.2.1
        refine ⟨show 4 ≤ M4.2.1.1 - 1 by omega, show 400 ≤ M4.2.1.2 - 9 by omega, ?_⟩
        refine rs_Ri_init (M := rn_sb (rn_nw M4 6 9) 4 400) (a := M4.1.length) rn_nw_len (rn_nw_kn (M := M4) (k := 6) (n := 9)).1 (Nat.le_refl 4) (Nat.le_refl 400) (fun M6 e1 e3 e0 er => ?_)
        have e1 : M6.1 = M4.1 ++ [(6, 9), (20, 12), (20, 60), (20, 61), (20, 61)] := by
          rw [e1]
          show (M4.1 ++ [(6, 9)]) ++ [(20, 12), (20, 60), (20, 61), (20, 61)] = _
          simp
        have e3 : ∀ x, x < M4.1.length → rn_gi M6 x = rn_gi M4 x ∧ ∀ j, rn_gr M6 x j = rn_gr M4 x j := fun x hx => ⟨(e3 x hx).1.trans (funext fun j => (rn_nw_gi (k := 6) (n := 9) hx j).1), fun j => ((e3 x hx).2 j).trans (rn_nw_gi (k := 6) (n := 9) hx j).2⟩
        have e4 : rn_kd M6 M4.1.length = 6 := ((rn_kd_ap e1).2 0).1
        have qa5 : rn_qa M6 (b + 1) 5 6 := by
          have ap := (rn_kd_ap e1).1 (b + 1) (by omega)
          unfold rn_qa; rw [ap.1, ap.2]; exact kd.2.1
        refine rb_Bo_init_58 (c2 := 5) (n1 := 6) (M := rn_sb M6 (M4.2.1.1 - 1 - 4) (M4.2.1.2 - 9 - 400)) qa5 e4 (by omega) ?_
        have := ih (i + 1) (rn_sr (rn_sb M6 (M4.2.1.1 - 1 - 4) (M4.2.1.2 - 9 - 400)) (b + 1) i (some M4.1.length)) (by omega) ?_
        · rw [show ((i + 1 : Nat) : Int) = (i : Int) + 1 by omega] at this
          exact this
        · have h5 : ∀ x j, rn_gi (rn_sr (rn_sb M6 (M4.2.1.1 - 1 - 4) (M4.2.1.2 - 9 - 400)) (b + 1) i (some M4.1.length)) x j = rn_gi M6 x j := fun _ _ => rfl
          have h6 : ∀ x j, ¬ (x = b + 1 ∧ j = i) → rn_gr (rn_sr (rn_sb M6 (M4.2.1.1 - 1 - 4) (M4.2.1.2 - 9 - 400)) (b + 1) i (some M4.1.length)) x j = rn_gr M6 x j := fun x j h => by rw [rn_sr_ne h]; rfl
          have h7 : rn_gr (rn_sr (rn_sb M6 (M4.2.1.1 - 1 - 4) (M4.2.1.2 - 9 - 400)) (b + 1) i (some M4.1.length)) (b + 1) i = some M4.1.length := rn_sr_eq
          have h8 : (rn_sr (rn_sb M6 (M4.2.1.1 - 1 - 4) (M4.2.1.2 - 9 - 400)) (b + 1) i (some M4.1.length)).1 = M6.1 := rfl
          have h9 : (rn_sr (rn_sb M6 (M4.2.1.1 - 1 - 4) (M4.2.1.2 - 9 - 400)) (b + 1) i (some M4.1.length)).2.1 = (M4.2.1.1 - 1 - 4, M4.2.1.2 - 9 - 400) := rfl
          generalize rn_sr (rn_sb M6 (M4.2.1.1 - 1 - 4) (M4.2.1.2 - 9 - 400)) (b + 1) i (some M4.1.length) = M7 at *
          have h5 : ∀ x, rn_gi M7 x = rn_gi M6 x := fun x => funext (h5 x)
          obtain ⟨b1, b2, b3, b4, b5, b6, b7, b8⟩ := bo
          refine ⟨?_, ⟨?_, ?_⟩, fun x hx => ⟨?_, fun j => ?_⟩, ⟨?_, fun j hj => ?_⟩, ⟨?_, ?_, ?_⟩, fun q hq => ?_, fun q hq => by omega, fun q hq => by omega⟩
          · rw [h8, e1, b1]
            show (M.1 ++ ([(35, 6), (38, 10), (33, 20)] ++ rn_rl i ++ [] ++ [])) ++ _ = M.1 ++ ([(35, 6), (38, 10), (33, 20)] ++ (rn_rl i ++ [(6, 9), (20, 12), (20, 60), (20, 61), (20, 61)]) ++ [] ++ [])
            simp
          · rw [h9]; show 63 ≤ M4.2.1.1 - 1 - 4 + _ + _ + _ + _; omega
          · rw [h9]; show 3000 ≤ M4.2.1.2 - 9 - 400 + _ + _ + _ + _; omega
          · rw [h5, (e3 x (by omega)).1]; exact (b3 x hx).1
          · rw [h6 x j (by omega), (e3 x (by omega)).2]; exact (b3 x hx).2 j
          · rw [h5, (e3 b (by omega)).1]; exact b4.1
          · rw [h5, (e3 b (by omega)).1]; exact b4.2 j hj
          · rw [h6 b 4 (by omega), (e3 b (by omega)).2]; exact b5.1
          · rw [h6 b 5 (by omega), (e3 b (by omega)).2]; exact b5.2.1
          · rw [h6 b 6 (by omega), (e3 b (by omega)).2]; exact b5.2.2
          · by_cases c : q = i
            · subst c
              have lq : M4.1.length = b + 4 + 5 * q := by omega
              rw [lq] at e0 er h7
              rw [h7, h5, h6 _ 5 (by omega), h6 _ 6 (by omega), h6 _ 7 (by omega), h6 _ 8 (by omega), er.1, er.2.1, er.2.2.1, er.2.2.2]
              refine ⟨rfl, e0, ?_, ?_, ?_, ?_⟩ <;> (congr 1; omega)
            · have := b6 q (by omega)
              rw [h6 _ q (by omega), h5, h6 _ 5 (by omega), h6 _ 6 (by omega), h6 _ 7 (by omega), h6 _ 8 (by omega), (e3 _ (by omega)).1, (e3 (b + 1) (by omega)).2, (e3 (b + 4 + 5 * q) (by omega)).2, (e3 (b + 4 + 5 * q) (by omega)).2, (e3 (b + 4 + 5 * q) (by omega)).2, (e3 (b + 4 + 5 * q) (by omega)).2]
              exact this
      · intro z; omega
  exact rivers 6 0 M3 (by omega) bo
theorem rs_board (k : ∀ M', M'.1 = M.1 ++ rn_SB → (∀ x, x < M.1.length → rn_gi M' x = rn_gi M x ∧ ∀ j, rn_gr M' x j = rn_gr M x j) → rn_nbd M' M.1.length → Q none M') : rn_ME 0 [rn_R M.1.length] (rn_sb (rn_nw M 1 7) 63 3000) Q := by
  refine rs_Bo_init (M := rn_sb (rn_nw M 1 7) 63 3000) (b := M.1.length) rn_nw_len (rn_nw_kn (M := M) (k := 1) (n := 7)).1 (Nat.le_refl 63) (Nat.le_refl 3000) (fun M' bo => ?_)
  obtain ⟨b1, b2, b3, b4, b5, b6, b7, b8⟩ := bo
  refine k M' ?_ (fun x hx => ⟨(b3 x hx).1.trans (funext fun j => (rn_nw_gi (k := 1) (n := 7) hx j).1), fun j => ((b3 x hx).2 j).trans (rn_nw_gi (k := 1) (n := 7) hx j).2⟩) ⟨⟨?_, ?_, ?_, b4.1⟩, b5, b6, b7, b8⟩
  · rw [b1]
    show (M.1 ++ [(1, 7)]) ++ _ = _
    rw [List.append_assoc]
    rfl
  · rw [b4.2 0 (by omega)]; exact (rn_nw_gn (M := M) (k := 1) (n := 7) 0).1
  · rw [b4.2 1 (by omega)]; exact (rn_nw_gn (M := M) (k := 1) (n := 7) 1).1
  · rw [b4.2 2 (by omega)]; exact (rn_nw_gn (M := M) (k := 1) (n := 7) 2).1
end CT2
