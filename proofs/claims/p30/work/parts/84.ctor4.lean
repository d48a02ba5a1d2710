/-! constructors: the class's object; the law's start -/
def rn_N0 (j : Nat) : Int := if j = 3 then 10 else 0
/-- what stands in the class's object -/
def rn_ok8 (M : rn_M) : Prop := (rn_gr M 8 0 = some 9 ∧ rn_gr M 8 1 = some 12 ∧ rn_gr M 8 2 = some 462 ∧ rn_gr M 8 3 = some 464) ∧ (rn_gr M 9 0 = some 10 ∧ rn_gr M 10 1 = some 11 ∧ rn_gr M 12 1 = some 13 ∧ rn_gr M 12 2 = some 14 ∧ rn_gr M 12 3 = some 78 ∧ rn_gr M 462 0 = some 463 ∧ rn_gr M 464 1 = some 465) ∧
  (∀ i : Nat, i < 5 → rn_gr M 13 i = some (142 + 64 * i)) ∧ (∀ j, j < 7 → rn_nbd M (14 + 64 * j)) ∧ rn_gi M 10 0 = 0 ∧ rn_gi M 12 0 = 0
def rn_l8 : List (Nat × Nat) := [(5, 5), (8, 2), (20, 150)] ++ ([(2, 4)] ++ ([(30, 5)] ++ rn_bl 7)) ++ [(3, 1), (20, 61)] ++ [(7, 2), (20, 2400)]
section CT4
variable {M : rn_M} {Q : rn_Q}
/-- an object is made at c and put into the field f of a -/
theorem rn_obj {M1 B : rn_M} {c f nn n : Nat} {l : List (Nat × Nat)} {p q : Nat} (hc : M.1.length = c) (h8 : 8 < c) (e1 : M1.1 = (M.1 ++ [(nn, n)]) ++ l) (e2 : rn_xl c M M1) (hB : B = rn_sr (rn_sb M1 p q) 8 f (some c)) : B.1 = M.1 ++ ((nn, n) :: l) ∧ B.2.1 = (p, q) ∧ (∀ x, rn_gi B x = rn_gi M1 x) ∧ (∀ x j, ¬ (x = 8 ∧ j = f) → rn_gr B x j = rn_gr M1 x j) ∧ rn_gr B 8 f = some c ∧ (∀ x, x < c → rn_gi B x = rn_gi M x ∧ ∀ j, ¬ (x = 8 ∧ j = f) → rn_gr B x j = rn_gr M x j) := by
  subst hB
  have s : ∀ x j, ¬ (x = 8 ∧ j = f) → rn_gr (rn_sr (rn_sb M1 p q) 8 f (some c)) x j = rn_gr M1 x j := fun x j h => by rw [rn_sr_ne h]; rfl
  refine ⟨?_, rfl, fun _ => rfl, s, rn_sr_eq, fun x hx => ⟨(e2 x hx).1, fun j hj => (s x j hj).trans ((e2 x hx).2 j)⟩⟩
  show M1.1 = _
  rw [e1]; simp
theorem rn_nwf {k n p q : Nat} {c : Nat} (hc : M.1.length = c) : (rn_sb (rn_nw M k n) p q).1 = M.1 ++ [(k, n)] ∧ (rn_sb (rn_nw M k n) p q).1.length = c + 1 ∧ rn_kd (rn_sb (rn_nw M k n) p q) c = k ∧ rn_xl c M (rn_sb (rn_nw M k n) p q) ∧ (∀ j, rn_gi (rn_sb (rn_nw M k n) p q) c j = 0) ∧ (rn_sb (rn_nw M k n) p q).2.1 = (p, q) := by
  subst hc
  exact ⟨rfl, rn_nw_len, (rn_nw_kn (M := M) (k := k) (n := n)).1, rn_xl_nw (M := M) (k := k) (n := n), fun j => (rn_nw_gn (M := M) (k := k) (n := n) j).1, rfl⟩
theorem rs_RN_init (len0 : M.1.length = 9) (kk0 : rn_kd M 8 = 10) (hc : 600 ≤ M.2.1.1) (hs : 50000 ≤ M.2.1.2) (k : ∀ M', M'.1 = M.1 ++ rn_l8 → rn_xl 8 M M' → rn_ok8 M' → Q none M') : rn_ME 90 [rn_R 8] M Q := by
  -- the reader
  obtain ⟨a1, a2, a3, a4, a5, a6⟩ := rn_nwf (M := M) (k := 5) (n := 5) (p := 2) (q := 200) len0
  refine re_RN_init (rb_RN_init_0 rn_nw_kn.1 (by omega) ⟨show 2 ≤ M.2.1.1 - 1 by omega, show 200 ≤ M.2.1.2 - 5 by omega, ?_⟩)
  show rn_ME 45 [rn_R M.1.length] (rn_sb (rn_nw M 5 5) 2 200) (fun r M1 => rn_WP 90 12 [rn_R 8] (r.toList ++ [rn_R M.1.length, rn_R 8]) (rn_sb M1 (M.2.1.1 - 1 - 2) (M.2.1.2 - 5 - 200)) Q)
  rw [len0]
  generalize rn_sb (rn_nw M 5 5) 2 200 = A1 at *
  refine rs_Re_init a2 a3 (by rw [a6]; decide) (by rw [a6]; decide) (fun M1 e1 e3 r1 r2 z1 => ?_)
  show rn_WP 90 12 [rn_R 8] [rn_R 9, rn_R 8] (rn_sb M1 (M.2.1.1 - 1 - 2) (M.2.1.2 - 5 - 200)) Q
  obtain ⟨p1x, hp1x⟩ : ∃ x, x = M.2.1.1 - 1 - 2 := ⟨_, rfl⟩
  obtain ⟨q1x, hq1x⟩ : ∃ x, x = M.2.1.2 - 5 - 200 := ⟨_, rfl⟩
  rw [← hp1x, ← hq1x]
  have bp1x : 597 ≤ p1x ∧ 49795 ≤ q1x := by omega
  clear hp1x hq1x
  rw [a1] at e1
  have x1 : rn_xl 9 M M1 := rn_xl_tr a4 e3
  have kd1 : rn_kd M1 8 = 10 := by
    have : M1.1 = M.1 ++ ([(5, 5)] ++ [(8, 2), (20, 150)]) := by rw [e1]; simp
    rw [((rn_kd_ap this).1 8 (by omega)).1]; exact kk0
  have o1 := rn_obj (M := M) (M1 := M1) (c := 9) (f := 0) (nn := 5) (n := 5) (p := p1x) (q := q1x) len0 (by omega) e1 x1 rfl
  obtain ⟨p1, p2, p3, p4, p5, p6⟩ := o1
  have lenC : (rn_sr (rn_sb M1 (p1x) (q1x)) 8 0 (some 9)).1.length = 12 := by rw [p1, List.length_append, len0]; rfl
  refine rb_RN_init_12 (M := rn_sb M1 (p1x) (q1x)) (rs0 := some 9) kd1 rn_nw_kn.1 (show 1 ≤ p1x ∧ 4 ≤ q1x by omega) ?_
  have kdC : rn_kd (rn_sr (rn_sb M1 (p1x) (q1x)) 8 0 (some 9)) 8 = 10 := kd1
  show 500 ≤ p1x - 1 ∧ 30000 ≤ q1x - 4 ∧ rn_ME 19 [rn_R (rn_sr (rn_sb M1 (p1x) (q1x)) 8 0 (some 9)).1.length] (rn_sb (rn_nw (rn_sr (rn_sb M1 (p1x) (q1x)) 8 0 (some 9)) 2 4) 500 30000) (fun r M2 => rn_WP 90 23 [rn_R 8] (r.toList ++ [rn_R (rn_sr (rn_sb M1 (p1x) (q1x)) 8 0 (some 9)).1.length, rn_R 8]) (rn_sb M2 (p1x - 1 - 500) (q1x - 4 - 30000)) Q)
  generalize rn_sr (rn_sb M1 (p1x) (q1x)) 8 0 (some 9) = C1 at *
  refine ⟨by omega, by omega, ?_⟩
  rw [lenC]
  have c9 : rn_gr C1 9 0 = some 10 := (p4 9 0 (by omega)).trans r1
  have c10 : rn_gr C1 10 1 = some 11 := (p4 10 1 (by omega)).trans r2
  have z10 : rn_gi C1 10 0 = 0 := by rw [p3]; exact z1 0
  have xC : rn_xl 8 M C1 := fun x hx => ⟨(p6 x (by omega)).1, fun j => (p6 x (by omega)).2 j (by omega)⟩
  clear p2 p3 p4 p6 e1 e3 r1 r2 z1 x1 kd1 a1 a2 a3 a4 a5 a6
  -- the history
  obtain ⟨a1, a2, a3, a4, a5, a6⟩ := rn_nwf (M := C1) (k := 2) (n := 4) (p := 500) (q := 30000) lenC
  generalize rn_sb (rn_nw C1 2 4) 500 30000 = A2 at *
  refine rs_Hi_init a2 a3 (by rw [a6]; decide) (by rw [a6]; decide) (fun M2 e1 e3 e4 r1 r2 nb => ?_)
  show rn_WP 90 23 [rn_R 8] [rn_R 12, rn_R 8] (rn_sb M2 (p1x - 1 - 500) (q1x - 4 - 30000)) Q
  obtain ⟨p2x, hp2x⟩ : ∃ x, x = p1x - 1 - 500 := ⟨_, rfl⟩
  obtain ⟨q2x, hq2x⟩ : ∃ x, x = q1x - 4 - 30000 := ⟨_, rfl⟩
  rw [← hp2x, ← hq2x]
  have bp2x : 96 ≤ p2x ∧ 19791 ≤ q2x := by omega
  clear hp2x hq2x
  rw [a1] at e1
  have x2 : rn_xl 12 C1 M2 := rn_xl_tr a4 e3
  have kd2 : rn_kd M2 8 = 10 := by
    have : M2.1 = C1.1 ++ ([(2, 4)] ++ ([(30, 5)] ++ rn_bl 7)) := by rw [e1]; simp
    rw [((rn_kd_ap this).1 8 (by omega)).1]; exact kdC
  obtain ⟨s1, s2, s3, s4, s5, s6⟩ := rn_obj (M := C1) (M1 := M2) (c := 12) (f := 1) (nn := 2) (n := 4) (p := p2x) (q := q2x) lenC (by omega) e1 x2 rfl
  have lenD : (rn_sr (rn_sb M2 (p2x) (q2x)) 8 1 (some 12)).1.length = 462 := by
    rw [s1, List.length_append, lenC, List.length_cons, List.length_append, rn_bl_len]; rfl
  refine rb_RN_init_23 (M := rn_sb M2 (p2x) (q2x)) (rs0 := some 12) kd2 rn_nw_kn.1 (show 1 ≤ p2x ∧ 1 ≤ q2x by omega) ?_
  have kdD : rn_kd (rn_sr (rn_sb M2 (p2x) (q2x)) 8 1 (some 12)) 8 = 10 := kd2
  show 1 ≤ p2x - 1 ∧ 70 ≤ q2x - 1 ∧ rn_ME 25 [rn_R (rn_sr (rn_sb M2 (p2x) (q2x)) 8 1 (some 12)).1.length] (rn_sb (rn_nw (rn_sr (rn_sb M2 (p2x) (q2x)) 8 1 (some 12)) 3 1) 1 70) (fun r M3 => rn_WP 90 34 [rn_R 8] (r.toList ++ [rn_R (rn_sr (rn_sb M2 (p2x) (q2x)) 8 1 (some 12)).1.length, rn_R 8]) (rn_sb M3 (p2x - 1 - 1) (q2x - 1 - 70)) Q)
  generalize rn_sr (rn_sb M2 (p2x) (q2x)) 8 1 (some 12) = D at *
  refine ⟨by omega, by omega, ?_⟩
  rw [lenD]
  have d12 : rn_gr D 12 1 = some 13 ∧ rn_gr D 12 2 = some 14 ∧ rn_gr D 12 3 = some 78 := ⟨(s4 12 1 (by omega)).trans r1.1, (s4 12 2 (by omega)).trans r1.2.1, (s4 12 3 (by omega)).trans r1.2.2⟩
  have d13 : ∀ i : Nat, i < 5 → rn_gr D 13 i = some (142 + 64 * i) := fun i hi => (s4 13 i (by omega)).trans (r2 i hi)
  have dnb : ∀ j, j < 7 → rn_nbd D (14 + 64 * j) := fun j hj => rn_nbd_eq (M := M2) (fun x x1 x2 => ⟨s3 x, fun i => s4 x i (by omega)⟩) (nb j hj)
  have z12 : rn_gi D 12 0 = 0 := by rw [s3, e4]; exact a5 0
  have d8 : rn_gr D 8 0 = some 9 := ((s6 8 (by omega)).2 0 (by omega)).trans p5
  have d9 : rn_gr D 9 0 = some 10 := ((s6 9 (by omega)).2 0 (by omega)).trans c9
  have d10 : rn_gr D 10 1 = some 11 := ((s6 10 (by omega)).2 1 (by omega)).trans c10
  have y10 : rn_gi D 10 0 = 0 := by rw [(s6 10 (by omega)).1]; exact z10
  have xD : rn_xl 8 M D := fun x hx => ⟨(s6 x (by omega)).1.trans (xC x hx).1, fun j => ((s6 x (by omega)).2 j (by omega)).trans ((xC x hx).2 j)⟩
  have lD : D.1 = M.1 ++ ([(5, 5), (8, 2), (20, 150)] ++ ([(2, 4)] ++ ([(30, 5)] ++ rn_bl 7))) := by
    rw [s1, p1]; simp
  clear s2 s3 s4 s6 s1 e1 e3 e4 r1 r2 nb x2 kd2 a1 a2 a3 a4 a5 a6 c9 c10 z10 xC p1 p5 kdC
  -- the judge
  obtain ⟨a1, a2, a3, a4, a5, a6⟩ := rn_nwf (M := D) (k := 3) (n := 1) (p := 1) (q := 70) lenD
  generalize rn_sb (rn_nw D 3 1) 1 70 = A3 at *
  refine re_Ju_init (rb_Ju_init_0 ((rn_nw_kd (by omega)).1.trans a3) (by rw [a6]; decide) ?_)
  obtain ⟨e1, e3, r1⟩ := rn_one (M := A3) (a := 462) (f := 0) (n := 61) a2 _ rfl
  generalize rn_sr (rn_nw A3 20 61) 462 0 (some A3.1.length) = M3 at *
  show rn_WP 90 34 [rn_R 8] [rn_R 462, rn_R 8] (rn_sb M3 (p2x - 1 - 1) (q2x - 1 - 70)) Q
  obtain ⟨p3x, hp3x⟩ : ∃ x, x = p2x - 1 - 1 := ⟨_, rfl⟩
  obtain ⟨q3x, hq3x⟩ : ∃ x, x = q2x - 1 - 70 := ⟨_, rfl⟩
  rw [← hp3x, ← hq3x]
  have bp3x : 94 ≤ p3x ∧ 19720 ≤ q3x := by omega
  clear hp3x hq3x
  rw [a1] at e1
  have x3 : rn_xl 462 D M3 := rn_xl_tr a4 e3
  have kd3 : rn_kd M3 8 = 10 := by
    have : M3.1 = D.1 ++ ([(3, 1)] ++ [(20, 61)]) := by rw [e1]; simp
    rw [((rn_kd_ap this).1 8 (by omega)).1]; exact kdD
  obtain ⟨s1, s2, s3, s4, s5', s6⟩ := rn_obj (M := D) (M1 := M3) (c := 462) (f := 2) (nn := 3) (n := 1) (p := p3x) (q := q3x) lenD (by omega) e1 x3 rfl
  have lenE : (rn_sr (rn_sb M3 (p3x) (q3x)) 8 2 (some 462)).1.length = 464 := by
    rw [s1, List.length_append, lenD]; rfl
  refine rb_RN_init_34 (M := rn_sb M3 (p3x) (q3x)) (rs0 := some 462) kd3 rn_nw_kn.1 (show 1 ≤ p3x ∧ 2 ≤ q3x by omega) ?_
  have kdE : rn_kd (rn_sr (rn_sb M3 (p3x) (q3x)) 8 2 (some 462)) 8 = 10 := kd3
  show 1 ≤ p3x - 1 ∧ 2400 ≤ q3x - 2 ∧ rn_ME 78 [rn_R (rn_sr (rn_sb M3 (p3x) (q3x)) 8 2 (some 462)).1.length] (rn_sb (rn_nw (rn_sr (rn_sb M3 (p3x) (q3x)) 8 2 (some 462)) 7 2) 1 2400) (fun r M4 => rn_WP 90 45 [rn_R 8] (r.toList ++ [rn_R (rn_sr (rn_sb M3 (p3x) (q3x)) 8 2 (some 462)).1.length, rn_R 8]) (rn_sb M4 (p3x - 1 - 1) (q3x - 2 - 2400)) Q)
  generalize rn_sr (rn_sb M3 (p3x) (q3x)) 8 2 (some 462) = E at *
  refine ⟨by omega, by omega, ?_⟩
  rw [lenE]
  have e462 : rn_gr E 462 0 = some 463 := (s4 462 0 (by omega)).trans r1
  have e8 : rn_gr E 8 0 = some 9 ∧ rn_gr E 8 1 = some 12 := ⟨((s6 8 (by omega)).2 0 (by omega)).trans d8, ((s6 8 (by omega)).2 1 (by omega)).trans s5⟩
  have tE : ∀ x, x < 462 → x ≠ 8 → rn_gi E x = rn_gi D x ∧ ∀ j, rn_gr E x j = rn_gr D x j := fun x hx h8 => ⟨(s6 x hx).1, fun j => (s6 x hx).2 j (by omega)⟩
  have lE : E.1 = M.1 ++ ([(5, 5), (8, 2), (20, 150)] ++ ([(2, 4)] ++ ([(30, 5)] ++ rn_bl 7)) ++ [(3, 1), (20, 61)]) := by
    rw [s1, lD]; simp
  clear s2 s3 s4 s6 s1 e1 e3 r1 x3 kd3 a1 a2 a3 a4 a5 a6 d8 kdD s5
  -- the sheet
  obtain ⟨a1, a2, a3, a4, a5, a6⟩ := rn_nwf (M := E) (k := 7) (n := 2) (p := 1) (q := 2400) lenE
  generalize rn_sb (rn_nw E 7 2) 1 2400 = A4 at *
  refine re_Sh_init (rb_Sh_init_0 ((rn_nw_kd (by omega)).1.trans a3) (by rw [a6]; decide) ?_)
  obtain ⟨e1, e3, r1⟩ := rn_one (M := A4) (a := 464) (f := 1) (n := 2400) a2 _ rfl
  generalize rn_sr (rn_nw A4 20 2400) 464 1 (some A4.1.length) = M4 at *
  show rn_WP 90 45 [rn_R 8] [rn_R 464, rn_R 8] (rn_sb M4 (p3x - 1 - 1) (q3x - 2 - 2400)) Q
  obtain ⟨p4x, hp4x⟩ : ∃ x, x = p3x - 1 - 1 := ⟨_, rfl⟩
  obtain ⟨q4x, hq4x⟩ : ∃ x, x = q3x - 2 - 2400 := ⟨_, rfl⟩
  rw [← hp4x, ← hq4x]
  have bp4x : 92 ≤ p4x ∧ 17318 ≤ q4x := by omega
  clear hp4x hq4x
  rw [a1] at e1
  have x4 : rn_xl 464 E M4 := rn_xl_tr a4 e3
  have kd4 : rn_kd M4 8 = 10 := by
    have : M4.1 = E.1 ++ ([(7, 2)] ++ [(20, 2400)]) := by rw [e1]; simp
    rw [((rn_kd_ap this).1 8 (by omega)).1]; exact kdE
  obtain ⟨s1, s2, s3, s4, s5, s6⟩ := rn_obj (M := E) (M1 := M4) (c := 464) (f := 3) (nn := 7) (n := 2) (p := p4x) (q := q4x) lenE (by omega) e1 x4 rfl
  refine rb_RN_init_45 (M := rn_sb M4 (p4x) (q4x)) (rs0 := some 464) kd4 ?_
  generalize rn_sr (rn_sb M4 (p4x) (q4x)) 8 3 (some 464) = F at *
  have tF : ∀ x, x < 464 → x ≠ 8 → rn_gi F x = rn_gi E x ∧ ∀ j, rn_gr F x j = rn_gr E x j := fun x hx h8 => ⟨(s6 x hx).1, fun j => (s6 x hx).2 j (by omega)⟩
  have tt : ∀ x, x < 462 → x ≠ 8 → rn_gi F x = rn_gi D x ∧ ∀ j, rn_gr F x j = rn_gr D x j := fun x hx h8 => ⟨(tF x (by omega) h8).1.trans (tE x hx h8).1, fun j => ((tF x (by omega) h8).2 j).trans ((tE x hx h8).2 j)⟩
  refine k F ?_ (fun x hx => ⟨(tt x (by omega) (by omega)).1.trans (xD x hx).1, fun j => ((tt x (by omega) (by omega)).2 j).trans ((xD x hx).2 j)⟩) ⟨⟨?_, ?_, ?_, s5⟩, ⟨?_, ?_, ?_, ?_, ?_, ?_, ?_⟩, fun i hi => ?_, fun j hj => ?_, ?_, ?_⟩
  · rw [s1, lE]; unfold rn_l8; simp
  · exact ((s6 8 (by omega)).2 0 (by omega)).trans e8.1
  · exact ((s6 8 (by omega)).2 1 (by omega)).trans e8.2
  · exact ((s6 8 (by omega)).2 2 (by omega)).trans s5'
  · exact ((tt 9 (by omega) (by omega)).2 0).trans d9
  · exact ((tt 10 (by omega) (by omega)).2 1).trans d10
  · exact ((tt 12 (by omega) (by omega)).2 1).trans d12.1
  · exact ((tt 12 (by omega) (by omega)).2 2).trans d12.2.1
  · exact ((tt 12 (by omega) (by omega)).2 3).trans d12.2.2
  · exact ((tF 462 (by omega) (by omega)).2 0).trans e462
  · exact (s4 464 1 (by omega)).trans r1
  · exact ((tt 13 (by omega) (by omega)).2 i).trans (d13 i hi)
  · exact rn_nbd_eq (M := D) (fun x x1 x2 => ⟨(tt x (by omega) (by omega)).1, fun i => (tt x (by omega) (by omega)).2 i⟩) (dnb j hj)
  · rw [(tt 10 (by omega) (by omega)).1]; exact y10
  · rw [(tt 12 (by omega) (by omega)).1]; exact z12
end CT4
