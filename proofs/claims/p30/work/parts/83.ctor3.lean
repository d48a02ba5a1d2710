/-! constructors: the history, the class's object -/
/-- M' is M with more cells: those below c are the same -/
def rn_xl (c : Nat) (M M' : rn_M) : Prop := ∀ x, x < c → rn_gi M' x = rn_gi M x ∧ ∀ j, rn_gr M' x j = rn_gr M x j
theorem rn_xl_tr {c : Nat} {M M1 M2 : rn_M} (h : rn_xl c M M1) (g : rn_xl c M1 M2) : rn_xl c M M2 := fun x hx => ⟨(g x hx).1.trans (h x hx).1, fun j => ((g x hx).2 j).trans ((h x hx).2 j)⟩
theorem rn_xl_le {c d : Nat} {M M1 : rn_M} (h : rn_xl c M M1) (g : d ≤ c) : rn_xl d M M1 := fun x hx => h x (by omega)
theorem rn_xl_nw {M : rn_M} {k n : Nat} : rn_xl M.1.length M (rn_nw M k n) := fun x hx => ⟨funext fun j => (rn_nw_gi (k := k) (n := n) hx j).1, fun j => (rn_nw_gi (k := k) (n := n) hx j).2⟩
theorem rn_xl_sr {c a j : Nat} {v : Option Nat} {M : rn_M} (h : c ≤ a) : rn_xl c M (rn_sr M a j v) := fun x hx => ⟨rfl, fun i => rn_sr_ne (by omega)⟩
def rn_hs0 (M0 M : rn_M) (h q : Nat) : Prop := M.1 = M0.1 ++ ([(30, 5)] ++ rn_bl q) ∧ (500 ≤ M.2.1.1 + 1 + 64 * q ∧ 30000 ≤ M.2.1.2 + 5 + 3007 * q) ∧ rn_xl h M0 M ∧ rn_gi M h = rn_gi M0 h ∧ rn_gr M h 1 = some (h + 1) ∧ ∀ j, j < q → rn_nbd M (h + 2 + 64 * j)
section CT3
variable {M : rn_M} {Q : rn_Q}
theorem rn_hs_len {M0 : rn_M} {h q : Nat} (len0 : M0.1.length = h + 1) (g : rn_hs0 M0 M h q) : M.1.length = h + 2 + 64 * q := by
  rw [g.1, List.length_append, List.length_append, rn_bl_len, len0]
  show h + 1 + (1 + 64 * q) = _
  omega
theorem rn_hs_kd {M0 : rn_M} {h q : Nat} (len0 : M0.1.length = h + 1) (kk0 : rn_kd M0 h = 2) (g : rn_hs0 M0 M h q) : rn_kd M h = 2 ∧ rn_qa M (h + 1) 0 5 := by
  have ap := rn_kd_ap g.1
  rw [len0] at ap
  exact ⟨(ap.1 h (by omega)).1.trans kk0, ap.2 0⟩
theorem rn_hs_sr {M0 : rn_M} {h q a j : Nat} {v : Option Nat} (ha : a = h ∧ j ≠ 1 ∨ a = h + 1) (g : rn_hs0 M0 M h q) : rn_hs0 M0 (rn_sr M a j v) h q := by
  obtain ⟨g1, g2, g3, g4, g5, g6⟩ := g
  refine ⟨g1, g2, fun x hx => ⟨(g3 x hx).1, fun i => (rn_sr_ne (by omega)).trans ((g3 x hx).2 i)⟩, g4, (rn_sr_ne (by omega)).trans g5, fun i hi => rn_nbd_eq (M := M) (fun x x1 x2 => ⟨rfl, fun i => rn_sr_ne (by omega)⟩) (g6 i hi)⟩
theorem rn_hs_b {M0 M1 : rn_M} {h q : Nat} (len0 : M0.1.length = h + 1) (g : rn_hs0 M0 M h q) (hq : q ≤ 6) (e1 : M1.1 = M.1 ++ rn_SB) (e3 : rn_xl M.1.length M M1) (nb : rn_nbd M1 M.1.length) : rn_hs0 M0 (rn_sb M1 (M.2.1.1 - 1 - 63) (M.2.1.2 - 7 - 3000)) h (q + 1) := by
  have len := rn_hs_len len0 g
  obtain ⟨g1, g2, g3, g4, g5, g6⟩ := g
  refine ⟨?_, ⟨?_, ?_⟩, fun x hx => ⟨(e3 x (by omega)).1.trans (g3 x hx).1, fun j => ((e3 x (by omega)).2 j).trans ((g3 x hx).2 j)⟩, (e3 h (by omega)).1.trans g4, ((e3 h (by omega)).2 1).trans g5, fun j hj => ?_⟩
  · show M1.1 = _
    rw [e1, g1]
    show _ = M0.1 ++ ([(30, 5)] ++ (rn_bl q ++ rn_SB))
    simp
  · show 500 ≤ M.2.1.1 - 1 - 63 + 1 + 64 * (q + 1); omega
  · show 30000 ≤ M.2.1.2 - 7 - 3000 + 5 + 3007 * (q + 1); omega
  · by_cases c : j = q
    · subst c
      have := nb
      rw [len] at this
      exact this
    · exact rn_nbd_eq (fun x x1 x2 => ⟨(e3 x (by omega)).1, fun j => (e3 x (by omega)).2 j⟩) (g6 j (by omega))
theorem rs_Hi_init {h : Nat} (len0 : M.1.length = h + 1) (kk0 : rn_kd M h = 2) (hc : 500 ≤ M.2.1.1) (hs : 30000 ≤ M.2.1.2) (k : ∀ M', M'.1 = M.1 ++ ([(30, 5)] ++ rn_bl 7) → rn_xl h M M' → rn_gi M' h = rn_gi M h → (rn_gr M' h 1 = some (h + 1) ∧ rn_gr M' h 2 = some (h + 2) ∧ rn_gr M' h 3 = some (h + 66)) → (∀ i : Nat, i < 5 → rn_gr M' (h + 1) i = some (h + 130 + 64 * i)) → (∀ j, j < 7 → rn_nbd M' (h + 2 + 64 * j)) → Q none M') : rn_ME 19 [rn_R h] M Q := by
  obtain ⟨l1, bc1, bs1, lo1, z1, g1, f1, k1⟩ := rn_alc (M := M) (a := h) (f := 1) (k := 30) (n := 5) (b := h + 1) len0 (by omega)
  refine re_Hi_init (rb_Hi_init_0 ((rn_nw_kd (by omega)).1.trans kk0) rn_nw_kn.1 (show 1 ≤ M.2.1.1 ∧ 5 ≤ M.2.1.2 ∧ 1 ≤ M.2.1.1 - 1 ∧ 7 ≤ M.2.1.2 - 5 by omega) ?_)
  generalize rn_sr (rn_nw M 30 5) h 1 (some M.1.length) = A at *
  have s0 : rn_hs0 M A h 0 := ⟨l1, ⟨by omega, by omega⟩, fun x hx => ⟨lo1 x (by omega), fun j => g1 x j (by omega) (by omega)⟩, lo1 h (by omega), f1, fun j hj => by omega⟩
  have lenA := rn_hs_len len0 s0
  refine ⟨show 63 ≤ A.2.1.1 - 1 by omega, show 3000 ≤ A.2.1.2 - 7 by omega, rs_board (fun M1 e1 e3 nb => ?_)⟩
  have s1 := rn_hs_b len0 s0 (by omega) e1 e3 nb
  show rn_WP 19 20 [rn_R h, rn_J] [rn_R A.1.length, rn_R h] (rn_sb M1 (A.2.1.1 - 1 - 63) (A.2.1.2 - 7 - 3000)) Q
  rw [lenA]
  generalize rn_sb M1 (A.2.1.1 - 1 - 63) (A.2.1.2 - 7 - 3000) = B at *
  have s2 : rn_hs0 M (rn_sr B h 2 (some (h + 2))) h 1 := rn_hs_sr (Or.inl ⟨rfl, by omega⟩) s1
  have r2 : rn_gr (rn_sr B h 2 (some (h + 2))) h 2 = some (h + 2) := rn_sr_eq
  refine rb_Hi_init_20 (rn_hs_kd len0 kk0 s1).1 rn_nw_kn.1 (show 1 ≤ (rn_sr B h 2 (some (h + 2))).2.1.1 ∧ 7 ≤ (rn_sr B h 2 (some (h + 2))).2.1.2 by have := s2.2.1; omega) ?_
  show 63 ≤ _ ∧ 3000 ≤ _ ∧ rn_ME 0 [rn_R (rn_sr B h 2 (some (h + 2))).1.length] (rn_sb (rn_nw (rn_sr B h 2 (some (h + 2))) 1 7) 63 3000) _
  generalize rn_sr B h 2 (some (h + 2)) = C at *
  have lenC := rn_hs_len len0 s2
  have bC := s2.2.1
  refine ⟨show 63 ≤ C.2.1.1 - 1 by omega, show 3000 ≤ C.2.1.2 - 7 by omega, rs_board (fun M2 e1 e3 nb => ?_)⟩
  have s3 := rn_hs_b len0 s2 (by omega) e1 e3 nb
  have r3 : rn_gr (rn_sb M2 (C.2.1.1 - 1 - 63) (C.2.1.2 - 7 - 3000)) h 2 = some (h + 2) := ((e3 h (by omega)).2 2).trans r2
  show rn_WP 19 31 [rn_R h, rn_J] [rn_R C.1.length, rn_R h] (rn_sb M2 (C.2.1.1 - 1 - 63) (C.2.1.2 - 7 - 3000)) Q
  rw [lenC]
  generalize rn_sb M2 (C.2.1.1 - 1 - 63) (C.2.1.2 - 7 - 3000) = D at *
  refine rb_Hi_init_31 (rn_hs_kd len0 kk0 s3).1 ?_
  have s4 : rn_hs0 M (rn_sr D h 3 (some (h + 2 + 64 * 1))) h 2 := rn_hs_sr (Or.inl ⟨rfl, by omega⟩) s3
  have q2 : rn_gr (rn_sr D h 3 (some (h + 2 + 64 * 1))) h 2 = some (h + 2) := by rw [rn_sr_ne (by omega)]; exact r3
  have q3 : rn_gr (rn_sr D h 3 (some (h + 2 + 64 * 1))) h 3 = some (h + 66) := rn_sr_eq
  generalize rn_sr D h 3 (some (h + 2 + 64 * 1)) = E at *
  have loop : ∀ (m i : Nat) (M3 : rn_M), m + i = 5 → rn_hs0 M M3 h (2 + i) → rn_gr M3 h 2 = some (h + 2) → rn_gr M3 h 3 = some (h + 66) → (∀ q : Nat, q < i → rn_gr M3 (h + 1) q = some (h + 130 + 64 * q)) → rn_WP 19 36 [rn_R h, rn_I (i : Int)] [] M3 Q := by
    intro m
    induction m with
    | zero =>
      intro i M3 hi s t2 t3 tk
      have e5 : i = 5 := by omega
      subst e5
      refine rb_Hi_init_36 (g1 := h + 1) (rn_hs_kd len0 kk0 s).1 s.2.2.2.2.1 rn_nw_kn.1 ?_ ?_ ?_
      · intro z; omega
      · intro z; omega
      · intro _; exact k M3 s.1 s.2.2.1 s.2.2.2.1 ⟨s.2.2.2.2.1, t2, t3⟩ tk s.2.2.2.2.2
    | succ m ih =>
      intro i M3 hi s t2 t3 tk
      have len := rn_hs_len len0 s
      have bb := s.2.1
      refine rb_Hi_init_36 (g1 := h + 1) (rn_hs_kd len0 kk0 s).1 s.2.2.2.2.1 rn_nw_kn.1 ?_ ?_ ?_
      · intro _; omega
      · intro _
        refine ⟨show 63 ≤ M3.2.1.1 - 1 by omega, show 3000 ≤ M3.2.1.2 - 7 by omega, rs_board (fun M4 e1 e3 nb => ?_)⟩
        have s5 := rn_hs_b len0 s (by omega) e1 e3 nb
        have u2 : rn_gr (rn_sb M4 (M3.2.1.1 - 1 - 63) (M3.2.1.2 - 7 - 3000)) h 2 = some (h + 2) := ((e3 h (by omega)).2 2).trans t2
        have u3 : rn_gr (rn_sb M4 (M3.2.1.1 - 1 - 63) (M3.2.1.2 - 7 - 3000)) h 3 = some (h + 66) := ((e3 h (by omega)).2 3).trans t3
        have uk : ∀ q : Nat, q < i → rn_gr (rn_sb M4 (M3.2.1.1 - 1 - 63) (M3.2.1.2 - 7 - 3000)) (h + 1) q = some (h + 130 + 64 * q) := fun q hq => ((e3 (h + 1) (by omega)).2 q).trans (tk q hq)
        have kd4 : rn_kd (rn_sb M4 (M3.2.1.1 - 1 - 63) (M3.2.1.2 - 7 - 3000)) M3.1.length = 1 := ((rn_kd_ap e1).2 0).1
        show rn_WP 19 53 [rn_R h, rn_I (i : Int)] [rn_R M3.1.length, rn_I (i : Int), rn_R (h + 1)] (rn_sb M4 (M3.2.1.1 - 1 - 63) (M3.2.1.2 - 7 - 3000)) Q
        rw [len] at kd4 ⊢
        generalize rn_sb M4 (M3.2.1.1 - 1 - 63) (M3.2.1.2 - 7 - 3000) = M5 at *
        refine rb_Hi_init_53 (c2 := 0) (n1 := 5) (rn_hs_kd len0 kk0 s5).2 kd4 (by omega) ?_
        rw [Int.toNat_natCast]
        have := ih (i + 1) (rn_sr M5 (h + 1) i (some (h + 2 + 64 * (2 + i)))) (by omega) (rn_hs_sr (Or.inr rfl) s5) (by rw [rn_sr_ne (by omega)]; exact u2) (by rw [rn_sr_ne (by omega)]; exact u3) (fun q hq => by
          by_cases c : q = i
          · rw [c, rn_sr_eq, show h + 2 + 64 * (2 + i) = h + 130 + 64 * i by omega]
          · rw [rn_sr_ne (by omega)]; exact uk q (by omega))
        rw [show ((i + 1 : Nat) : Int) = (i : Int) + 1 by omega] at this
        exact this
      · intro z; omega
  exact loop 5 0 E (by omega) s4 q2 q3 (fun q hq => by omega)
theorem rs_Re_init {a : Nat} (len0 : M.1.length = a + 1) (kk0 : rn_kd M a = 5) (hc : 2 ≤ M.2.1.1) (hs : 200 ≤ M.2.1.2) (k : ∀ M', M'.1 = M.1 ++ [(8, 2), (20, 150)] → rn_xl a M M' → rn_gr M' a 0 = some (a + 1) → rn_gr M' (a + 1) 1 = some (a + 2) → (∀ j, rn_gi M' (a + 1) j = 0) → Q none M') : rn_ME 45 [rn_R a] M Q := by
  refine re_Re_init (rb_Re_init_0 rn_nw_kn.1 (by omega) ⟨show 1 ≤ M.2.1.1 - 1 by omega, show 150 ≤ M.2.1.2 - 2 by omega, ?_⟩)
  have w1 := rn_xl_nw (M := M) (k := 8) (n := 2)
  have w2 : ∀ j, rn_gi (rn_nw M 8 2) M.1.length j = 0 := fun j => (rn_nw_gn j).1
  have w3 : (rn_sb (rn_nw M 8 2) 1 150).1.length = a + 2 := by rw [show (rn_sb (rn_nw M 8 2) 1 150).1.length = M.1.length + 1 from rn_nw_len, len0]
  have w4 : rn_kd (rn_sb (rn_nw M 8 2) 1 150) M.1.length = 8 := (rn_nw_kn (M := M) (k := 8) (n := 2)).1
  have w5 : (rn_sb (rn_nw M 8 2) 1 150).1 = M.1 ++ [(8, 2)] := rfl
  have w6 : (rn_sb (rn_nw M 8 2) 1 150).2.1 = (1, 150) := rfl
  have w7 : rn_xl (a + 1) M (rn_sb (rn_nw M 8 2) 1 150) := fun x hx => w1 x (by omega)
  have w8 : ∀ j, rn_gi (rn_sb (rn_nw M 8 2) 1 150) (a + 1) j = 0 := fun j => by rw [← len0]; exact w2 j
  rw [len0] at w4
  show rn_ME 82 [rn_R M.1.length] (rn_sb (rn_nw M 8 2) 1 150) (fun r M1 => rn_WP 45 12 [rn_R a] (r.toList ++ [rn_R M.1.length, rn_R a]) (rn_sb M1 (M.2.1.1 - 1 - 1) (M.2.1.2 - 2 - 150)) Q)
  rw [len0]
  generalize rn_sb (rn_nw M 8 2) 1 150 = A at *
  obtain ⟨l1, bc1, bs1, lo1, z1, g1, f1, k1⟩ := rn_alc (M := A) (a := a + 1) (f := 1) (k := 20) (n := 150) (b := a + 2) w3 (by omega)
  refine re_Te_init (rb_Te_init_0 ((rn_nw_kd (by omega)).1.trans w4) (by rw [w6]; decide) ?_)
  generalize rn_sr (rn_nw A 20 150) (a + 1) 1 (some A.1.length) = B at *
  have kB : rn_kd B a = 5 := by
    have := (rn_kd_ap l1).1 a (by omega)
    rw [this.1, ((rn_kd_ap w5).1 a (by omega)).1]; exact kk0
  refine rb_Re_init_12 (M := rn_sb B (M.2.1.1 - 1 - 1) (M.2.1.2 - 2 - 150)) kB ?_
  refine k _ ?_ (fun x hx => ⟨?_, fun j => ?_⟩) rn_sr_eq ?_ (fun j => ?_)
  · show B.1 = _
    rw [l1, w5]; simp
  · show rn_gi B x = _
    rw [lo1 x (by omega)]; exact (w7 x (by omega)).1
  · rw [rn_sr_ne (by omega)]
    show rn_gr B x j = _
    rw [g1 x j (by omega) (by omega)]; exact (w7 x (by omega)).2 j
  · rw [rn_sr_ne (by omega)]; exact f1
  · show rn_gi B (a + 1) j = 0
    rw [lo1 (a + 1) (by omega)]; exact w8 j
/-- an object of one array -/
theorem rn_one {a f n : Nat} (len0 : M.1.length = a + 1) : ∀ A, A = rn_sr (rn_nw M 20 n) a f (some M.1.length) → A.1 = M.1 ++ [(20, n)] ∧ rn_xl a M A ∧ rn_gr A a f = some (a + 1) := by
  rintro A rfl
  obtain ⟨l1, bc1, bs1, lo1, z1, g1, f1, k1⟩ := rn_alc (M := M) (a := a) (f := f) (k := 20) (n := n) (b := a + 1) len0 (by omega)
  exact ⟨l1, fun x hx => ⟨lo1 x (by omega), fun j => g1 x j (by omega) (by omega)⟩, f1⟩
end CT3
