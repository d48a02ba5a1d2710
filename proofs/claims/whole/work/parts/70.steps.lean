/-! the steps of a text: numbers, names, semicolons; words -/
noncomputable def rn_pq {α : Type} (P : Prop) (a b : α) : α := @ite α P (Classical.propDecidable P) a b
theorem rn_pq_t {α : Type} {P : Prop} (h : P) (a b : α) : rn_pq P a b = a := by unfold rn_pq; rw [if_pos h]
theorem rn_pq_f {α : Type} {P : Prop} (h : ¬ P) (a b : α) : rn_pq P a b = b := by unfold rn_pq; rw [if_neg h]
def rn_val (T : Int → Int) (b : Int) : Nat → Int
  | 0 => 0
  | k + 1 => 10 * rn_val T b k + T (b + k) - 48
/-- the token at b is a number from lo to hi -/
def rn_nok (T : Int → Int) (n b lo hi : Int) : Prop := (rn_ko (T b) = 2 ∧ rn_te T n b - b ≤ 2 ∧ ¬ (1 < rn_te T n b - b ∧ T b = 48)) ∧ lo ≤ rn_val T b (rn_te T n b - b).toNat ∧ rn_val T b (rn_te T n b - b).toNat ≤ hi
/-- a reader: refused at p, or behind e -/
def rn_rd (M : rn_M) (n : Int) (S : Int ⊕ Int) : Prop := match S with
  | .inl p => rn_gi M 9 4 = 1 ∧ rn_gi M 9 1 = p ∧ (0 ≤ p ∧ p ≤ n) ∧ 0 ≤ rn_gi M 9 2 ∧ rn_gi M 9 2 ≤ n
  | .inr e => rn_gi M 9 4 = 0 ∧ rn_gi M 9 2 = e ∧ 0 ≤ e ∧ e ≤ n
noncomputable def rn_nS (T : Int → Int) (n lo hi : Int) (S : Int ⊕ Int) : Int ⊕ Int := match S with
  | .inl p => .inl p
  | .inr e => rn_pq (rn_nok T n (rn_tks T n e) lo hi) (.inr (rn_te T n (rn_tks T n e))) (.inl (rn_tks T n e))
noncomputable def rn_nV (T : Int → Int) (n lo hi : Int) (S : Int ⊕ Int) : Int := match S with
  | .inl _ => lo
  | .inr e => rn_pick (rn_nok T n (rn_tks T n e) lo hi) (rn_val T (rn_tks T n e) (rn_te T n (rn_tks T n e) - rn_tks T n e).toNat) lo
noncomputable def rn_mS (T : Int → Int) (n : Int) (S : Int ⊕ Int) : Int ⊕ Int := match S with
  | .inl p => .inl p
  | .inr e => rn_pq (rn_ko (T (rn_tks T n e)) = 1 ∧ rn_te T n (rn_tks T n e) - rn_tks T n e ≤ 12) (.inr (rn_te T n (rn_tks T n e))) (.inl (rn_tks T n e))
noncomputable def rn_sS (T : Int → Int) (n : Int) (S : Int ⊕ Int) : Int ⊕ Int := match S with
  | .inl p => .inl p
  | .inr e => rn_pq (T (rn_tks T n e) = 59) (.inr (rn_te T n (rn_tks T n e))) (.inl (rn_tks T n e))
theorem rn_val_r {T : Int → Int} {b : Int} : ∀ k : Nat, (∀ j : Nat, j < k → 48 ≤ T (b + j) ∧ T (b + j) ≤ 57) → 0 ≤ rn_val T b k ∧ (k ≤ 1 → rn_val T b k ≤ 9) ∧ (k ≤ 2 → rn_val T b k ≤ 99) ∧ (k ≤ 3 → rn_val T b k ≤ 999)
  | 0, _ => by unfold rn_val; omega
  | k + 1, h => by
    have ih := rn_val_r k (fun j hj => h j (by omega))
    have hk := h k (by omega)
    have e0 : k = 0 → rn_val T b k = 0 := fun e => by rw [e]; rfl
    unfold rn_val
    refine ⟨by omega, fun q => ?_, fun q => ?_, fun q => ?_⟩
    · have := e0 (by omega); omega
    · have := ih.2.1 (by omega); omega
    · have := ih.2.2.1 (by omega); omega
theorem rn_rd_9 {M M' : rn_M} {n : Int} {S : Int ⊕ Int} (e : rn_gi M' 9 = rn_gi M 9) (h : rn_rd M n S) : rn_rd M' n S := by
  unfold rn_rd at *
  cases S <;> simp only [e] <;> exact h
section STP
variable {M : rn_M} {Q : rn_Q} {T : Int → Int} {n : Int}
theorem rs_ref1 {x : Int} (hM : rn_sh M) (h : rn_gi M 9 4 = 1) (k : Q none (rn_si M 9 4 1)) : rn_ME 53 [rn_R 9, rn_I x] M Q := by
  refine re_Re_refuseUnless (rb_Re_refuseUnless_0 hM ?_ ?_ ?_) <;> rw [h]
  · intro z; omega
  · intro z; omega
  · intro _; exact k
theorem rs_ref0 {x : Int} (hM : rn_sh M) (h : rn_gi M 9 4 = 0) (k1 : x ≠ 0 → Q none (rn_si M 9 4 0)) (k2 : x = 0 → Q none (rn_si M 9 4 1)) : rn_ME 53 [rn_R 9, rn_I x] M Q := by
  refine re_Re_refuseUnless (rb_Re_refuseUnless_0 hM ?_ ?_ ?_) <;> rw [h]
  · intro _ z; exact k2 z
  · intro _ z; exact k1 z
  · intro z; exact absurd rfl z
theorem rn_c9 {j : Nat} {v : Int} : rn_ch rn_P9 M (rn_si M 9 j v) := rn_ch_si rfl
theorem rs_readNumber {S : Int ⊕ Int} {lo hi : Int} (hM : rn_sh M) (tt : rn_TT T n) (t : rn_TC M T n) (h : rn_rd M n S) (hl : 0 ≤ lo ∧ hi ≤ 99) (k : ∀ M', rn_ch rn_P9 M M' → rn_rd M' n (rn_nS T n lo hi S) → Q (some (rn_I (rn_nV T n lo hi S))) M') : rn_ME 51 [rn_R 9, rn_I lo, rn_I hi] M Q := by
  have n0 := tt.1
  -- once refused, the least one
  have refd : ∀ (M1 : rn_M) (w3 w4 : rn_V), rn_ch rn_P9 M M1 → rn_gi M1 9 4 = 1 → (∀ M2, rn_ch rn_P9 M M2 → (∀ j, rn_gi M2 9 j = rn_gi M1 9 j) → Q (some (rn_I lo)) M2) → rn_WP 51 69 [rn_R 9, rn_I lo, rn_I hi, w3, w4, rn_J, rn_J] [] M1 Q := by
    intro M1 w3 w4 c1 g4 kk
    have hM1 := rn_sh_ch c1 hM
    have t1 := rn_TC_9 t c1
    have fin : ∀ v : Int, rn_ME 53 [rn_R 9, rn_I v] M1 (fun r M2 => rn_WP 51 131 [rn_R 9, rn_I lo, rn_I hi, w3, w4, rn_I 0, rn_I (rn_gi M1 9 1)] (r.toList ++ []) M2 Q) := by
      intro v
      refine rs_ref1 hM1 g4 (rb_Re_readNumber_131 (rn_sh_si hM1) ?_ ?_) <;> rw [rn_si_eq]
      · intro z; omega
      · intro _
        refine kk _ (rn_ch_tr c1 rn_c9) (fun j => ?_)
        by_cases e : j = 4
        · rw [e, rn_si_eq, g4]
        · rw [rn_si_ne (by omega)]
    refine rb_Re_readNumber_69 hM1 (rb_Re_readNumber_78 hM1 ?_ ?_ ?_ ?_) <;> (try rw [g4])
    · intro _ z; omega
    · intro _ z; omega
    · intro _ _; exact fin _
    · intro _; exact fin _
  cases S with
  | inl p =>
    obtain ⟨g4, g1, g2, g3⟩ := h
    have two : ∀ (x : Int) (w3 w4 : rn_V), rn_ME 53 [rn_R 9, rn_I x] M (fun r M2 => rn_WP 51 69 [rn_R 9, rn_I lo, rn_I hi, w3, w4, rn_J, rn_J] (r.toList ++ []) M2 Q) := by
      intro x w3 w4
      refine rs_ref1 hM g4 (refd _ w3 w4 rn_c9 rn_si_eq (fun M2 c2 e2 => ?_))
      have e3 : ∀ j, rn_gi M2 9 j = rn_gi M 9 j := fun j => by
        rw [e2]
        by_cases e : j = 4
        · rw [e, rn_si_eq, g4]
        · rw [rn_si_ne (by omega)]
      refine k M2 c2 ⟨(e3 4).trans g4, (e3 1).trans g1, g2, ?_⟩
      rw [e3]; exact g3
    refine re_Re_readNumber (rb_Re_readNumber_0 hM (rs_nextToken_r hM g4 (rb_Re_readNumber_4 hM ?_ ?_ ?_ ?_ ?_ ?_ ?_ ?_ ?_ ?_ ?_)))
    · omega
    · intro _; rw [t.1]; omega
    · intro _ _ _; exact two _ _ _
    · intro _ _ _; exact two _ _ _
    · intro _ _; exact two _ _ _
    · intro _ _ _ _; exact two _ _ _
    · intro _ _ _ _; exact two _ _ _
    · intro _ _ _; exact two _ _ _
    · intro _ _ _ _; exact two _ _ _
    · intro _ _ _ _; exact two _ _ _
    · intro _ _ _; exact two _ _ _
  | inr e =>
    obtain ⟨g4, g2, g3⟩ := h
    refine re_Re_readNumber (rb_Re_readNumber_0 hM (rs_nextToken hM tt t g4 g2 g3 (fun M1 c1 a1 a2 a3 a4 => ?_)))
    have hM1 := rn_sh_ch c1 hM
    have t1 := rn_TC_9 t c1
    have br := rn_tks_r (T := T) g3.2
    have er := rn_te_r (T := T) br.2
    have k := fun M' c (h : rn_rd M' n (rn_nS T n lo hi (.inr e))) => k M' c h
    unfold rn_nS rn_nV at k
    dsimp only at k
    generalize hb : rn_tks T n e = b at *
    generalize hd : rn_te T n b = d at *
    have two : ∀ (x : Int) (w4 : rn_V), (x = 0 ∨ x = 1) → (x = 1 ↔ rn_ko (T b) = 2 ∧ d - b ≤ 2 ∧ ¬ (1 < d - b ∧ T b = 48)) → rn_ME 53 [rn_R 9, rn_I x] M1 (fun r M2 => rn_WP 51 69 [rn_R 9, rn_I lo, rn_I hi, rn_I (d - b), w4, rn_J, rn_J] (r.toList ++ []) M2 Q) := by
      intro x w4 hx hx2
      refine rs_ref0 hM1 a4 (fun z => ?_) (fun z => ?_)
      · have ok := hx2.mp (by omega)
        have M2c : rn_ch rn_P9 M (rn_si M1 9 4 0) := rn_ch_tr c1 rn_c9
        have e1 : rn_gi (rn_si M1 9 4 0) 9 1 = b := by rw [rn_si_ne (by omega)]; exact a1
        have e2 : rn_gi (rn_si M1 9 4 0) 9 2 = d := by rw [rn_si_ne (by omega)]; exact a2
        have e4 : rn_gi (rn_si M1 9 4 0) 9 4 = 0 := rn_si_eq
        generalize rn_si M1 9 4 0 = M2 at *
        have hM2 := rn_sh_ch M2c hM
        have t2 := rn_TC_9 t M2c
        refine rb_Re_readNumber_69 hM2 ?_
        rw [e1]
        have dg : ∀ j : Nat, (j : Int) < d - b → 48 ≤ T (b + j) ∧ T (b + j) ≤ 57 := fun j hj => by
          have := rn_te_k (T := T) (n := n) (b := b) ok.1 (Or.inr rfl) (j := b + j) (by omega) (by rw [hd]; omega)
          exact rn_ko_2.mp this
        have loop : ∀ (m i : Nat), (i : Int) + m = d - b → rn_WP 51 78 [rn_R 9, rn_I lo, rn_I hi, rn_I (d - b), w4, rn_I (rn_val T b i), rn_I (b + i)] [] M2 Q := by
          intro m
          induction m with
          | zero =>
            intro i hij
            refine rb_Re_readNumber_78 hM2 ?_ ?_ ?_ ?_ <;> rw [e2]
            · intro z; omega
            · intro z; omega
            · intro z; omega
            · intro _
              have ei : (d - b).toNat = i := by omega
              refine rs_ref0 hM2 e4 (fun z => ?_) (fun z => ?_)
              · have z := rn_b1 z
                have nk : rn_nok T n b lo hi := by unfold rn_nok; rw [hd, ei]; exact ⟨ok, z⟩
                refine rb_Re_readNumber_131 (rn_sh_si hM2) (fun _ => ?_) (fun z => absurd rn_si_eq z)
                have := k (rn_si M2 9 4 0) (rn_ch_tr M2c rn_c9) (by
                  rw [rn_pq_t nk]
                  exact ⟨rn_si_eq, by rw [rn_si_ne (by omega)]; exact e2, by omega, by omega⟩)
                rw [rn_pick_t nk, ei] at this
                exact this
              · have z := rn_b0 z
                have nk : ¬ rn_nok T n b lo hi := by unfold rn_nok; rw [hd, ei]; exact fun y => z y.2
                refine rb_Re_readNumber_131 (rn_sh_si hM2) (fun z => by rw [rn_si_eq] at z; omega) (fun _ => ?_)
                have := k (rn_si M2 9 4 1) (rn_ch_tr M2c rn_c9) (by
                  rw [rn_pq_f nk]
                  exact ⟨rn_si_eq, by rw [rn_si_ne (by omega)]; exact e1, by omega, by rw [rn_si_ne (by omega), e2]; omega⟩)
                rw [rn_pick_f nk] at this
                exact this
          | succ m ih =>
            intro i hij
            have vr := rn_val_r (T := T) (b := b) i (fun j hj => dg j (by omega))
            have vr2 := vr.2.2.1 (by omega)
            have dgi := dg i (by omega)
            have := ih (i + 1) (by omega)
            refine rb_Re_readNumber_78 hM2 ?_ ?_ ?_ ?_ <;> rw [e2] <;> (try rw [e4]) <;> (try rw [t2.1]) <;> (try rw [t2.2])
            · intro _ _; omega
            · intro _ _
              rw [show b + ((i + 1 : Nat) : Int) = b + (i : Int) + 1 by omega] at this
              exact this
            · intro _ z; exact absurd rfl z
            · intro z; omega
        have := loop (d - b).toNat 0 (by omega)
        rw [show b + ((0 : Nat) : Int) = b by omega] at this
        exact this
      · have nk : ¬ rn_nok T n b lo hi := by unfold rn_nok; rw [hd]; exact fun y => by have := hx2.mpr y.1; omega
        refine refd _ _ w4 (rn_ch_tr c1 rn_c9) rn_si_eq (fun M2 c2 f2 => ?_)
        have := k M2 c2 (by
          rw [rn_pq_f nk]
          exact ⟨by rw [f2, rn_si_eq], by rw [f2, rn_si_ne (by omega)]; exact a1, by omega, by rw [f2, rn_si_ne (by omega), a2]; omega⟩)
        rw [rn_pick_f nk] at this
        exact this
    refine rb_Re_readNumber_4 hM1 ?_ ?_ ?_ ?_ ?_ ?_ ?_ ?_ ?_ ?_ ?_ <;> rw [a1, a2] <;> (try rw [a3]) <;> (try rw [t1.2])
    · omega
    · intro _; rw [t1.1]; omega
    · intro _ _ _; exact two _ _ (by omega) (by omega)
    · intro _ _ _; exact two _ _ (by omega) (by omega)
    · intro _ _; exact two _ _ (by omega) (by omega)
    · intro _ _ _ _; exact two _ _ (by omega) (by omega)
    · intro _ _ _ _; exact two _ _ (by omega) (by omega)
    · intro _ _ _; exact two _ _ (by omega) (by omega)
    · intro _ _ _ _; exact two _ _ (by omega) (by omega)
    · intro _ _ _ _; exact two _ _ (by omega) (by omega)
    · intro _ _ _; exact two _ _ (by omega) (by omega)
theorem rs_readSemicolon {S : Int ⊕ Int} (hM : rn_sh M) (tt : rn_TT T n) (t : rn_TC M T n) (h : rn_rd M n S) (k : ∀ M', rn_ch rn_P9 M M' → rn_rd M' n (rn_sS T n S) → Q none M') : rn_ME 52 [rn_R 9] M Q := by
  have n0 := tt.1
  cases S with
  | inl p =>
    obtain ⟨g4, g1, g2, g3⟩ := h
    have e : ∀ j, rn_gi (rn_si M 9 4 1) 9 j = rn_gi M 9 j := fun j => by
      by_cases e : j = 4
      · rw [e, rn_si_eq, g4]
      · rw [rn_si_ne (by omega)]
    have fin : ∀ x : Int, rn_ME 53 [rn_R 9, rn_I x] M (fun r M2 => rn_WP 52 29 [rn_R 9] (r.toList ++ []) M2 Q) := by
      intro x
      refine rs_ref1 hM g4 (rb_Re_readSemicolon_29 (k _ rn_c9 ⟨(e 4).trans g4, (e 1).trans g1, g2, ?_⟩))
      rw [e]; exact g3
    refine re_Re_readSemicolon (rb_Re_readSemicolon_0 hM (rs_nextToken_r hM g4 (rb_Re_readSemicolon_4 hM ?_ ?_ ?_)))
    · rw [t.1]; exact n0
    · intro _; exact fin _
    · intro _; exact fin _
  | inr e =>
    obtain ⟨g4, g2, g3⟩ := h
    refine re_Re_readSemicolon (rb_Re_readSemicolon_0 hM (rs_nextToken hM tt t g4 g2 g3 (fun M1 c1 a1 a2 a3 a4 => ?_)))
    have hM1 := rn_sh_ch c1 hM
    have t1 := rn_TC_9 t c1
    have br := rn_tks_r (T := T) g3.2
    have er := rn_te_r (T := T) br.2
    unfold rn_sS at k
    dsimp only at k
    refine rb_Re_readSemicolon_4 hM1 ?_ ?_ ?_ <;> (try rw [a1, t1.2])
    · rw [t1.1]; exact n0
    · intro c
      refine rs_ref0 hM1 a4 (fun _ => rb_Re_readSemicolon_29 (k _ (rn_ch_tr c1 rn_c9) ?_)) (fun z => by omega)
      rw [rn_pq_t c]
      exact ⟨rn_si_eq, by rw [rn_si_ne (by omega)]; exact a2, by omega, by omega⟩
    · intro c
      refine rs_ref0 hM1 a4 (fun z => absurd rfl z) (fun _ => rb_Re_readSemicolon_29 (k _ (rn_ch_tr c1 rn_c9) ?_))
      rw [rn_pq_f c]
      exact ⟨rn_si_eq, by rw [rn_si_ne (by omega)]; exact a1, by omega, by rw [rn_si_ne (by omega), a2]; omega⟩
/-- the reader and a river's name -/
def rn_P9a (a z : Nat) : Prop := z = 9 ∨ z = a ∨ z = a + 1
theorem rs_readName {S : Int ⊕ Int} {a : Nat} (hM : rn_sh M) (p : rn_isR a) (tt : rn_TT T n) (t : rn_TC M T n) (h : rn_rd M n S) (h3 : rn_gi M a 3 = 0) (k : ∀ M', rn_ch (rn_P9a a) M M' → (∀ j, j ≠ 3 → rn_gi M' a j = rn_gi M a j) → rn_rd M' n (rn_mS T n S) → (∀ e e', S = .inr e → rn_mS T n S = .inr e' → rn_gi M' a 3 = rn_te T n (rn_tks T n e) - rn_tks T n e ∧ ∀ i : Nat, (i : Int) < rn_te T n (rn_tks T n e) - rn_tks T n e → rn_gi M' (a + 1) i = T (rn_tks T n e + i)) → Q none M') : rn_ME 49 [rn_R 9, rn_R a] M Q := by
  have n0 := tt.1
  have ba := rn_bdR p
  have c9 : ∀ z, rn_P9 z → rn_P9a a z := fun z hz => Or.inl hz
  have refd : ∀ (M1 : rn_M) (w : rn_V), rn_sh M1 → rn_gi M1 9 4 = 1 → Q none M1 → rn_WP 49 35 [rn_R 9, rn_R a, w] [] M1 Q := by
    intro M1 w hM1 g4 kk
    refine rb_Re_readName_35 hM1 (rb_Re_readName_40 hM1 p ?_ ?_ ?_ ?_) <;> (try rw [g4])
    · intro _ z; omega
    · intro _ z; omega
    · intro _ _; exact kk
    · intro _; exact kk
  cases S with
  | inl q =>
    obtain ⟨g4, g1, g2, g3⟩ := h
    have e : ∀ j, rn_gi (rn_si M 9 4 1) 9 j = rn_gi M 9 j := fun j => by
      by_cases e : j = 4
      · rw [e, rn_si_eq, g4]
      · rw [rn_si_ne (by omega)]
    have fin : ∀ (x : Int) (w : rn_V), rn_ME 53 [rn_R 9, rn_I x] M (fun r M2 => rn_WP 49 35 [rn_R 9, rn_R a, w] (r.toList ++ []) M2 Q) := by
      intro x w
      refine rs_ref1 hM g4 (refd _ w (rn_sh_si hM) rn_si_eq (k _ (rn_ch_mono c9 rn_c9) (fun j _ => by rw [rn_si_gif (by omega)]) ⟨(e 4).trans g4, (e 1).trans g1, g2, ?_⟩ (fun e e' z => by cases z)))
      rw [e]; exact g3
    refine re_Re_readName (rb_Re_readName_0 hM (rs_nextToken_r hM g4 (rb_Re_readName_4 hM ?_ ?_ ?_ ?_)))
    · intro _; omega
    · intro _ _; exact fin _ _
    · intro _ _; exact fin _ _
    · intro _; exact fin _ _
  | inr e =>
    obtain ⟨g4, g2, g3⟩ := h
    refine re_Re_readName (rb_Re_readName_0 hM (rs_nextToken hM tt t g4 g2 g3 (fun M1 c1 a1 a2 a3 a4 => ?_)))
    have hM1 := rn_sh_ch c1 hM
    have t1 := rn_TC_9 t c1
    have br := rn_tks_r (T := T) g3.2
    have er := rn_te_r (T := T) br.2
    have ea : rn_gi M1 a = rn_gi M a := c1.2.2 a (fun z => by unfold rn_P9 at z; omega)
    unfold rn_mS at k
    dsimp only at k
    have bad : ∀ w : rn_V, ¬ (rn_ko (T (rn_tks T n e)) = 1 ∧ rn_te T n (rn_tks T n e) - rn_tks T n e ≤ 12) → rn_ME 53 [rn_R 9, rn_I 0] M1 (fun r M2 => rn_WP 49 35 [rn_R 9, rn_R a, w] (r.toList ++ []) M2 Q) := by
      intro w c
      refine rs_ref0 hM1 a4 (fun z => absurd rfl z) (fun _ => refd _ w (rn_sh_si hM1) rn_si_eq (k _ (rn_ch_mono c9 (rn_ch_tr c1 rn_c9)) (fun j _ => by rw [rn_si_gif (by omega), ea]) ?_ (fun e2 e' z1 z2 => ?_)))
      · rw [rn_pq_f c]
        exact ⟨rn_si_eq, by rw [rn_si_ne (by omega)]; exact a1, by omega, by rw [rn_si_ne (by omega), a2]; omega⟩
      · rw [rn_pq_f c] at z2; cases z2
    refine rb_Re_readName_4 hM1 ?_ ?_ ?_ ?_ <;> (try rw [a1, a2]) <;> (try rw [a3])
    · intro _; omega
    · intro c c2; exact bad _ (fun z => by omega)
    · intro c c2
      have ok : rn_ko (T (rn_tks T n e)) = 1 ∧ rn_te T n (rn_tks T n e) - rn_tks T n e ≤ 12 := ⟨c, by omega⟩
      refine rs_ref0 hM1 a4 (fun _ => ?_) (fun z => by omega)
      have M2c : rn_ch rn_P9 M (rn_si M1 9 4 0) := rn_ch_tr c1 rn_c9
      have e1 : rn_gi (rn_si M1 9 4 0) 9 1 = rn_tks T n e := by rw [rn_si_ne (by omega)]; exact a1
      have e2 : rn_gi (rn_si M1 9 4 0) 9 2 = rn_te T n (rn_tks T n e) := by rw [rn_si_ne (by omega)]; exact a2
      have e4 : rn_gi (rn_si M1 9 4 0) 9 4 = 0 := rn_si_eq
      generalize rn_si M1 9 4 0 = M2 at *
      have hM2 := rn_sh_ch M2c hM
      have ea2 : rn_gi M2 a = rn_gi M a := M2c.2.2 a (fun z => by unfold rn_P9 at z; omega)
      refine rb_Re_readName_35 hM2 ?_
      rw [e1]
      have loop : ∀ (m i : Nat) (M3 : rn_M), (i : Int) + m = rn_te T n (rn_tks T n e) - rn_tks T n e → rn_na M2 M3 a i (fun j => T (rn_tks T n e + j)) → rn_WP 49 40 [rn_R 9, rn_R a, rn_I (rn_tks T n e + i)] [] M3 Q := by
        intro m
        induction m with
        | zero =>
          intro i M3 hi na
          have hM3 := rn_sh_ch na.1 hM2
          have f9 : rn_gi M3 9 = rn_gi M2 9 := na.1.2.2 9 (by omega)
          refine rb_Re_readName_40 hM3 p ?_ ?_ ?_ ?_ <;> rw [f9, e2]
          · intro z; omega
          · intro z; omega
          · intro z; omega
          · intro _
            refine k M3 (rn_ch_tr (rn_ch_mono c9 M2c) (rn_ch_mono (fun z hz => Or.inr hz) na.1)) (fun j hj => by rw [na.2.1 j hj, ea2]) ?_ (fun e3 e' z1 z2 => ?_)
            · rw [rn_pq_t ok]
              exact ⟨by rw [f9]; exact e4, by rw [f9]; exact e2, by omega, by omega⟩
            · have z1 := Sum.inr.inj z1
              subst z1
              exact ⟨by rw [na.2.2.1]; omega, fun j hj => na.2.2.2 j (by omega)⟩
        | succ m ih =>
          intro i M3 hi na
          have hM3 := rn_sh_ch na.1 hM2
          have f9 : rn_gi M3 9 = rn_gi M2 9 := na.1.2.2 9 (by omega)
          have t3 := rn_TC_eq (rn_TC_9 t M2c) (na.1.2.2 10 (by omega)) (na.1.2.2 11 (by omega))
          refine rb_Re_readName_40 hM3 p ?_ ?_ ?_ ?_ <;> rw [f9, e2] <;> (try rw [e4]) <;> (try rw [t3.2])
          · intro _ _; rw [t3.1]; exact n0
          · intro _ _
            refine rs_addLetter hM3 p na (by omega) (by rw [Int.toNat_natCast]) (fun M4 na4 => rb_Re_readName_67 (by omega) ?_)
            have := ih (i + 1) M4 (by omega) (by rw [show ((i + 1 : Nat) : Int) = (i : Int) + 1 by omega]; exact na4)
            rw [show rn_tks T n e + ((i + 1 : Nat) : Int) = rn_tks T n e + (i : Int) + 1 by omega] at this
            exact this
          · intro _ z; exact absurd rfl z
          · intro z; omega
      have := loop (rn_te T n (rn_tks T n e) - rn_tks T n e).toNat 0 M2 (by omega) (rn_na_0 (by rw [ea2]; exact h3))
      rw [show rn_tks T n e + ((0 : Nat) : Int) = rn_tks T n e by omega] at this
      exact this
    · intro c; exact bad _ (fun z => c z.1)
end STP
