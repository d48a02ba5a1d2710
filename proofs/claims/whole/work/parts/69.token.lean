/-! tokens: the words of a text; both sides' next token -/
def rn_sk (T : Int → Int) : Nat → Int → Int
  | 0, i => i
  | f + 1, i => if T i = 32 then rn_sk T f (i + 1) else i
def rn_tks (T : Int → Int) (n i : Int) : Int := rn_sk T (n - i).toNat i
def rn_rn (T : Int → Int) (c : Int) : Nat → Int → Int
  | 0, i => i
  | f + 1, i => if rn_ko (T i) = c then rn_rn T c f (i + 1) else i
def rn_te (T : Int → Int) (n b : Int) : Int := if b < n then (if rn_ko (T b) = 1 ∨ rn_ko (T b) = 2 then rn_rn T (rn_ko (T b)) (n - (b + 1)).toNat (b + 1) else b + 1) else b
def rn_TT (T : Int → Int) (n : Int) : Prop := (0 ≤ n ∧ n ≤ 150) ∧ (∀ i : Int, 0 ≤ i → i < n → 1 ≤ T i ∧ T i ≤ 255) ∧ ∀ i : Int, ¬ (0 ≤ i ∧ i < n) → T i = 0
theorem rn_sk_r (T : Int → Int) : ∀ (f : Nat) (i : Int), i ≤ rn_sk T f i ∧ rn_sk T f i ≤ i + f
  | 0, i => ⟨Int.le_refl _, by show i ≤ i + (0 : Nat); omega⟩
  | f + 1, i => by
    have := rn_sk_r T f (i + 1)
    unfold rn_sk
    split <;> omega
theorem rn_rn_r (T : Int → Int) (c : Int) : ∀ (f : Nat) (i : Int), i ≤ rn_rn T c f i ∧ rn_rn T c f i ≤ i + f
  | 0, i => ⟨Int.le_refl _, by show i ≤ i + (0 : Nat); omega⟩
  | f + 1, i => by
    have := rn_rn_r T c f (i + 1)
    unfold rn_rn
    split <;> omega
theorem rn_rn_k (T : Int → Int) (c : Int) : ∀ (f : Nat) (i j : Int), i ≤ j → j < rn_rn T c f i → rn_ko (T j) = c
  | 0, i, j, h1, h2 => by have h2 : j < i := h2; omega
  | f + 1, i, j, h1, h2 => by
    unfold rn_rn at h2
    by_cases e : rn_ko (T i) = c
    · rw [if_pos e] at h2
      by_cases q : j = i
      · rw [q]; exact e
      · exact rn_rn_k T c f (i + 1) j (by omega) h2
    · rw [if_neg e] at h2; omega
theorem rn_tks_r {T : Int → Int} {n i : Int} (h : i ≤ n) : i ≤ rn_tks T n i ∧ rn_tks T n i ≤ n := by
  have := rn_sk_r T (n - i).toNat i
  unfold rn_tks; omega
theorem rn_te_r {T : Int → Int} {n b : Int} (h : b ≤ n) : b ≤ rn_te T n b ∧ rn_te T n b ≤ n ∧ (b < n → b + 1 ≤ rn_te T n b) := by
  have := rn_rn_r T (rn_ko (T b)) (n - (b + 1)).toNat (b + 1)
  unfold rn_te
  split
  · split <;> omega
  · omega
theorem rn_te_k {T : Int → Int} {n b : Int} {c : Int} (hc : rn_ko (T b) = c) (h12 : c = 1 ∨ c = 2) {j : Int} (h1 : b ≤ j) (h2 : j < rn_te T n b) : rn_ko (T j) = c := by
  unfold rn_te at h2
  by_cases q : b < n
  · rw [if_pos q, if_pos (by omega)] at h2
    by_cases e : j = b
    · rw [e]; exact hc
    · rw [hc] at h2; exact rn_rn_k T c _ _ j (by omega) h2
  · rw [if_neg q] at h2; omega
theorem rn_ko_0 {s : Int} : rn_ko s = 0 ↔ s = 0 := by unfold rn_ko; (repeat' split) <;> omega
theorem rn_ko_1 {s : Int} : rn_ko s = 1 ↔ 97 ≤ s ∧ s ≤ 122 := by unfold rn_ko; (repeat' split) <;> omega
theorem rn_ko_2 {s : Int} : rn_ko s = 2 ↔ 48 ≤ s ∧ s ≤ 57 := by unfold rn_ko; (repeat' split) <;> omega
/-- the class's text -/
def rn_TC (M : rn_M) (T : Int → Int) (n : Int) : Prop := rn_gi M 10 0 = n ∧ ∀ i, rn_sg M i = T i
/-- the reference's text -/
def rn_TM (M : rn_M) (T : Int → Int) (n : Int) : Prop := rn_gi M 466 4 = n ∧ ∀ i : Int, 0 ≤ i → i < n → rn_gi M 469 i.toNat = T i
def rn_P9 (a : Nat) : Prop := a = 9
theorem rn_TC_eq {M M' : rn_M} {T : Int → Int} {n : Int} (h : rn_TC M T n) (e : rn_gi M' 10 = rn_gi M 10) (e2 : rn_gi M' 11 = rn_gi M 11) : rn_TC M' T n := by
  refine ⟨by rw [e]; exact h.1, fun i => ?_⟩
  have := h.2 i
  unfold rn_sg at *
  rw [e, e2]; exact this
theorem rn_TC_9 {M M' : rn_M} {T : Int → Int} {n : Int} (h : rn_TC M T n) (c : rn_ch rn_P9 M M') : rn_TC M' T n :=
  rn_TC_eq h (c.2.2 10 (fun z => by unfold rn_P9 at z; omega)) (c.2.2 11 (fun z => by unfold rn_P9 at z; omega))
section TOK
variable {M : rn_M} {Q : rn_Q} {T : Int → Int} {n : Int}
theorem rs_nextToken {e : Int} (hM : rn_sh M) (tt : rn_TT T n) (t : rn_TC M T n) (h4 : rn_gi M 9 4 = 0) (h2 : rn_gi M 9 2 = e) (e0 : 0 ≤ e ∧ e ≤ n)
    (k : ∀ M', rn_ch rn_P9 M M' → rn_gi M' 9 1 = rn_tks T n e → rn_gi M' 9 2 = rn_te T n (rn_tks T n e) → rn_gi M' 9 3 = rn_ko (T (rn_tks T n e)) → rn_gi M' 9 4 = 0 → Q none M') : rn_ME 54 [rn_R 9] M Q := by
  have n0 := tt.1
  refine re_Re_nextToken (rb_Re_nextToken_0 hM ?_ ?_) <;> (try rw [h4])
  · intro _
    rw [h2]
    have loop : ∀ (m : Nat) (i : Int) (M1 : rn_M), i + m = n → 0 ≤ i → rn_ch rn_P9 M M1 → rn_gi M1 9 1 = i → rn_gi M1 9 4 = 0 → rn_sk T m i = rn_tks T n e → rn_WP 54 16 [rn_R 9] [] M1 Q := by
      intro m
      induction m with
      | zero =>
        intro i M1 hi i0 c1 h1 h4 hb
        have t1 := rn_TC_9 t c1
        have hb : i = rn_tks T n e := hb
        have ti : T i = 0 := tt.2.2 i (by omega)
        have ki : rn_ko (T i) = 0 := rn_ko_0.mpr ti
        refine rb_Re_nextToken_16 (rn_sh_ch c1 hM) ?_ ?_ ?_ ?_ ?_ ?_ ?_ ?_ ?_ ?_ ?_ <;> (try rw [h1]) <;> (try rw [t1.1]) <;> (try rw [t1.2])
        · intro z; omega
        · intro z; omega
        · intro z; omega
        · intro _; omega
        · intro z; omega
        · intro z; omega
        · intro z; omega
        · intro z; omega
        · intro _ z; omega
        · intro _ _ z; omega
        · intro _ _ _
          refine k _ (rn_ch_tr c1 (rn_ch_tr (rn_ch_si rfl) (rn_ch_si rfl))) ?_ ?_ ?_ ?_
          · rw [rn_si_ne (by omega), rn_si_ne (by omega), h1]; exact hb
          · rw [rn_si_eq, ← hb]
            unfold rn_te
            rw [if_neg (by omega)]; omega
          · rw [rn_si_ne (by omega), rn_si_eq, hb]
          · rw [rn_si_ne (by omega), rn_si_ne (by omega)]; exact h4
      | succ m ih =>
        intro i M1 hi i0 c1 h1 h4 hb
        have t1 := rn_TC_9 t c1
        have run : ¬ T i = 32 → (rn_ko (T i) = 1 ∨ rn_ko (T i) = 2) → rn_WP 54 113 [rn_R 9] [] (rn_si (rn_si M1 9 3 (rn_ko (T i))) 9 2 (min (i + 1) n)) Q := by
          intro c12 c13
          have hb : i = rn_tks T n e := by unfold rn_sk at hb; rw [if_neg c12] at hb; exact hb
          have eT : rn_rn T (rn_ko (T i)) (n - (i + 1)).toNat (i + 1) = rn_te T n (rn_tks T n e) := by
            rw [← hb]; unfold rn_te; rw [if_pos (by omega), if_pos c13]
          have loop2 : ∀ (m2 : Nat) (j : Int) (M2 : rn_M), j + m2 = n → 0 ≤ j → rn_ch rn_P9 M M2 → rn_gi M2 9 1 = i → rn_gi M2 9 2 = j → rn_gi M2 9 3 = rn_ko (T i) → rn_gi M2 9 4 = 0 → rn_rn T (rn_ko (T i)) m2 j = rn_te T n (rn_tks T n e) → rn_WP 54 113 [rn_R 9] [] M2 Q := by
            intro m2
            induction m2 with
            | zero =>
              intro j M2 hj j0 c2 g1 g2 g3 g4 gb
              have t2 := rn_TC_9 t c2
              have gb : j = rn_te T n (rn_tks T n e) := gb
              refine rb_Re_nextToken_113 (rn_sh_ch c2 hM) ?_ ?_ ?_ ?_ ?_ <;> (try rw [g2, t2.1])
              · intro z; omega
              · intro z; omega
              · intro z; omega
              · intro z; omega
              · intro _; exact k M2 c2 (g1.trans hb) (g2.trans gb) (by rw [g3, hb]) g4
            | succ m2 ih2 =>
              intro j M2 hj j0 c2 g1 g2 g3 g4 gb
              have t2 := rn_TC_9 t c2
              unfold rn_rn at gb
              refine rb_Re_nextToken_113 (rn_sh_ch c2 hM) ?_ ?_ ?_ ?_ ?_ <;> (try rw [g2, t2.1]) <;> (try rw [t2.2, g3])
              · intro _; omega
              · intro _ _; omega
              · intro _ c
                rw [if_pos c] at gb
                exact ih2 (j + 1) _ (by omega) (by omega) (rn_ch_tr c2 (rn_ch_si rfl)) (by rw [rn_si_ne (by omega)]; exact g1) rn_si_eq (by rw [rn_si_ne (by omega)]; exact g3) (by rw [rn_si_ne (by omega)]; exact g4) gb
              · intro _ c
                rw [if_neg c] at gb
                exact k M2 c2 (g1.trans hb) (g2.trans gb) (by rw [g3, hb]) g4
              · intro z; omega
          refine loop2 (n - (i + 1)).toNat (i + 1) _ (by omega) (by omega) (rn_ch_tr c1 (rn_ch_tr (rn_ch_si rfl) (rn_ch_si rfl))) ?_ ?_ ?_ ?_ eT
          · rw [rn_si_ne (by omega), rn_si_ne (by omega)]; exact h1
          · rw [rn_si_eq]; omega
          · rw [rn_si_ne (by omega), rn_si_eq]
          · rw [rn_si_ne (by omega), rn_si_ne (by omega)]; exact h4
        refine rb_Re_nextToken_16 (rn_sh_ch c1 hM) ?_ ?_ ?_ ?_ ?_ ?_ ?_ ?_ ?_ ?_ ?_ <;> (try rw [h1]) <;> (try rw [t1.1]) <;> (try rw [t1.2])
        · intro _; omega
        · intro _ _; omega
        · intro _ _; omega
        · intro z; omega
        · intro _ c
          unfold rn_sk at hb
          rw [if_pos c] at hb
          exact ih (i + 1) _ (by omega) (by omega) (rn_ch_tr c1 (rn_ch_si rfl)) rn_si_eq (by rw [rn_si_ne (by omega)]; exact h4) hb
        · intro _ c d; exact run c (Or.inl d)
        · intro _ c _ d; exact run c (Or.inr d)
        · intro _ c d1 d2
          have hb : i = rn_tks T n e := by unfold rn_sk at hb; rw [if_neg c] at hb; exact hb
          refine k _ (rn_ch_tr c1 (rn_ch_tr (rn_ch_si rfl) (rn_ch_si rfl))) ?_ ?_ ?_ ?_
          · rw [rn_si_ne (by omega), rn_si_ne (by omega), h1]; exact hb
          · rw [rn_si_eq, ← hb]
            unfold rn_te
            rw [if_pos (by omega), if_neg (fun z => z.elim d1 d2)]; omega
          · rw [rn_si_ne (by omega), rn_si_eq, hb]
          · rw [rn_si_ne (by omega), rn_si_ne (by omega)]; exact h4
        · intro z; omega
        · intro z; omega
        · intro z; omega
    refine loop (n - e).toNat e _ (by omega) e0.1 (rn_ch_si rfl) rn_si_eq (by rw [rn_si_ne (by omega)]; exact h4) rfl
  · intro z; exact absurd rfl z
theorem rs_nextToken_r (hM : rn_sh M) (h4 : rn_gi M 9 4 = 1) (k : Q none M) : rn_ME 54 [rn_R 9] M Q := by
  refine re_Re_nextToken (rb_Re_nextToken_0 hM ?_ ?_) <;> (try rw [h4])
  · intro z; omega
  · intro _; exact k
theorem rn_srt (t : rn_TM M T n) (tt : rn_TT T n) {i : Int} (i0 : 0 ≤ i) {lo hi : Int} (h : 1 ≤ lo) : (i < rn_gi M 466 4 ∧ lo ≤ rn_gi M 469 i.toNat ∧ rn_gi M 469 i.toNat ≤ hi) = (lo ≤ T i ∧ T i ≤ hi) := by
  rw [t.1]
  refine propext ⟨fun z => ?_, fun z => ?_⟩
  · rw [← t.2 i i0 z.1]; exact z.2
  · by_cases c : i < n
    · rw [t.2 i i0 c]; exact ⟨c, z⟩
    · have := tt.2.2 i (by omega); omega
theorem rn_srt3 (t : rn_TM M T n) (tt : rn_TT T n) {i : Int} (i0 : 0 ≤ i) : ((i < rn_gi M 466 4 ∧ 32 ≤ rn_gi M 469 i.toNat ∧ rn_gi M 469 i.toNat ≤ 32) = (T i = 32)) ∧ ((i < rn_gi M 466 4 ∧ 97 ≤ rn_gi M 469 i.toNat ∧ rn_gi M 469 i.toNat ≤ 122) = (rn_ko (T i) = 1)) ∧ ((i < rn_gi M 466 4 ∧ 48 ≤ rn_gi M 469 i.toNat ∧ rn_gi M 469 i.toNat ≤ 57) = (rn_ko (T i) = 2)) ∧ ((i < rn_gi M 466 4 ∧ 59 ≤ rn_gi M 469 i.toNat ∧ rn_gi M 469 i.toNat ≤ 59) = (T i = 59)) := by
  refine ⟨(rn_srt t tt i0 (by omega)).trans (propext (by omega)), (rn_srt t tt i0 (by omega)).trans (propext rn_ko_1.symm), (rn_srt t tt i0 (by omega)).trans (propext rn_ko_2.symm), (rn_srt t tt i0 (by omega)).trans (propext (by omega))⟩
/-- only the reference's token moves -/
def rn_ft (M M' : rn_M) : Prop := rn_ch (fun a => a = 466) M M' ∧ ∀ j, j ≠ 9 → j ≠ 10 → j ≠ 11 → rn_gi M' 466 j = rn_gi M 466 j
theorem rn_ft_rf {M : rn_M} : rn_ft M M := ⟨rn_ch_rf, fun _ _ _ _ => rfl⟩
theorem rn_ft_tr {M M1 M2 : rn_M} (h : rn_ft M M1) (g : rn_ft M1 M2) : rn_ft M M2 := ⟨rn_ch_tr h.1 g.1, fun j a b c => (g.2 j a b c).trans (h.2 j a b c)⟩
theorem rn_ft_si {j : Nat} {v : Int} (h : j = 9 ∨ j = 10 ∨ j = 11) : rn_ft M (rn_si M 466 j v) := ⟨rn_ch_si rfl, fun i a b c => rn_si_ne (by omega)⟩
theorem rn_TM_ft {M' : rn_M} (h : rn_TM M T n) (c : rn_ft M M') : rn_TM M' T n := ⟨(c.2 4 (by omega) (by omega) (by omega)).trans h.1, fun i i0 i1 => by rw [c.1.2.2 469 (by omega)]; exact h.2 i i0 i1⟩
theorem rm_nextToken {e : Int} (hM : rn_sh M) (tt : rn_TT T n) (t : rn_TM M T n) (h2 : rn_gi M 466 10 = e) (e0 : 0 ≤ e ∧ e ≤ n)
    (k : ∀ M', rn_ft M M' → rn_gi M' 466 11 = rn_gi M 466 11 → rn_gi M' 466 9 = rn_tks T n e → rn_gi M' 466 10 = rn_te T n (rn_tks T n e) → Q none M') : rn_ME 192 [rn_R 466] M Q := by
  have n0 := tt.1
  refine re_Mo_nextToken (rb_Mo_nextToken_0 hM ?_)
  rw [h2]
  have loop : ∀ (m : Nat) (i : Int) (M1 : rn_M), i + m = n → 0 ≤ i → rn_ft M M1 → rn_gi M1 466 11 = rn_gi M 466 11 → rn_gi M1 466 9 = i → rn_sk T m i = rn_tks T n e → rn_WP 192 8 [rn_R 466] [] M1 Q := by
    intro m i M1 hi i0 f1 g11 h1 hb
    induction m generalizing i M1 with
    | zero =>
      have t1 := rn_TM_ft t f1
      have s := rn_srt3 t1 tt i0
      have hb : i = rn_tks T n e := hb
      have ti : T i = 0 := tt.2.2 i (by omega)
      have ki : rn_ko (T i) = 0 := rn_ko_0.mpr ti
      have e4 : rn_gi (rn_si M1 466 10 i) 466 4 = rn_gi M1 466 4 := rn_si_ne (by omega)
      have m4 := t1.1
      refine rb_Mo_nextToken_8 (rn_sh_ch f1.1 hM) ?_ ?_ ?_ ?_ ?_ ?_ ?_ ?_ ?_ ?_ <;> (try rw [h1]) <;> (try rw [e4]) <;> (try simp only [s.1, s.2.1, s.2.2.1]) <;> (try rw [m4])
      · omega
      · intro _; omega
      · intro _ _; omega
      · intro _ _ _ z; omega
      · intro z; omega
      · intro _ _ _ z; omega
      · intro _ _ _ _
        refine k _ (rn_ft_tr f1 (rn_ft_si (by omega))) (by rw [rn_si_ne (by omega)]; exact g11) (by rw [rn_si_ne (by omega), h1]; exact hb) ?_
        rw [rn_si_eq, ← hb]
        unfold rn_te
        rw [if_neg (by omega)]
      · intro _ _ z; omega
      · intro _ z; omega
      · intro z; omega
    | succ m ih =>
      have t1 := rn_TM_ft t f1
      have s := rn_srt3 t1 tt i0
      have e4 : rn_gi (rn_si M1 466 10 i) 466 4 = rn_gi M1 466 4 := rn_si_ne (by omega)
      have m4 := t1.1
      have hbn : ¬ T i = 32 → i = rn_tks T n e := fun c => by unfold rn_sk at hb; rw [if_neg c] at hb; exact hb
      have fin : ∀ M2, rn_ft M M2 → rn_gi M2 466 11 = rn_gi M 466 11 → rn_gi M2 466 9 = rn_tks T n e → rn_gi M2 466 10 = rn_te T n (rn_tks T n e) → Q none M2 := k
      refine rb_Mo_nextToken_8 (rn_sh_ch f1.1 hM) ?_ ?_ ?_ ?_ ?_ ?_ ?_ ?_ ?_ ?_ <;> (try rw [h1]) <;> (try rw [e4]) <;> (try simp only [s.1, s.2.1, s.2.2.1]) <;> (try rw [m4])
      · omega
      · intro _; omega
      · intro _ _; omega
      · intro _ _ _ _; omega
      · intro _; omega
      · intro c d1 d2 _
        have hb := hbn c
        refine k _ (rn_ft_tr f1 (rn_ft_tr (rn_ft_si (by omega)) (rn_ft_si (by omega)))) (by rw [rn_si_ne (by omega), rn_si_ne (by omega)]; exact g11) (by rw [rn_si_ne (by omega), rn_si_ne (by omega), h1]; exact hb) ?_
        rw [rn_si_eq, ← hb]
        unfold rn_te
        rw [if_pos (by omega), if_neg (fun z => z.elim d1 d2)]
      · intro _ _ _ z; omega
      · intro c _ d
        have hb := hbn c
        have eT : rn_rn T 2 (n - (i + 1)).toNat (i + 1) = rn_te T n (rn_tks T n e) := by
          rw [← hb]; unfold rn_te; rw [if_pos (by omega), if_pos (Or.inr d), d]
        have loop2 : ∀ (m2 : Nat) (j : Int) (M2 : rn_M), j + m2 = n → 0 ≤ j → rn_ft M M2 → rn_gi M2 466 11 = rn_gi M 466 11 → rn_gi M2 466 9 = i → rn_gi M2 466 10 = j → rn_rn T 2 m2 j = rn_te T n (rn_tks T n e) → rn_WP 192 102 [rn_R 466] [] M2 Q := by
          intro m2 j M2 hj j0 f2 g11 g9 g10 gb
          induction m2 generalizing j M2 with
          | zero =>
            have t2 := rn_TM_ft t f2
            have s := rn_srt3 t2 tt j0
            have gb : j = rn_te T n (rn_tks T n e) := gb
            have ki : rn_ko (T j) = 0 := rn_ko_0.mpr (tt.2.2 j (by omega))
            refine rb_Mo_nextToken_102 (rn_sh_ch f2.1 hM) ?_ ?_ ?_ ?_ <;> (try rw [g10]) <;> (try simp only [s.2.2.1])
            · rw [t2.1]; omega
            · intro z; omega
            · intro _; exact k M2 f2 g11 (g9.trans hb) (g10.trans gb)
            · intro z; omega
          | succ m2 ih2 =>
            have t2 := rn_TM_ft t f2
            have s := rn_srt3 t2 tt j0
            unfold rn_rn at gb
            refine rb_Mo_nextToken_102 (rn_sh_ch f2.1 hM) ?_ ?_ ?_ ?_ <;> (try rw [g10]) <;> (try simp only [s.2.2.1])
            · rw [t2.1]; omega
            · intro _; omega
            · intro c2; rw [if_neg c2] at gb; exact k M2 f2 g11 (g9.trans hb) (g10.trans gb)
            · intro c2
              rw [if_pos c2] at gb
              exact ih2 (j + 1) _ (by omega) (by omega) (rn_ft_tr f2 (rn_ft_si (by omega))) (by rw [rn_si_ne (by omega)]; exact g11) (by rw [rn_si_ne (by omega)]; exact g9) rn_si_eq gb
        refine loop2 (n - (i + 1) + 1).toNat i _ (by omega) (by omega) (rn_ft_tr f1 (rn_ft_si (by omega))) (by rw [rn_si_ne (by omega)]; exact g11) (by rw [rn_si_ne (by omega)]; exact h1) rn_si_eq ?_
        rw [show (n - (i + 1) + 1).toNat = (n - (i + 1)).toNat + 1 by omega]
        unfold rn_rn
        rw [if_pos d]; exact eT
      · intro c d
        have hb := hbn c
        have eT : rn_rn T 1 (n - (i + 1)).toNat (i + 1) = rn_te T n (rn_tks T n e) := by
          rw [← hb]; unfold rn_te; rw [if_pos (by omega), if_pos (Or.inl d), d]
        have loop2 : ∀ (m2 : Nat) (j : Int) (M2 : rn_M), j + m2 = n → 0 ≤ j → rn_ft M M2 → rn_gi M2 466 11 = rn_gi M 466 11 → rn_gi M2 466 9 = i → rn_gi M2 466 10 = j → rn_rn T 1 m2 j = rn_te T n (rn_tks T n e) → rn_WP 192 59 [rn_R 466] [] M2 Q := by
          intro m2 j M2 hj j0 f2 g11 g9 g10 gb
          induction m2 generalizing j M2 with
          | zero =>
            have t2 := rn_TM_ft t f2
            have s := rn_srt3 t2 tt j0
            have gb : j = rn_te T n (rn_tks T n e) := gb
            have ki : rn_ko (T j) = 0 := rn_ko_0.mpr (tt.2.2 j (by omega))
            refine rb_Mo_nextToken_59 (rn_sh_ch f2.1 hM) ?_ ?_ ?_ ?_ <;> (try rw [g10]) <;> (try simp only [s.2.1])
            · rw [t2.1]; omega
            · intro z; omega
            · intro _; exact k M2 f2 g11 (g9.trans hb) (g10.trans gb)
            · intro z; omega
          | succ m2 ih2 =>
            have t2 := rn_TM_ft t f2
            have s := rn_srt3 t2 tt j0
            unfold rn_rn at gb
            refine rb_Mo_nextToken_59 (rn_sh_ch f2.1 hM) ?_ ?_ ?_ ?_ <;> (try rw [g10]) <;> (try simp only [s.2.1])
            · rw [t2.1]; omega
            · intro _; omega
            · intro c2; rw [if_neg c2] at gb; exact k M2 f2 g11 (g9.trans hb) (g10.trans gb)
            · intro c2
              rw [if_pos c2] at gb
              exact ih2 (j + 1) _ (by omega) (by omega) (rn_ft_tr f2 (rn_ft_si (by omega))) (by rw [rn_si_ne (by omega)]; exact g11) (by rw [rn_si_ne (by omega)]; exact g9) rn_si_eq gb
        refine loop2 (n - (i + 1) + 1).toNat i _ (by omega) (by omega) (rn_ft_tr f1 (rn_ft_si (by omega))) (by rw [rn_si_ne (by omega)]; exact g11) (by rw [rn_si_ne (by omega)]; exact h1) rn_si_eq ?_
        rw [show (n - (i + 1) + 1).toNat = (n - (i + 1)).toNat + 1 by omega]
        unfold rn_rn
        rw [if_pos d]; exact eT
      · intro c
        unfold rn_sk at hb
        rw [if_pos c] at hb
        exact ih (i + 1) _ (by omega) (by omega) (rn_ft_tr f1 (rn_ft_si (by omega))) (by rw [rn_si_ne (by omega)]; exact g11) rn_si_eq hb
  exact loop (n - e).toNat e _ (by omega) e0.1 (rn_ft_si (by omega)) (by rw [rn_si_ne (by omega)]) rn_si_eq rfl
end TOK
