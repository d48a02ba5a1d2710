/-! memory that differs in some cells only; counting cells; the sheet -/
def rn_ch (P : Nat → Prop) (M M' : rn_M) : Prop := M'.1 = M.1 ∧ (∀ a k, rn_gr M' a k = rn_gr M a k) ∧ ∀ a, ¬ P a → rn_gi M' a = rn_gi M a
theorem rn_ch_rf {P : Nat → Prop} {M : rn_M} : rn_ch P M M := ⟨rfl, fun _ _ => rfl, fun _ _ => rfl⟩
theorem rn_ch_tr {P : Nat → Prop} {M M1 M2 : rn_M} (h1 : rn_ch P M M1) (h2 : rn_ch P M1 M2) : rn_ch P M M2 := ⟨h2.1.trans h1.1, fun a k => (h2.2.1 a k).trans (h1.2.1 a k), fun a h => (h2.2.2 a h).trans (h1.2.2 a h)⟩
theorem rn_ch_si {P : Nat → Prop} {M : rn_M} {a k : Nat} {v : Int} (h : P a) : rn_ch P M (rn_si M a k v) := ⟨rfl, fun _ _ => rfl, fun b hb => rn_si_gif (fun e => hb (e ▸ h))⟩
theorem rn_ch_mono {P P' : Nat → Prop} {M M1 : rn_M} (h : ∀ a, P a → P' a) (h1 : rn_ch P M M1) : rn_ch P' M M1 := ⟨h1.1, h1.2.1, fun a hb => h1.2.2 a (fun z => hb (h a z))⟩
theorem rn_sh_ch {P : Nat → Prop} {M M' : rn_M} (h : rn_ch P M M') (hM : rn_sh M) : rn_sh M' := by
  obtain ⟨h1, h2, h3⟩ := hM
  unfold rn_sh
  rw [h.1]
  simp only [h.2.1]
  exact ⟨h1, h2, h3⟩
theorem rn_wa_ch {P : Nat → Prop} {M M' : rn_M} (h : rn_ch P M M') {a n : Nat} (hw : rn_wa M a n) : rn_wa M' a n := by
  unfold rn_wa rn_kd rn_ln at *; rw [h.1]; exact hw
noncomputable def rn_card (S : Nat → Prop) : Nat → Int
  | 0 => 0
  | n + 1 => rn_card S n + rn_b (S n)
theorem rn_card_congr {S S' : Nat → Prop} : ∀ n : Nat, (∀ c, c < n → (S c ↔ S' c)) → rn_card S n = rn_card S' n
  | 0, _ => rfl
  | n + 1, h => by
    unfold rn_card
    rw [rn_card_congr n (fun c hc => h c (by omega)), rn_b_iff (h n (by omega))]
theorem rn_card_r (S : Nat → Prop) : ∀ n : Nat, 0 ≤ rn_card S n ∧ rn_card S n ≤ n
  | 0 => ⟨Int.le_refl _, Int.le_refl _⟩
  | n + 1 => by
    have := rn_card_r S n
    have h2 := @rn_b01 (S n)
    unfold rn_card
    omega
theorem rn_card_in {S : Nat → Prop} {q : Nat} : ∀ n : Nat, q < n → ¬ S q → rn_card (fun c => S c ∨ c = q) n = rn_card S n + 1
  | 0, h, _ => by omega
  | n + 1, h, hs => by
    unfold rn_card
    by_cases e : q = n
    · subst e
      rw [rn_bt (P := S q ∨ q = q) (Or.inr rfl), rn_bf hs, rn_card_congr (S := fun c => S c ∨ c = q) (S' := S) q (fun c hc => ⟨fun z => z.elim id (fun e => by omega), Or.inl⟩)]
      omega
    · rw [rn_card_in n (by omega) hs, rn_b_iff (P := S n ∨ n = q) (P' := S n) ⟨fun z => z.elim id (fun x => absurd x.symm e), Or.inl⟩]
      omega
def rn_P2 (a : Nat) : Prop := a = 464 ∨ a = 465
/-- the sheet holds the set S of cells -/
def rn_Sh (M : rn_M) (S : Nat → Prop) : Prop := (∀ c, c < 2400 → (S c → rn_gi M 465 c = 1) ∧ (¬ S c → rn_gi M 465 c = 0)) ∧ rn_gi M 464 0 = rn_card S 2400
theorem rn_Sh_congr {M : rn_M} {S S' : Nat → Prop} (h : ∀ c, c < 2400 → (S c ↔ S' c)) (hS : rn_Sh M S) : rn_Sh M S' := by
  refine ⟨fun c hc => ?_, by rw [hS.2, rn_card_congr 2400 h]⟩
  have h1 := hS.1 c hc
  rw [h c hc] at h1
  exact h1
/-- the square around a cell, on the map -/
def rn_sq (x0 x1 y0 y1 : Int) (c : Nat) : Prop := ∃ x y : Int, (0 ≤ x ∧ x < 60) ∧ (0 ≤ y ∧ y < 40) ∧ (x0 ≤ x ∧ x ≤ x1) ∧ (y0 ≤ y ∧ y ≤ y1) ∧ (c : Int) = y * 60 + x
section SHT
variable {M : rn_M} {Q : rn_Q} {S : Nat → Prop}
theorem rs_fill (hM : rn_sh M) {a n : Nat} (hn : n ≤ 100000) (hw : rn_wa M a n) {v : Int} {P : Nat → Prop} (hP : P a) (k : ∀ M', rn_ch P M M' → (∀ c, c < n → rn_gi M' a c = v) → Q none M') : rn_ME 213 [rn_R a, rn_I v] M Q := by
  refine re_Ar_fill (rb_Ar_fill_0 hw ?_)
  have loop : ∀ (m i : Nat) (M1 : rn_M), m + i = n → rn_ch P M M1 → (∀ c, c < i → rn_gi M1 a c = v) → rn_WP 213 5 [rn_R a, rn_I v, rn_I i, rn_I (n : Int)] [] M1 Q := by
    intro m
    induction m with
    | zero =>
      intro i M1 hi h1 h2
      refine rb_Ar_fill_5 (rn_wa_ch h1 hw) ?_ ?_ ?_
      · omega
      · intro c; omega
      · intro _; exact k M1 h1 (fun c hc => h2 c (by omega))
    | succ m ih =>
      intro i M1 hi h1 h2
      refine rb_Ar_fill_5 (rn_wa_ch h1 hw) ?_ ?_ ?_
      · omega
      · intro _
        have := ih (i + 1) (rn_si M1 a i v) (by omega) (rn_ch_tr h1 (rn_ch_si hP)) (fun c hc => by
          by_cases e : c = i
          · subst e; exact rn_si_eq
          · rw [rn_si_ne (fun z => e z.2)]; exact h2 c (by omega))
        rw [Int.toNat_natCast]
        exact this
      · intro c; omega
  exact loop n 0 M (by omega) rn_ch_rf (fun c hc => by omega)
theorem rs_clear (hM : rn_sh M) (k : ∀ M', rn_ch rn_P2 M M' → rn_Sh M' (fun _ => False) → Q none M') : rn_ME 79 [rn_R 464] M Q := by
  refine re_Sh_clear (rb_Sh_clear_0 hM (rs_fill hM (n := 2400) (by omega) (rn_w465 hM) (P := rn_P2) (Or.inr rfl) (fun M1 h1 h2 => ?_)))
  refine rb_Sh_clear_8 (rn_sh_ch h1 hM) (k _ (rn_ch_tr h1 (rn_ch_si (Or.inl rfl))) ⟨fun c hc => ⟨fun z => z.elim, fun _ => ?_⟩, ?_⟩)
  · rw [rn_si_gif (by decide)]; exact h2 c hc
  · rw [rn_si_eq]
    have : ∀ n, rn_card (fun _ => False) n = 0 := by
      intro n
      induction n with
      | zero => rfl
      | succ n ih => unfold rn_card; rw [ih, rn_bf id]; rfl
    rw [this]
theorem rs_mark (hM : rn_sh M) (hS : rn_Sh M S) {x y : Int} (k : ∀ M', rn_ch rn_P2 M M' → rn_Sh M' (fun c => S c ∨ ((0 ≤ x ∧ x < 60) ∧ (0 ≤ y ∧ y < 40) ∧ (c : Int) = y * 60 + x)) → Q none M') : rn_ME 81 [rn_R 464, rn_I x, rn_I y] M Q := by
  have hr := rn_card_r S 2400
  have h2 := hS.2
  refine re_Sh_mark (rb_Sh_mark_0 hM ?_ ?_ ?_ ?_ ?_)
  · omega
  · omega
  · intro h
    refine k M rn_ch_rf (rn_Sh_congr (fun c _ => ⟨Or.inl, fun z => z.elim id (fun q => absurd ⟨q.1, q.2.1⟩ h)⟩) hS)
  · intro h h0
    have hq : (y * 60 + x).toNat < 2400 := by omega
    have hn : ¬ S (y * 60 + x).toNat := fun z => by rw [(hS.1 _ hq).1 z] at h0; omega
    refine k _ (rn_ch_tr (rn_ch_si (Or.inr rfl)) (rn_ch_si (Or.inl rfl))) (rn_Sh_congr (S := fun c => S c ∨ c = (y * 60 + x).toNat) (fun c _ => ⟨fun z => z.elim Or.inl (fun e => Or.inr ⟨h.1, h.2, by omega⟩), fun z => z.elim Or.inl (fun e => Or.inr (by omega))⟩) ⟨fun c hc => ?_, ?_⟩)
    · rw [rn_si_gif (by decide)]
      by_cases e : c = (y * 60 + x).toNat
      · subst e
        rw [rn_si_eq]
        exact ⟨fun _ => rfl, fun z => absurd (Or.inr rfl) z⟩
      · rw [rn_si_ne (fun z => e z.2)]
        exact ⟨fun z => (hS.1 c hc).1 (z.elim id (fun q => absurd q e)), fun z => (hS.1 c hc).2 (fun q => z (Or.inl q))⟩
    · rw [rn_si_eq, h2, rn_card_in 2400 hq hn]
  · intro h h0
    have hq : (y * 60 + x).toNat < 2400 := by omega
    have hn : S (y * 60 + x).toNat := by
      by_cases z : S (y * 60 + x).toNat
      · exact z
      · exact absurd ((hS.1 _ hq).2 z) h0
    refine k M rn_ch_rf (rn_Sh_congr (fun c _ => ⟨Or.inl, fun z => z.elim id (fun e => ?_)⟩) hS)
    rw [show c = (y * 60 + x).toNat by omega]; exact hn
theorem rs_markAround (hM : rn_sh M) (hS : rn_Sh M S) {cx cy h : Int} (hx : 0 ≤ cx ∧ cx < 60) (hy : 0 ≤ cy ∧ cy < 40) (hh : 0 ≤ h ∧ h ≤ 2) (k : ∀ M', rn_ch rn_P2 M M' → rn_Sh M' (fun c => S c ∨ rn_sq (cx - h) (cx + h) (cy - h) (cy + h) c) → Q none M') : rn_ME 80 [rn_R 464, rn_I cx, rn_I cy, rn_I h] M Q := by
  refine re_Sh_markAround (rb_Sh_markAround_0 ?_ ?_)
  · omega
  have outer : ∀ (m : Nat) (y : Int) (M1 : rn_M) (w : rn_V), y + m = cy + h + 1 → cy - h ≤ y → rn_ch rn_P2 M M1 → rn_Sh M1 (fun c => S c ∨ rn_sq (cx - h) (cx + h) (cy - h) (y - 1) c) → rn_WP 80 5 [rn_R 464, rn_I cx, rn_I cy, rn_I h, rn_I y, w] [] M1 Q := by
    intro m
    induction m with
    | zero =>
      intro y M1 w hm hy1 h1 h2
      refine rb_Sh_markAround_5 ?_ ?_ ?_ ?_
      · omega
      · omega
      · intro _
        refine k M1 h1 ?_
        rw [show y - 1 = cy + h by omega] at h2
        exact h2
      · intro c; omega
    | succ m ih =>
      intro y M1 w hm hy1 h1 h2
      refine rb_Sh_markAround_5 ?_ ?_ ?_ ?_
      · omega
      · omega
      · intro c; omega
      · intro _
        have inner : ∀ (n : Nat) (x : Int) (M2 : rn_M), x + n = cx + h + 1 → cx - h ≤ x → rn_ch rn_P2 M M2 → rn_Sh M2 (fun c => (S c ∨ rn_sq (cx - h) (cx + h) (cy - h) (y - 1) c) ∨ rn_sq (cx - h) (x - 1) y y c) → rn_WP 80 18 [rn_R 464, rn_I cx, rn_I cy, rn_I h, rn_I y, rn_I x] [] M2 Q := by
          intro n
          induction n with
          | zero =>
            intro x M2 hn hx1 g1 g2
            refine rb_Sh_markAround_18 (rn_sh_ch g1 hM) ?_ ?_ ?_ ?_
            · omega
            · omega
            · intro _
              refine ih (y + 1) M2 _ (by omega) (by omega) g1 (rn_Sh_congr (fun c _ => ?_) g2)
              constructor
              · rintro ((z | ⟨a, b, q1, q2, q3, q4, q5⟩) | ⟨a, b, q1, q2, q3, q4, q5⟩)
                · exact Or.inl z
                · exact Or.inr ⟨a, b, q1, q2, q3, by omega, q5⟩
                · exact Or.inr ⟨a, b, q1, q2, by omega, by omega, q5⟩
              · rintro (z | ⟨a, b, q1, q2, q3, q4, q5⟩)
                · exact Or.inl (Or.inl z)
                · by_cases e : b = y
                  · exact Or.inr ⟨a, b, q1, q2, by omega, by omega, q5⟩
                  · exact Or.inl (Or.inr ⟨a, b, q1, q2, q3, by omega, q5⟩)
            · intro c; omega
          | succ n ihn =>
            intro x M2 hn hx1 g1 g2
            refine rb_Sh_markAround_18 (rn_sh_ch g1 hM) ?_ ?_ ?_ ?_
            · omega
            · omega
            · intro c; omega
            · intro _
              refine rs_mark (rn_sh_ch g1 hM) g2 (fun M3 f1 f2 => ?_)
              refine rb_Sh_markAround_34 ?_ (ihn (x + 1) M3 (by omega) (by omega) (rn_ch_tr g1 f1) (rn_Sh_congr (fun c _ => ?_) f2))
              · omega
              · constructor
                · rintro ((z | ⟨a, b, q1, q2, q3, q4, q5⟩) | ⟨q1, q2, q3⟩)
                  · exact Or.inl z
                  · exact Or.inr ⟨a, b, q1, q2, by omega, by omega, q5⟩
                  · exact Or.inr ⟨x, y, q1, q2, by omega, by omega, q3⟩
                · rintro (z | ⟨a, b, q1, q2, q3, q4, q5⟩)
                  · exact Or.inl (Or.inl z)
                  · by_cases e : a = x
                    · exact Or.inr ⟨by omega, by omega, by rw [q5]; rw [e, show b = y by omega]⟩
                    · exact Or.inl (Or.inr ⟨a, b, q1, q2, by omega, by omega, q5⟩)
        refine inner (2 * h + 1).toNat (cx - h) M1 (by omega) (by omega) h1 (rn_Sh_congr (fun c _ => ⟨Or.inl, ?_⟩) h2)
        rintro (z | ⟨a, b, q1, q2, q3, q4, q5⟩)
        · exact z
        · omega
  refine outer (2 * h + 1).toNat (cy - h) M _ (by omega) (by omega) rn_ch_rf (rn_Sh_congr (fun c _ => ⟨Or.inl, ?_⟩) hS)
  rintro (z | ⟨a, b, q1, q2, q3, q4, q5⟩)
  · exact z
  · omega
end SHT
