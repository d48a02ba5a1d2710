def rn_look : List (Nat × rn_E) → Nat → Option rn_E
  | [], _ => none
  | (p, e) :: t, q => match Nat.beq p q with | true => some e | false => rn_look t q
def rn_mt (z : Nat) : Option rn_Mt := rn_mts[z]?
def rn_mcs (z : Nat) : Nat × Nat := match rn_mt z with | some (_, _, _, _, _, mc, ms, _) => (mc, ms) | none => (0, 0)
def rn_ml (z : Nat) : Nat := match rn_mt z with | some (_, _, ml, _) => ml | none => 0
def rn_at (z pc : Nat) : Option rn_E := match rn_mt z with | some (_, _, _, _, _, _, _, _, _, t) => rn_look t pc | none => none
abbrev rn_X : Type := Nat → Nat → List rn_V → List rn_V → rn_M → rn_Q → Prop
def rn_pad (n : Nat) (as : List rn_V) : List rn_V := as ++ List.replicate (n - as.length) rn_J
def rn_F (X : rn_X) : rn_X := fun y pc L st M Q => match rn_at y pc with
  | some e => rn_stp rn_mcs rn_nf e L st M Q (fun pc' L' st' M' => X y pc' L' st' M' Q) (fun z as M' Q' => X z 0 (rn_pad (rn_ml z) as) [] M' Q')
  | none => False
def rn_mon (X : rn_X) : Prop := ∀ (y pc : Nat) (L st : List rn_V) (M : rn_M) (Q Q' : rn_Q), (∀ r M', Q r M' → Q' r M') → X y pc L st M Q → X y pc L st M Q'
/-- the least predicate that the instructions allow: from here the machine ends, with Q -/
def rn_WP : rn_X := fun y pc L st M Q => ∀ X : rn_X, rn_mon X → (∀ y pc L st M Q, rn_F X y pc L st M Q → X y pc L st M Q) → X y pc L st M Q
/-- a method from its start -/
def rn_ME (z : Nat) (as : List rn_V) (M : rn_M) (Q : rn_Q) : Prop := rn_WP z 0 (rn_pad (rn_ml z) as) [] M Q
theorem rn_cal_mono {k z mc ms : Nat} {as : List rn_V} {M : rn_M} {C C' : rn_C} {Q Q' : rn_Q} (hQ : ∀ r M, Q r M → Q' r M) (hC : ∀ z as M (P P' : rn_Q), (∀ r M, P r M → P' r M) → C z as M P → C' z as M P') (h : rn_cal k z mc ms as M C Q) : rn_cal k z mc ms as M C' Q' := by
  revert h
  unfold rn_cal
  split
  · exact fun h => ⟨h.1, h.2.1, hC _ _ _ _ _ (fun r M q => hQ _ _ q) h.2.2⟩
  · exact hC _ _ _ _ _ hQ
theorem rn_g_mono {b : Bool} {P P' : Prop} (h : P → P') : rn_g b P → rn_g b P' := by cases b <;> simp [rn_g]; exact h
theorem rn_st1_mono {st : List rn_V} {f f' : Int → List rn_V → Prop} (h : ∀ x t, f x t → f' x t) : rn_st1 st f → rn_st1 st f' := by unfold rn_st1; split <;> first | exact h _ _ | exact id
theorem rn_st2_mono {st : List rn_V} {f f' : Int → Int → List rn_V → Prop} (h : ∀ x y t, f x y t → f' x y t) : rn_st2 st f → rn_st2 st f' := by unfold rn_st2; split <;> first | exact h _ _ _ | exact id
theorem rn_stR_mono {st : List rn_V} {f f' : Nat → List rn_V → Prop} (h : ∀ x t, f x t → f' x t) : rn_stR st f → rn_stR st f' := by unfold rn_stR; split <;> first | exact h _ _ | exact id
theorem rn_stA_mono {st : List rn_V} {f f' : Nat → Int → List rn_V → Prop} (h : ∀ x y t, f x y t → f' x y t) : rn_stA st f → rn_stA st f' := by unfold rn_stA; split <;> first | exact h _ _ _ | exact id
theorem rn_ldI_mono {L : List rn_V} {i : Nat} {f f' : Int → Prop} (h : ∀ x, f x → f' x) : rn_ldI L i f → rn_ldI L i f' := by unfold rn_ldI; split <;> first | exact h _ | exact id
theorem rn_ldR_mono {L : List rn_V} {i : Nat} {f f' : Option Nat → Prop} (h : ∀ x, f x → f' x) : rn_ldR L i f → rn_ldR L i f' := by unfold rn_ldR; split <;> first | exact h _ | exact id
theorem rn_sl1_mono {st : List rn_V} {f f' : Int64 → List rn_V → Prop} (h : ∀ x t, f x t → f' x t) : rn_sl1 st f → rn_sl1 st f' := by unfold rn_sl1; split <;> first | exact h _ _ | exact id
theorem rn_sl2_mono {st : List rn_V} {f f' : Int64 → Int64 → List rn_V → Prop} (h : ∀ x y t, f x y t → f' x y t) : rn_sl2 st f → rn_sl2 st f' := by unfold rn_sl2; split <;> first | exact h _ _ _ | exact id
theorem rn_ldL_mono {L : List rn_V} {i : Nat} {f f' : Int64 → Prop} (h : ∀ x, f x → f' x) : rn_ldL L i f → rn_ldL L i f' := by unfold rn_ldL; split <;> first | exact h _ | exact id
theorem rn_lkk_mono {k a : Nat} {L : List rn_V} {P P' : Prop} (h : P → P') : rn_lkk k L a P → rn_lkk k L a P' := by unfold rn_lkk; split; exact h; exact fun q => ⟨q.1, h q.2⟩
theorem rn_br_mono {c A B A' B' : Prop} (hA : A → A') (hB : B → B') : rn_br c A B → rn_br c A' B' := fun h => ⟨fun x => hA (h.1 x), fun x => hB (h.2 x)⟩
theorem rn_sw_mono {ts : List Nat} {i : Nat} {f f' : Nat → Prop} (h : ∀ x, f x → f' x) : rn_sw ts i f → rn_sw ts i f' := by unfold rn_sw; split <;> first | exact h _ | exact id
theorem rn_rcv_mono {as : List rn_V} {f f' : Nat → Prop} (h : ∀ x, f x → f' x) : rn_rcv as f → rn_rcv as f' := by unfold rn_rcv; split <;> first | exact h _ | exact id
theorem rn_put_mono {k : Nat} {st : List rn_V} {M : rn_M} {b : Nat} {f f' : Nat → rn_M → List rn_V → Prop} (h : ∀ x M t, f x M t → f' x M t) : rn_put k st M b f → rn_put k st M b f' := by
  unfold rn_put; split <;> split <;> first | exact h _ _ _ | exact fun q => ⟨q.1, h _ _ _ q.2⟩ | exact id
theorem rn_acp_mono {st : List rn_V} {f f' : Int → Int → Nat → Int → Nat → List rn_V → Prop} (h : ∀ n dp d sp s t, f n dp d sp s t → f' n dp d sp s t) : rn_acp st f → rn_acp st f' := by unfold rn_acp; split <;> first | exact h _ _ _ _ _ _ | exact id
set_option maxHeartbeats 4000000 in
theorem rn_stp_mono {mcs : Nat → Nat × Nat} {nf : Nat → Nat} {e : rn_E} {L st : List rn_V} {M : rn_M} {Q Q' : rn_Q} {K K' : rn_K} {C C' : rn_C} (hQ : ∀ r M, Q r M → Q' r M) (hK : ∀ pc L st M, K pc L st M → K' pc L st M) (hC : ∀ z as M (P P' : rn_Q), (∀ r M, P r M → P' r M) → C z as M P → C' z as M P') :
    rn_stp mcs nf e L st M Q K C → rn_stp mcs nf e L st M Q' K' C' := by
  obtain ⟨ins, nx, a, b, t, k, c, ts⟩ := e
  have hK1 : ∀ pc L st M, K pc L st M → K' pc L st M := hK
  unfold rn_stp
  dsimp only
  split <;> first
    | exact id
    | exact hK _ _ _ _
    | exact rn_ldI_mono fun _ => hK _ _ _ _
    | exact rn_ldR_mono fun _ => hK _ _ _ _
    | exact rn_sl1_mono fun _ _ => rn_g_mono (rn_lkk_mono (hK _ _ _ _))
    | exact rn_st1_mono fun _ _ => rn_g_mono (rn_lkk_mono (hK _ _ _ _))
    | exact rn_sl2_mono fun _ _ _ => hK _ _ _ _
    | exact rn_ldL_mono fun _ => hK _ _ _ _
    | exact rn_st2_mono fun _ _ _ q => ⟨q.1, q.2.1, hK _ _ _ _ q.2.2⟩
    | exact rn_st1_mono fun _ _ => rn_g_mono (hK _ _ _ _)
    | exact rn_st1_mono fun _ _ => hK _ _ _ _
    | exact rn_st2_mono fun _ _ _ => hK _ _ _ _
    | exact rn_st1_mono fun _ _ => rn_br_mono (hK _ _ _ _) (hK _ _ _ _)
    | exact rn_st2_mono fun _ _ _ => rn_br_mono (hK _ _ _ _) (hK _ _ _ _)
    | exact rn_st1_mono fun _ _ => rn_br_mono (hK _ _ _ _) (rn_sw_mono fun _ => hK _ _ _ _)
    | exact rn_stR_mono fun _ _ q => ⟨q.1, hK _ _ _ _ q.2⟩
    | exact rn_put_mono fun _ _ _ q => ⟨q.1, hK _ _ _ _ q.2⟩
    | exact rn_stA_mono fun _ _ _ q => ⟨q.1, q.2.1, hK _ _ _ _ q.2.2⟩
    | exact rn_st1_mono fun _ _ q => ⟨q.1, q.2.1, hK _ _ _ _ q.2.2⟩
    | exact rn_st1_mono fun _ _ q => ⟨q.1, q.2.1, q.2.2.1, q.2.2.2.1, hK _ _ _ _ q.2.2.2.2⟩
    | exact fun q => ⟨q.1, q.2.1, hK _ _ _ _ q.2.2⟩
    | exact rn_g_mono (rn_rcv_mono fun _ q => ⟨q.1, rn_cal_mono (fun _ _ => hK _ _ _ _) hC q.2⟩)
    | (split <;> first
        | exact id
        | exact hK _ _ _ _
        | exact rn_g_mono (rn_lkk_mono (hK _ _ _ _))
        | exact rn_g_mono (hK _ _ _ _)
        | exact rn_stR_mono fun _ _ => rn_g_mono (hK _ _ _ _)
        | exact rn_st1_mono fun _ _ => rn_g_mono (hK _ _ _ _)
        | exact rn_st2_mono fun _ _ _ => rn_g_mono (hK _ _ _ _)
        | exact rn_g_mono (rn_rcv_mono fun _ q => ⟨q.1, rn_cal_mono (fun _ _ => hK _ _ _ _) hC q.2⟩)
        | exact rn_g_mono (rn_cal_mono (fun _ _ => hK _ _ _ _) hC)
        | exact rn_acp_mono fun _ _ _ _ _ _ => rn_g_mono fun q => ⟨q.1, q.2.1, q.2.2.1, q.2.2.2.1, q.2.2.2.2.1, q.2.2.2.2.2.1, q.2.2.2.2.2.2.1, hK _ _ _ _ q.2.2.2.2.2.2.2⟩
        | exact fun q => ⟨q.1, q.2.1, hK _ _ _ _ q.2.2⟩
        | exact fun q => ⟨q.1, q.2.1, q.2.2.1, hK _ _ _ _ q.2.2.2⟩
        | exact fun q => ⟨q.1, hQ _ _ q.2⟩
        | exact hQ _ _)
theorem rn_F_mono {X Y : rn_X} (hY : rn_mon Y) (h : ∀ y pc L st M Q, X y pc L st M Q → Y y pc L st M Q) {y pc : Nat} {L st : List rn_V} {M : rn_M} {Q Q' : rn_Q} (hQ : ∀ r M', Q r M' → Q' r M') : rn_F X y pc L st M Q → rn_F Y y pc L st M Q' := by
  unfold rn_F
  split
  · exact rn_stp_mono hQ (fun pc L st M q => hY _ _ _ _ _ _ _ hQ (h _ _ _ _ _ _ q)) (fun z as M P P' hP q => hY _ _ _ _ _ _ _ hP (h _ _ _ _ _ _ q))
  · exact id
theorem rn_WP_mono : rn_mon rn_WP := fun y pc L st M Q Q' hQ h X hX hF => hX _ _ _ _ _ _ _ hQ (h X hX hF)
theorem rn_WP_in {y pc : Nat} {L st : List rn_V} {M : rn_M} {Q : rn_Q} (h : rn_F rn_WP y pc L st M Q) : rn_WP y pc L st M Q := fun X hX hF => hF _ _ _ _ _ _ (rn_F_mono hX (fun _ _ _ _ _ _ q => q X hX hF) (fun _ _ q => q) h)
theorem rn_WP_out {y pc : Nat} {L st : List rn_V} {M : rn_M} {Q : rn_Q} (h : rn_WP y pc L st M Q) : rn_F rn_WP y pc L st M Q :=
  h (rn_F rn_WP) (fun _ _ _ _ _ _ _ hQ => rn_F_mono rn_WP_mono (fun _ _ _ _ _ _ q => q) hQ) (fun _ _ _ _ _ _ => rn_F_mono rn_WP_mono (fun _ _ _ _ _ _ q => rn_WP_in q) (fun _ _ q => q))
theorem rn_step {y pc : Nat} {L st : List rn_V} {M : rn_M} {Q : rn_Q} {e : rn_E} (he : rn_at y pc = some e) : rn_WP y pc L st M Q ↔ rn_stp rn_mcs rn_nf e L st M Q (fun pc' L' st' M' => rn_WP y pc' L' st' M' Q) rn_ME := by
  refine ⟨fun h => ?_, fun h => rn_WP_in ?_⟩
  · have h2 := rn_WP_out h
    unfold rn_F at h2
    rw [he] at h2
    exact h2
  · unfold rn_F
    rw [he]
    exact h
theorem rn_ME_mono {z : Nat} {as : List rn_V} {M : rn_M} {Q Q' : rn_Q} (hQ : ∀ r M', Q r M' → Q' r M') (h : rn_ME z as M Q) : rn_ME z as M Q' := rn_WP_mono _ _ _ _ _ _ _ hQ h
