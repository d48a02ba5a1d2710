theorem rn_kat {y pc : Nat} {mt : rn_Mt} {e : rn_E} (hm : rn_mt y = some mt) (he : rn_look (rn_tb mt) pc = some e) : decode mt.2.1 pc = .ok (e.1, e.2.1 - pc) ∧ rn_chi mt pc e = true := by
  have h1 := List.all_eq_true.mp (rn_kall mt (List.mem_of_getElem? hm))
  have h2 : ∀ (t : List (Nat × rn_E)), rn_look t pc = some e → (pc, e) ∈ t := by
    intro t
    induction t with
    | nil => intro h; cases h
    | cons q t ih =>
      intro h
      obtain ⟨p, x⟩ := q
      unfold rn_look at h
      split at h
      · rename_i hp
        cases h
        rw [Nat.eq_of_beq_eq_true hp]
        exact List.mem_cons_self
      · exact List.mem_cons_of_mem _ (ih h)
  have h3 := h1 _ (h2 _ he)
  unfold rn_che at h3
  rw [Bool.and_eq_true, decide_eq_true_eq] at h3
  exact h3
