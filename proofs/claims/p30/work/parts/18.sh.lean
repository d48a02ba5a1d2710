/-! the shape of the memory behind the constructors; small rows for the blocks -/
theorem rn_cw {y pc : Nat} {L t : List rn_V} {M : rn_M} {Q : rn_Q} {z : Int} (h1 : -2147483648 ≤ z) (h2 : z ≤ 2147483647) (k : rn_WP y pc L (.inl z :: t) M Q) : rn_WP y pc L (.inl (rn_wr z) :: t) M Q := by
  rw [rn_wr_id h1 h2]; exact k
theorem rn_ci {y pc a : Nat} {L t : List rn_V} {M : rn_M} {Q : rn_Q} {z : Int} (h1 : -2147483648 ≤ z) (h2 : z ≤ 2147483647) (k : rn_WP y pc (L.set a (.inl z)) t M Q) : rn_WP y pc (L.set a (.inl (rn_wr z))) t M Q := by
  rw [rn_wr_id h1 h2]; exact k
theorem rn_cg {y pc : Nat} {L t : List rn_V} {M : rn_M} {Q : rn_Q} {r : Option Nat} {g : Nat} (h : r = some g) (k : rn_WP y pc L (rn_R g :: t) M Q) : rn_WP y pc L (.inr (.inl (some r)) :: t) M Q := by
  rw [h]; exact k
theorem rn_cn2 {y pc n m : Nat} {L t : List rn_V} {M : rn_M} {Q : rn_Q} (h : n = m) (k : rn_WP y pc L (rn_I (m : Int) :: t) M Q) : rn_WP y pc L (.inl (n : Int) :: t) M Q := by
  rw [h]; exact k
def rn_wa (M : rn_M) (a n : Nat) : Prop := rn_kd M a = 20 ∧ rn_ln M a = n
def rn_fa (M : rn_M) (a n : Nat) : Prop := rn_kd M a = 21 ∧ rn_ln M a = n
def rn_qa (M : rn_M) (a c n : Nat) : Prop := rn_kd M a = c + 30 ∧ rn_ln M a = n
theorem rn_lt {n m : Nat} {i : Int} (h : n = m) (hi : i < (m : Int)) : i < (n : Int) := by rw [h]; exact hi
theorem rn_le2 {n m : Nat} {i : Int} (h : n = m) (hi : i ≤ (m : Int)) : i ≤ (n : Int) := by rw [h]; exact hi
theorem rn_q30 {k c : Nat} (h : k = c + 30) : 30 ≤ k := by omega
theorem rn_q29 {k j c : Nat} (h : k = c + 30) (h2 : j = c + 1) : j + 29 = k := by omega
theorem rn_tn {x : Int} {n : Nat} (h : 0 ≤ x) (h2 : x < (n : Int)) : x.toNat < n := by omega

noncomputable def rn_b (P : Prop) : Int := @ite Int P (Classical.propDecidable P) 1 0
theorem rn_bt {P : Prop} (h : P) : rn_b P = 1 := by unfold rn_b; rw [if_pos h]
theorem rn_bf {P : Prop} (h : ¬ P) : rn_b P = 0 := by unfold rn_b; rw [if_neg h]
theorem rn_b0 {P : Prop} (h : rn_b P = 0) : ¬ P := fun q => by rw [rn_bt q] at h; cases h
theorem rn_b1 {P : Prop} (h : ¬ rn_b P = 0) : P := by
  by_cases q : P
  · exact q
  · exact absurd (rn_bf q) h
theorem rn_b01 {P : Prop} : rn_b P = 0 ∨ rn_b P = 1 := by
  by_cases q : P
  · exact Or.inr (rn_bt q)
  · exact Or.inl (rn_bf q)
theorem rn_b_iff {P P' : Prop} (h : P ↔ P') : rn_b P = rn_b P' := by rw [propext h]
def rn_isB (a : Nat) : Prop := ∃ j, j < 7 ∧ a = 14 + 64 * j
def rn_isR (a : Nat) : Prop := ∃ j i, j < 7 ∧ i < 6 ∧ a = 18 + 64 * j + 5 * i
def rn_isT (a : Nat) : Prop := ∃ j i, j < 7 ∧ i < 10 ∧ a = 48 + 64 * j + i
def rn_isL (a : Nat) : Prop := ∃ j i, j < 7 ∧ i < 20 ∧ a = 58 + 64 * j + i
theorem rn_isR_of {a k : Nat} (h : rn_isB a) (hk : k < 6) : rn_isR (a + 4 + 5 * k) := by
  obtain ⟨j, h1, rfl⟩ := h; exact ⟨j, k, h1, hk, by omega⟩
theorem rn_isT_of {a k : Nat} (h : rn_isB a) (hk : k < 10) : rn_isT (a + 34 + k) := by
  obtain ⟨j, h1, rfl⟩ := h; exact ⟨j, k, h1, hk, by omega⟩
theorem rn_isL_of {a k : Nat} (h : rn_isB a) (hk : k < 20) : rn_isL (a + 44 + k) := by
  obtain ⟨j, h1, rfl⟩ := h; exact ⟨j, k, h1, hk, by omega⟩
/-- the cells of a board -/
def rn_SB : List (Nat × Nat) := [(1, 7), (35, 6), (38, 10), (33, 20)] ++ (List.range 6).flatMap (fun _ => [(6, 9), (20, 12), (20, 60), (20, 61), (20, 61)]) ++ List.replicate 10 (9, 5) ++ List.replicate 20 (4, 2)
def rn_SH (N : Nat) : List (Nat × Nat) := [(21, N), (21, 8), (21, 8), (24, 0), (24, 0), (24, 0), (24, 0), (24, 0)] ++ [(10, 4), (5, 5), (8, 2), (20, 150), (2, 4), (30, 5)] ++ (List.range 7).flatMap (fun _ => rn_SB) ++ [(3, 1), (20, 61), (7, 2), (20, 2400)]
/-- references that stay for ever -/
def rn_fx (a k : Nat) : Option Nat :=
  match a, k with
  | 8, 0 => some 9 | 8, 1 => some 12 | 8, 2 => some 462 | 8, 3 => some 464
  | 9, 0 => some 10 | 10, 1 => some 11 | 12, 1 => some 13 | 462, 0 => some 463 | 464, 1 => some 465
  | _, _ => none
def rn_sh (M : rn_M) : Prop := (∃ N, M.1 = rn_SH N) ∧ (∀ a k v, rn_fx a k = some v → rn_gr M a k = some v) ∧
  ∀ j, j < 7 → rn_gr M (14 + 64 * j) 4 = some (15 + 64 * j) ∧ rn_gr M (14 + 64 * j) 5 = some (16 + 64 * j) ∧ rn_gr M (14 + 64 * j) 6 = some (17 + 64 * j) ∧
    (∀ i, i < 6 → rn_gr M (15 + 64 * j) i = some (18 + 64 * j + 5 * i) ∧ rn_gr M (18 + 64 * j + 5 * i) 5 = some (19 + 64 * j + 5 * i) ∧ rn_gr M (18 + 64 * j + 5 * i) 6 = some (20 + 64 * j + 5 * i) ∧ rn_gr M (18 + 64 * j + 5 * i) 7 = some (21 + 64 * j + 5 * i) ∧ rn_gr M (18 + 64 * j + 5 * i) 8 = some (22 + 64 * j + 5 * i)) ∧
    ∀ i, i < 10 → rn_gr M (16 + 64 * j) i = some (48 + 64 * j + i)
theorem rn_SH_at (N a : Nat) (h : 0 < a) : (rn_SH N).getD a (0, 0) = (rn_SH 0).getD a (0, 0) := by
  cases a with
  | zero => omega
  | succ a => rfl
theorem rn_shk {M : rn_M} (hM : rn_sh M) {a : Nat} (h : 0 < a) : rn_kd M a = ((rn_SH 0).getD a (0, 0)).1 ∧ rn_ln M a = ((rn_SH 0).getD a (0, 0)).2 := by
  obtain ⟨⟨N, h1⟩, -⟩ := hM
  unfold rn_kd rn_ln
  rw [h1, rn_SH_at N a h]
  exact ⟨rfl, rfl⟩
theorem rn_SHB1 : ∀ j, j < 7 → (rn_SH 0).getD (14 + 64 * j) (0, 0) = (1, 7) ∧ (rn_SH 0).getD (15 + 64 * j) (0, 0) = (35, 6) ∧ (rn_SH 0).getD (16 + 64 * j) (0, 0) = (38, 10) ∧ (rn_SH 0).getD (17 + 64 * j) (0, 0) = (33, 20) := by decide +kernel
theorem rn_SHB2 : ∀ j, j < 7 → ∀ i, i < 6 → (rn_SH 0).getD (18 + 64 * j + 5 * i) (0, 0) = (6, 9) ∧ (rn_SH 0).getD (19 + 64 * j + 5 * i) (0, 0) = (20, 12) ∧ (rn_SH 0).getD (20 + 64 * j + 5 * i) (0, 0) = (20, 60) ∧ (rn_SH 0).getD (21 + 64 * j + 5 * i) (0, 0) = (20, 61) ∧ (rn_SH 0).getD (22 + 64 * j + 5 * i) (0, 0) = (20, 61) := by decide +kernel
theorem rn_SHB3 : ∀ j, j < 7 → ∀ i, i < 10 → (rn_SH 0).getD (48 + 64 * j + i) (0, 0) = (9, 5) := by decide +kernel
theorem rn_SHB4 : ∀ j, j < 7 → ∀ i, i < 20 → (rn_SH 0).getD (58 + 64 * j + i) (0, 0) = (4, 2) := by decide +kernel
theorem rn_SHB : ∀ j, j < 7 → ((rn_SH 0).getD (14 + 64 * j) (0, 0) = (1, 7) ∧ (rn_SH 0).getD (15 + 64 * j) (0, 0) = (35, 6) ∧ (rn_SH 0).getD (16 + 64 * j) (0, 0) = (38, 10) ∧ (rn_SH 0).getD (17 + 64 * j) (0, 0) = (33, 20)) ∧
    (∀ i, i < 6 → (rn_SH 0).getD (18 + 64 * j + 5 * i) (0, 0) = (6, 9) ∧ (rn_SH 0).getD (19 + 64 * j + 5 * i) (0, 0) = (20, 12) ∧ (rn_SH 0).getD (20 + 64 * j + 5 * i) (0, 0) = (20, 60) ∧ (rn_SH 0).getD (21 + 64 * j + 5 * i) (0, 0) = (20, 61) ∧ (rn_SH 0).getD (22 + 64 * j + 5 * i) (0, 0) = (20, 61)) ∧
    (∀ i, i < 10 → (rn_SH 0).getD (48 + 64 * j + i) (0, 0) = (9, 5)) ∧ ∀ i, i < 20 → (rn_SH 0).getD (58 + 64 * j + i) (0, 0) = (4, 2) := fun j h => ⟨rn_SHB1 j h, rn_SHB2 j h, rn_SHB3 j h, rn_SHB4 j h⟩
section RNSH
variable {M : rn_M} (hM : rn_sh M)
theorem rn_kB {M : rn_M} (hM : rn_sh M) {a : Nat} (h : rn_isB a) : rn_kd M a = 1 := by
  obtain ⟨j, h1, rfl⟩ := h; rw [(rn_shk hM (by omega)).1, (rn_SHB j h1).1.1]
theorem rn_kR {M : rn_M} (hM : rn_sh M) {a : Nat} (h : rn_isR a) : rn_kd M a = 6 := by
  obtain ⟨j, i, h1, h2, rfl⟩ := h; rw [(rn_shk hM (by omega)).1, ((rn_SHB j h1).2.1 i h2).1]
theorem rn_kT {M : rn_M} (hM : rn_sh M) {a : Nat} (h : rn_isT a) : rn_kd M a = 9 := by
  obtain ⟨j, i, h1, h2, rfl⟩ := h; rw [(rn_shk hM (by omega)).1, (rn_SHB j h1).2.2.1 i h2]
theorem rn_kL {M : rn_M} (hM : rn_sh M) {a : Nat} (h : rn_isL a) : rn_kd M a = 4 := by
  obtain ⟨j, i, h1, h2, rfl⟩ := h; rw [(rn_shk hM (by omega)).1, (rn_SHB j h1).2.2.2 i h2]
theorem rn_gB4 {M : rn_M} (hM : rn_sh M) {a : Nat} (h : rn_isB a) : rn_gr M a 4 = some (a + 1) := by
  obtain ⟨j, h1, rfl⟩ := h; rw [(hM.2.2 j h1).1]; congr 1; omega
theorem rn_gB5 {M : rn_M} (hM : rn_sh M) {a : Nat} (h : rn_isB a) : rn_gr M a 5 = some (a + 2) := by
  obtain ⟨j, h1, rfl⟩ := h; rw [(hM.2.2 j h1).2.1]; congr 1; omega
theorem rn_gB6 {M : rn_M} (hM : rn_sh M) {a : Nat} (h : rn_isB a) : rn_gr M a 6 = some (a + 3) := by
  obtain ⟨j, h1, rfl⟩ := h; rw [(hM.2.2 j h1).2.2.1]; congr 1; omega
theorem rn_aB1 {M : rn_M} (hM : rn_sh M) {a : Nat} (h : rn_isB a) : rn_qa M (a + 1) 5 6 := by
  obtain ⟨j, h1, rfl⟩ := h; unfold rn_qa; rw [(rn_shk hM (by omega)).1, (rn_shk hM (by omega)).2, show 14 + 64 * j + 1 = 15 + 64 * j by omega, (rn_SHB j h1).1.2.1]; exact ⟨rfl, rfl⟩
theorem rn_aB2 {M : rn_M} (hM : rn_sh M) {a : Nat} (h : rn_isB a) : rn_qa M (a + 2) 8 10 := by
  obtain ⟨j, h1, rfl⟩ := h; unfold rn_qa; rw [(rn_shk hM (by omega)).1, (rn_shk hM (by omega)).2, show 14 + 64 * j + 2 = 16 + 64 * j by omega, (rn_SHB j h1).1.2.2.1]; exact ⟨rfl, rfl⟩
theorem rn_aB3 {M : rn_M} (hM : rn_sh M) {a : Nat} (h : rn_isB a) : rn_qa M (a + 3) 3 20 := by
  obtain ⟨j, h1, rfl⟩ := h; unfold rn_qa; rw [(rn_shk hM (by omega)).1, (rn_shk hM (by omega)).2, show 14 + 64 * j + 3 = 17 + 64 * j by omega, (rn_SHB j h1).1.2.2.2]; exact ⟨rfl, rfl⟩
theorem rn_eR {M : rn_M} (hM : rn_sh M) {a k : Nat} (h : rn_isB a) (hk : k < 6) : rn_gr M (a + 1) k = some (a + 4 + 5 * k) := by
  obtain ⟨j, h1, rfl⟩ := h; rw [show 14 + 64 * j + 1 = 15 + 64 * j by omega, ((hM.2.2 j h1).2.2.2.1 k hk).1]; congr 1; omega
theorem rn_eT {M : rn_M} (hM : rn_sh M) {a k : Nat} (h : rn_isB a) (hk : k < 10) : rn_gr M (a + 2) k = some (a + 34 + k) := by
  obtain ⟨j, h1, rfl⟩ := h; rw [show 14 + 64 * j + 2 = 16 + 64 * j by omega, (hM.2.2 j h1).2.2.2.2 k hk]; congr 1; omega
theorem rn_gR5 {M : rn_M} (hM : rn_sh M) {a : Nat} (h : rn_isR a) : rn_gr M a 5 = some (a + 1) := by
  obtain ⟨j, i, h1, h2, rfl⟩ := h; rw [((hM.2.2 j h1).2.2.2.1 i h2).2.1]; congr 1; omega
theorem rn_gR6 {M : rn_M} (hM : rn_sh M) {a : Nat} (h : rn_isR a) : rn_gr M a 6 = some (a + 2) := by
  obtain ⟨j, i, h1, h2, rfl⟩ := h; rw [((hM.2.2 j h1).2.2.2.1 i h2).2.2.1]; congr 1; omega
theorem rn_gR7 {M : rn_M} (hM : rn_sh M) {a : Nat} (h : rn_isR a) : rn_gr M a 7 = some (a + 3) := by
  obtain ⟨j, i, h1, h2, rfl⟩ := h; rw [((hM.2.2 j h1).2.2.2.1 i h2).2.2.2.1]; congr 1; omega
theorem rn_gR8 {M : rn_M} (hM : rn_sh M) {a : Nat} (h : rn_isR a) : rn_gr M a 8 = some (a + 4) := by
  obtain ⟨j, i, h1, h2, rfl⟩ := h; rw [((hM.2.2 j h1).2.2.2.1 i h2).2.2.2.2]; congr 1; omega
theorem rn_aR1 {M : rn_M} (hM : rn_sh M) {a : Nat} (h : rn_isR a) : rn_wa M (a + 1) 12 := by
  obtain ⟨j, i, h1, h2, rfl⟩ := h; unfold rn_wa; rw [(rn_shk hM (by omega)).1, (rn_shk hM (by omega)).2, show 18 + 64 * j + 5 * i + 1 = 19 + 64 * j + 5 * i by omega, ((rn_SHB j h1).2.1 i h2).2.1]; exact ⟨rfl, rfl⟩
theorem rn_aR2 {M : rn_M} (hM : rn_sh M) {a : Nat} (h : rn_isR a) : rn_wa M (a + 2) 60 := by
  obtain ⟨j, i, h1, h2, rfl⟩ := h; unfold rn_wa; rw [(rn_shk hM (by omega)).1, (rn_shk hM (by omega)).2, show 18 + 64 * j + 5 * i + 2 = 20 + 64 * j + 5 * i by omega, ((rn_SHB j h1).2.1 i h2).2.2.1]; exact ⟨rfl, rfl⟩
theorem rn_aR3 {M : rn_M} (hM : rn_sh M) {a : Nat} (h : rn_isR a) : rn_wa M (a + 3) 61 := by
  obtain ⟨j, i, h1, h2, rfl⟩ := h; unfold rn_wa; rw [(rn_shk hM (by omega)).1, (rn_shk hM (by omega)).2, show 18 + 64 * j + 5 * i + 3 = 21 + 64 * j + 5 * i by omega, ((rn_SHB j h1).2.1 i h2).2.2.2.1]; exact ⟨rfl, rfl⟩
theorem rn_aR4 {M : rn_M} (hM : rn_sh M) {a : Nat} (h : rn_isR a) : rn_wa M (a + 4) 61 := by
  obtain ⟨j, i, h1, h2, rfl⟩ := h; unfold rn_wa; rw [(rn_shk hM (by omega)).1, (rn_shk hM (by omega)).2, show 18 + 64 * j + 5 * i + 4 = 22 + 64 * j + 5 * i by omega, ((rn_SHB j h1).2.1 i h2).2.2.2.2]; exact ⟨rfl, rfl⟩
theorem rn_ks8 {M : rn_M} (hM : rn_sh M) : rn_kd M 8 = 10 := by rw [(rn_shk hM (by omega)).1]; decide +kernel
theorem rn_ks9 {M : rn_M} (hM : rn_sh M) : rn_kd M 9 = 5 := by rw [(rn_shk hM (by omega)).1]; decide +kernel
theorem rn_ks10 {M : rn_M} (hM : rn_sh M) : rn_kd M 10 = 8 := by rw [(rn_shk hM (by omega)).1]; decide +kernel
theorem rn_ks12 {M : rn_M} (hM : rn_sh M) : rn_kd M 12 = 2 := by rw [(rn_shk hM (by omega)).1]; decide +kernel
theorem rn_ks462 {M : rn_M} (hM : rn_sh M) : rn_kd M 462 = 3 := by rw [(rn_shk hM (by omega)).1]; decide +kernel
theorem rn_ks464 {M : rn_M} (hM : rn_sh M) : rn_kd M 464 = 7 := by rw [(rn_shk hM (by omega)).1]; decide +kernel
theorem rn_g8_0 {M : rn_M} (hM : rn_sh M) : rn_gr M 8 0 = some 9 := hM.2.1 8 0 9 rfl
theorem rn_g8_1 {M : rn_M} (hM : rn_sh M) : rn_gr M 8 1 = some 12 := hM.2.1 8 1 12 rfl
theorem rn_g8_2 {M : rn_M} (hM : rn_sh M) : rn_gr M 8 2 = some 462 := hM.2.1 8 2 462 rfl
theorem rn_g8_3 {M : rn_M} (hM : rn_sh M) : rn_gr M 8 3 = some 464 := hM.2.1 8 3 464 rfl
theorem rn_g9_0 {M : rn_M} (hM : rn_sh M) : rn_gr M 9 0 = some 10 := hM.2.1 9 0 10 rfl
theorem rn_g10_1 {M : rn_M} (hM : rn_sh M) : rn_gr M 10 1 = some 11 := hM.2.1 10 1 11 rfl
theorem rn_g12_1 {M : rn_M} (hM : rn_sh M) : rn_gr M 12 1 = some 13 := hM.2.1 12 1 13 rfl
theorem rn_g462_0 {M : rn_M} (hM : rn_sh M) : rn_gr M 462 0 = some 463 := hM.2.1 462 0 463 rfl
theorem rn_g464_1 {M : rn_M} (hM : rn_sh M) : rn_gr M 464 1 = some 465 := hM.2.1 464 1 465 rfl
theorem rn_w11 {M : rn_M} (hM : rn_sh M) : rn_wa M 11 150 := by unfold rn_wa; rw [(rn_shk hM (by omega)).1, (rn_shk hM (by omega)).2]; decide +kernel
theorem rn_w463 {M : rn_M} (hM : rn_sh M) : rn_wa M 463 61 := by unfold rn_wa; rw [(rn_shk hM (by omega)).1, (rn_shk hM (by omega)).2]; decide +kernel
theorem rn_w465 {M : rn_M} (hM : rn_sh M) : rn_wa M 465 2400 := by unfold rn_wa; rw [(rn_shk hM (by omega)).1, (rn_shk hM (by omega)).2]; decide +kernel
theorem rn_q13 {M : rn_M} (hM : rn_sh M) : rn_qa M 13 0 5 := by unfold rn_qa; rw [(rn_shk hM (by omega)).1, (rn_shk hM (by omega)).2]; decide +kernel
theorem rn_f1 {M : rn_M} (hM : rn_sh M) : rn_fa M 1 8 := by unfold rn_fa; rw [(rn_shk hM (by omega)).1, (rn_shk hM (by omega)).2]; decide +kernel
theorem rn_f2 {M : rn_M} (hM : rn_sh M) : rn_fa M 2 8 := by unfold rn_fa; rw [(rn_shk hM (by omega)).1, (rn_shk hM (by omega)).2]; decide +kernel
end RNSH
def rn_go (M : rn_M) (a k : Nat) : Nat := (rn_gr M a k).getD 0
theorem rn_kt {P : Prop} {M : rn_M} {Q : rn_Q} (h : P) (k : Q (some (rn_I (rn_b P))) M) : Q (some (rn_I 1)) M := by rw [rn_bt h] at k; exact k
theorem rn_kf {P : Prop} {M : rn_M} {Q : rn_Q} (h : ¬ P) (k : Q (some (rn_I (rn_b P))) M) : Q (some (rn_I 0)) M := by rw [rn_bf h] at k; exact k
theorem rn_kv {M : rn_M} {Q : rn_Q} {x y : Int} (h : x = y) (k : Q (some (rn_I x)) M) : Q (some (rn_I y)) M := by rw [← h]; exact k
/-- words of the mathematics: a step, a turn, a cell of the reference's row -/
def rn_sx (d : Int) : Int := if d = 7 ∨ d < 2 then 1 else if 3 ≤ d ∧ d ≤ 5 then -1 else 0
def rn_sy (d : Int) : Int := if 1 ≤ d ∧ d ≤ 3 then 1 else if 4 < d then -1 else 0
def rn_tu (a b : Int) : Int := if 4 < (if a < b then b - a else a - b) then 8 - (if a < b then b - a else a - b) else if a < b then b - a else a - b
def rn_o (N : Nat → Int) (r w : Int) : Int := N (4 + 78 * r + w).toNat
def rn_lt2 (M : rn_M) (a : Nat) (i : Int) : Int := if 0 ≤ i ∧ i ≤ rn_gi M a 3 - 1 then rn_gi M (a + 1) i.toNat else -9
def rn_sg (M : rn_M) (i : Int) : Int := if 0 ≤ i ∧ i ≤ rn_gi M 10 0 - 1 then rn_gi M 11 i.toNat else 0
/-- a town's numbers are small -/
def rn_tk (M : rn_M) (a : Nat) : Prop := (0 ≤ rn_gi M a 0 ∧ rn_gi M a 0 ≤ 100) ∧ (0 ≤ rn_gi M a 1 ∧ rn_gi M a 1 ≤ 100) ∧ (0 ≤ rn_gi M a 2 ∧ rn_gi M a 2 ≤ 100) ∧ 0 ≤ rn_gi M a 3 ∧ rn_gi M a 3 ≤ 100
def rn_tn2 (M : rn_M) (a : Nat) (x y h : Int) : Prop := (rn_gi M a 0 - h ≤ x ∧ x ≤ rn_gi M a 0 + rn_gi M a 2 - 1 + h) ∧ rn_gi M a 1 - h ≤ y ∧ y ≤ rn_gi M a 1 + rn_gi M a 3 - 1 + h
/-- the cells of a river lie on the map -/
def rn_rk2 (M : rn_M) (a : Nat) : Prop := ∀ k : Nat, (k : Int) ≤ rn_gi M a 4 → (0 ≤ rn_gi M (a + 3) k ∧ rn_gi M (a + 3) k < 60) ∧ 0 ≤ rn_gi M (a + 4) k ∧ rn_gi M (a + 4) k < 40
def rn_rn2 (M : rn_M) (a : Nat) (p x y h : Int) : Prop := 0 ≤ p ∧ p ≤ rn_gi M a 4 ∧ (rn_gi M (a + 3) p.toNat - x ≤ h ∧ x - rn_gi M (a + 3) p.toNat ≤ h) ∧ rn_gi M (a + 4) p.toNat - y ≤ h ∧ y - rn_gi M (a + 4) p.toNat ≤ h
def rn_ko (s : Int) : Int := if s = 0 then 0 else if 97 ≤ s ∧ s ≤ 122 then 1 else if 48 ≤ s ∧ s ≤ 57 then 2 else 3
theorem rn_cv {y pc : Nat} {L t : List rn_V} {M : rn_M} {Q : rn_Q} {x z : Int} (h : x = z) (k : rn_WP y pc L (rn_I z :: t) M Q) : rn_WP y pc L (rn_I x :: t) M Q := by rw [h]; exact k
theorem rn_si_gif {M : rn_M} {a k b : Nat} {v : Int} (h : a ≠ b) : rn_gi (rn_si M a k v) b = rn_gi M b := funext fun j => rn_si_ne (fun z => h z.1.symm)
theorem rn_cpy_gif {M : rn_M} {r d b sp dp n : Nat} (h : d ≠ b) : rn_gi (rn_cpy M r d sp dp n) b = rn_gi M b := funext fun j => rn_cpy_out (fun z => h z.1.symm)
theorem rn_sr_gif {M : rn_M} {a k b : Nat} {v : Option Nat} : rn_gi (rn_sr M a k v) b = rn_gi M b := rfl
theorem rn_bdB {a : Nat} (h : rn_isB a) : 14 ≤ a ∧ a + 63 < 462 := by obtain ⟨j, h1, rfl⟩ := h; omega
theorem rn_bdR {a : Nat} (h : rn_isR a) : 18 ≤ a ∧ a + 4 < 462 := by obtain ⟨j, i, h1, h2, rfl⟩ := h; omega
theorem rn_bdT {a : Nat} (h : rn_isT a) : 18 ≤ a ∧ a + 4 < 462 := by obtain ⟨j, i, h1, h2, rfl⟩ := h; omega
theorem rn_bdL {a : Nat} (h : rn_isL a) : 18 ≤ a ∧ a < 462 := by obtain ⟨j, i, h1, h2, rfl⟩ := h; omega
