/-! print: what the law keeps of a state: a function of the row alone -/
def rl_fd (f : Int → Int64 → Int64) : Nat → Int → Int64 → Int64
  | 0, _, h => h
  | k + 1, i, h => rl_fd f k (i + 1) (f i h)
noncomputable def rn_p1 (N : Nat → Int) (i : Int) (h : Int64) : Int64 := Int64.ofNat 31 * h + rn_i2l (rn_aCount N 0 0 i)
noncomputable def rn_p2 (N : Nat → Int) (r i : Int) (h : Int64) : Int64 := Int64.ofNat 31 * h + rn_i2l (rn_aRiver N r i)
def rn_p3 (N : Nat → Int) (r i : Int) (h : Int64) : Int64 := Int64.ofNat 31 * (Int64.ofNat 31 * (Int64.ofNat 31 * h + rn_i2l (rn_aLetter N r i)) + rn_i2l (rn_aCell N r i)) + rn_i2l (rn_aCell N r (5 * i))
noncomputable def rn_p4 (N : Nat → Int) (i : Int) (h : Int64) : Int64 := Int64.ofNat 31 * (Int64.ofNat 31 * (Int64.ofNat 31 * (Int64.ofNat 31 * (Int64.ofNat 31 * h + rn_i2l (rn_aLabel N i 0)) + rn_i2l (rn_aLabel N i 1)) + rn_i2l (rn_aTown N i (i % 6))) + rn_i2l (rn_aTown N i 4)) + rn_i2l (rn_aTown N i 2)
noncomputable def rn_p5 (N : Nat → Int) (r : Int) (h : Int64) : Int64 := rl_fd (rn_p3 N r) 12 0 (rl_fd (rn_p2 N r) 7 0 h)
noncomputable def rn_pr (N : Nat → Int) : Int64 := rl_fd (rn_p4 N) 20 0 (rl_fd (rn_p5 N) 6 0 (rl_fd (rn_p1 N) 8 0 (Int64.ofNat 83)))
section LB
variable {G : Nat × (Nat → Int)} {M : rn_M} {Q : rn_Q} {N : Nat → Int} {n : Int} {K : Nat → Nat → Int}
theorem rs_print_6 {v4 : rn_V} : ∀ (k : Nat) (i : Int) (h : Int64) (v2 : rn_V) (M : rn_M), rn_Jq G M N n K → rn_ca v2 = 1 → 0 ≤ i → i + k = 8 → (∀ M' v2', rn_ca v2' = 1 → rn_Jq G M' N n K → rn_WP 126 33 [rn_R 8, rn_G (rl_fd (rn_p1 N) k i h), v2', rn_I 0, v4] [] M' Q) → rn_WP 126 6 [rn_R 8, rn_G h, v2, rn_I i, v4] [] M Q
  | 0, i, h, v2, M, J, hv, i0, e, kk => rb_Lw_print_6 J hv (fun c => by omega) (fun c => by omega) (fun _ M' J' => kk M' v2 hv J')
  | k + 1, i, h, v2, M, J, hv, i0, e, kk => rb_Lw_print_6 J hv (fun c => by omega) (fun c M' J' => rs_print_6 k (i + 1) _ rn_J M' J' rfl (by omega) (by omega) kk) (fun c => by omega)
theorem rs_print_42 {r : Int} : ∀ (k : Nat) (i : Int) (h : Int64) (v2 : rn_V) (M : rn_M), rn_Jq G M N n K → 0 ≤ i → i + k = 7 → (∀ M' v2', rn_Jq G M' N n K → (rn_ca v2 = 1 → rn_ca v2' = 1) → rn_WP 126 73 [rn_R 8, rn_G (rl_fd (rn_p2 N r) k i h), v2', rn_I r, rn_I 0] [] M' Q) → rn_WP 126 42 [rn_R 8, rn_G h, v2, rn_I r, rn_I i] [] M Q
  | 0, i, h, v2, M, J, i0, e, kk => rb_Lw_print_42 J (fun c => by omega) (fun c => by omega) (fun _ M' J' => kk M' v2 J' id)
  | k + 1, i, h, v2, M, J, i0, e, kk => rb_Lw_print_42 J (fun c => by omega) (fun c M' J' => rs_print_42 k (i + 1) _ rn_J M' J' (by omega) (by omega) (fun M2 v2' J2 q => kk M2 v2' J2 (fun _ => q rfl))) (fun c => by omega)
theorem rs_print_73 {r : Int} (r0 : 0 ≤ r) (r1 : r < 6) : ∀ (k : Nat) (i : Int) (h : Int64) (v2 : rn_V) (M : rn_M), rn_Jq G M N n K → 0 ≤ i → i + k = 12 → (∀ M' v2' v4', rn_Jq G M' N n K → (rn_ca v2 = 1 → rn_ca v2' = 1) → rn_WP 126 33 [rn_R 8, rn_G (rl_fd (rn_p3 N r) k i h), v2', rn_I (r + 1), v4'] [] M' Q) → rn_WP 126 73 [rn_R 8, rn_G h, v2, rn_I r, rn_I i] [] M Q
  | 0, i, h, v2, M, J, i0, e, kk => rb_Lw_print_73 J (fun c => by omega) (fun c => by omega) (fun c => by omega) (fun _ M' J' => kk M' v2 _ J' id)
  | k + 1, i, h, v2, M, J, i0, e, kk => rb_Lw_print_73 J (fun c => by omega) (fun c => by omega) (fun c M' J' => rs_print_73 r0 r1 k (i + 1) _ rn_J M' J' (by omega) (by omega) (fun M2 v2' v4' J2 q => kk M2 v2' v4' J2 (fun _ => q rfl))) (fun c => by omega)
theorem rs_print_33 : ∀ (k : Nat) (r : Int) (h : Int64) (v2 v4 : rn_V) (M : rn_M), rn_Jq G M N n K → rn_ca v2 = 1 → 0 ≤ r → r + k = 6 → (∀ M' v2' v4', rn_Jq G M' N n K → rn_WP 126 137 [rn_R 8, rn_G (rl_fd (rn_p5 N) k r h), v2', rn_I 0, v4'] [] M' Q) → rn_WP 126 33 [rn_R 8, rn_G h, v2, rn_I r, v4] [] M Q
  | 0, r, h, v2, v4, M, J, hv, r0, e, kk => rb_Lw_print_33 J hv (fun c => by omega) (fun _ M' J' => kk M' v2 v4 J')
  | k + 1, r, h, v2, v4, M, J, hv, r0, e, kk => rb_Lw_print_33 J hv (fun c M1 J1 => rs_print_42 7 0 h v2 M1 J1 (by omega) (by omega) (fun M2 w2 J2 q2 => rs_print_73 r0 (by omega) 12 0 _ w2 M2 J2 (by omega) (by omega) (fun M3 w3 w4 J3 q3 => rs_print_33 k (r + 1) _ w3 w4 M3 J3 (q3 (q2 hv)) (by omega) (by omega) kk))) (fun c => by omega)
theorem rs_print_137 {v4 : rn_V} : ∀ (k : Nat) (i : Int) (h : Int64) (v2 : rn_V) (M : rn_M), rn_Jq G M N n K → 0 ≤ i → i + k = 20 → (∀ M', rn_Jq G M' N n K → Q (some (rn_G (rl_fd (rn_p4 N) k i h))) M') → rn_WP 126 137 [rn_R 8, rn_G h, v2, rn_I i, v4] [] M Q
  | 0, i, h, v2, M, J, i0, e, kk => rb_Lw_print_137 J (fun c => by omega) (fun c => by omega) (fun _ M' J' => kk M' J')
  | k + 1, i, h, v2, M, J, i0, e, kk => rb_Lw_print_137 J (fun c => by omega) (fun c M' J' => rs_print_137 k (i + 1) _ rn_J M' J' (by omega) (by omega) kk) (fun c => by omega)
theorem iq_print (J : rn_Jq G M N n K) (k : ∀ M', rn_Jq G M' N n K → Q (some (rn_G (rn_pr N))) M') : rn_ME 126 [rn_R 8] M Q :=
  re_Lw_print (rb_Lw_print_0 J (fun M1 J1 => rs_print_6 8 0 _ rn_J M1 J1 rfl (by omega) (by omega) (fun M2 w2 h2 J2 => rs_print_33 6 0 _ w2 _ M2 J2 h2 (by omega) (by omega) (fun M3 w3 w4 J3 => rs_print_137 20 0 _ w3 M3 J3 (by omega) (by omega) k))))
theorem rn_cmp0 (x : Int64) : (lg_cmp x x).toInt = 0 := by
  unfold lg_cmp
  simp
end LB
