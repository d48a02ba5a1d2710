/-! areas that meet on the map: cells against distances -/
section GEO
variable {N : Nat → Int}
theorem rn_geo_t {r s t : Int} (v : rn_vR N r) (vt : rn_vT N t) (s0 : 0 ≤ s) (s1 : s + rn_o N r 0 ≤ rn_o N r 5 + 1) : (∃ c : Nat, c < 2400 ∧ rn_tc N t c ∧ rn_ar N r s c) ↔ rn_mt' N r s t := by
  unfold rn_vT at vt
  have v2 := v.2.2.1
  constructor
  · rintro ⟨c, c0, ⟨x, y, a1, a2, a3⟩, k, k0, k1, x', y', b1, b2, b3, b4, b5⟩
    refine ⟨k, k0, k1, ?_⟩
    unfold rn_nt
    omega
  · rintro ⟨k, k0, k1, h⟩
    unfold rn_nt at h
    have p := v.2.2.2.2.2.2 k (by omega) (by omega)
    have hx : ∃ x : Int, (rn_tw N t 0 ≤ x ∧ x < rn_tw N t 0 + rn_tw N t 2) ∧ rn_px N r k.toNat - rn_o N r 2 ≤ x ∧ x ≤ rn_px N r k.toNat + rn_o N r 2 := ⟨max (rn_tw N t 0) (min (rn_px N r k.toNat) (rn_tw N t 0 + rn_tw N t 2 - 1)), by omega, by omega, by omega⟩
    have hy : ∃ y : Int, (rn_tw N t 1 ≤ y ∧ y < rn_tw N t 1 + rn_tw N t 3) ∧ rn_py N r k.toNat - rn_o N r 2 ≤ y ∧ y ≤ rn_py N r k.toNat + rn_o N r 2 := ⟨max (rn_tw N t 1) (min (rn_py N r k.toNat) (rn_tw N t 1 + rn_tw N t 3 - 1)), by omega, by omega, by omega⟩
    obtain ⟨x, x1, x2⟩ := hx
    obtain ⟨y, y1, y2⟩ := hy
    exact ⟨(60 * y + x).toNat, by omega, ⟨x, y, x1, y1, by omega⟩, k, k0, k1, x, y, by omega, by omega, x2, y2, by omega⟩
theorem rn_geo_l {r s q s' : Int} (v : rn_vR N r) (w : rn_vR N q) (s0 : 0 ≤ s) (s1 : s + rn_o N r 0 ≤ rn_o N r 5 + 1) (s2 : 0 ≤ s') (s3 : s' + rn_o N q 0 ≤ rn_o N q 5 + 1) : (∃ c : Nat, c < 2400 ∧ rn_ar N q s' c ∧ rn_ar N r s c) ↔ ∃ k : Int, s ≤ k ∧ k < s + rn_o N r 0 ∧ ∃ j : Int, s' ≤ j ∧ j < s' + rn_o N q 0 ∧ rn_near N r k q j (rn_o N r 2 + rn_o N q 2) := by
  have v2 := v.2.2.1
  have w2 := w.2.2.1
  constructor
  · rintro ⟨c, c0, ⟨j, j0, j1, x, y, a1, a2, a3, a4, a5⟩, k, k0, k1, x', y', b1, b2, b3, b4, b5⟩
    refine ⟨k, k0, k1, j, j0, j1, ?_⟩
    unfold rn_near
    omega
  · rintro ⟨k, k0, k1, j, j0, j1, h⟩
    unfold rn_near at h
    have p := v.2.2.2.2.2.2 k (by omega) (by omega)
    have p' := w.2.2.2.2.2.2 j (by omega) (by omega)
    have hx : ∃ x : Int, (0 ≤ x ∧ x < 60) ∧ (rn_px N q j.toNat - rn_o N q 2 ≤ x ∧ x ≤ rn_px N q j.toNat + rn_o N q 2) ∧ rn_px N r k.toNat - rn_o N r 2 ≤ x ∧ x ≤ rn_px N r k.toNat + rn_o N r 2 := ⟨max (rn_px N r k.toNat - rn_o N r 2) (min (rn_px N r k.toNat + rn_o N r 2) (rn_px N q j.toNat)), by omega, by omega, by omega⟩
    have hy : ∃ y : Int, (0 ≤ y ∧ y < 40) ∧ (rn_py N q j.toNat - rn_o N q 2 ≤ y ∧ y ≤ rn_py N q j.toNat + rn_o N q 2) ∧ rn_py N r k.toNat - rn_o N r 2 ≤ y ∧ y ≤ rn_py N r k.toNat + rn_o N r 2 := ⟨max (rn_py N r k.toNat - rn_o N r 2) (min (rn_py N r k.toNat + rn_o N r 2) (rn_py N q j.toNat)), by omega, by omega, by omega⟩
    obtain ⟨x, x1, x2, x3⟩ := hx
    obtain ⟨y, y1, y2, y3⟩ := hy
    exact ⟨(60 * y + x).toNat, by omega, ⟨j, j0, j1, x, y, x1, y1, x2, y2, by omega⟩, k, k0, k1, x, y, x1, y1, x3, y3, by omega⟩
theorem rn_geo_ml {r s l : Int} (v : rn_vR N r) (vl : rn_vL N l) (w : rn_vR N (rn_lb N l 0)) (s0 : 0 ≤ s) (s1 : s + rn_o N r 0 ≤ rn_o N r 5 + 1) : (∃ c : Nat, c < 2400 ∧ rn_ar N (rn_lb N l 0) (rn_lb N l 1) c ∧ rn_ar N r s c) ↔ rn_ml' N r s l := by
  rw [rn_geo_l v w s0 s1 vl.2.1.1 vl.2.2]
  exact Iff.rfl
end GEO
