/-! the memory with which the law begins: the script, the two tables of steps, the two texts */
-/
def rn_sR : List Int := [1, 1, 0, -1, -1, -1, 0, 1]
def rn_sD : List Int := [0, 1, 1, 1, 0, -1, -1, -1]
def rn_M0 (N : Nat) (xs : Nat → Int) : rn_M := ([(21, N), (21, 8), (21, 8), (24, 0), (24, 0), (24, 0), (24, 0), (24, 0)], (1000, 100000),
  fun a k => match a with | 0 => xs k | 1 => rn_sR.getD k 0 | 2 => rn_sD.getD k 0 | _ => 0,
  fun _ _ => none)
