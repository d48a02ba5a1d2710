/-! the memory with which the law begins: the script, the two tables of steps, the two texts */
-/
def rn_sR : List Int := [1, 1, 0, -1, -1, -1, 0, 1]
def rn_sD : List Int := [0, 1, 1, 1, 0, -1, -1, -1]
def rn_bR : List Int := [114, 105, 118, 101, 114]
def rn_bT : List Int := [116, 111, 119, 110]
def rn_M0 (N : Nat) (xs : Nat → Int) : rn_M := ([(21, N), (21, 8), (21, 8), (22, 0), (22, 0), (23, 5), (23, 4), (24, 0)], (1000, 100000),
  fun a k => match a with | 0 => xs k | 1 => rn_sR.getD k 0 | 2 => rn_sD.getD k 0 | 5 => rn_bR.getD k 0 | 6 => rn_bT.getD k 0 | _ => 0,
  fun a k => match a, k with | 3, 0 => some 5 | 4, 0 => some 6 | _, _ => none)
theorem rn_sound_WP {l : Launch} {D : va_G} {A : Nat → Prop} {y pc : Nat} {L st : List rn_V} {M : rn_M} {Q : rn_Q} (h : rn_WP y pc L st M Q) : rn_Snd l D A y pc L st M Q := h _ rn_Snd_mon rn_sound
