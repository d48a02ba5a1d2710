def rn_T : Nat → u_T := fun c => match c with
  | 0 => TX0
  | 1 => TX1
  | 2 => TX2
  | 3 => TX3
  | 4 => TX4
  | 5 => TX5
  | 6 => TX6
  | 7 => TX7
  | 8 => TX8
  | _ => TX9
def rn_ty : Nat → Nat → FieldType := fun c => match c with
  | 0 => tyX0
  | 1 => tyX1
  | 2 => tyX2
  | 3 => tyX3
  | 4 => tyX4
  | 5 => tyX5
  | 6 => tyX6
  | 7 => tyX7
  | 8 => tyX8
  | _ => tyX9
/-- of a class: places of instantiable, initialized -/
def rn_cpl : List (Nat × Nat) := [(79, 20), (72, 19), (227, 24), (164, 23), (38, 17), (90, 21), (237, 25), (44, 18), (137, 22), (30, 16), (30, 16)]
/-- of a method: its kind (0 virtual, 1 static, 2 a constructor), places of code, initialized, static or instance, selects -/
def rn_mpl : List (Nat × Nat × Nat × Nat × Nat) := [(2, 82, 20, 81, 0), (0, 527, 20, 525, 526), (0, 531, 20, 530, 7), (0, 550, 20, 549, 8), (0, 566, 20, 565, 9), (0, 380, 20, 378, 379), (0, 340, 20, 338, 339), (0, 291, 20, 289, 290), (0, 535, 20, 533, 534), (0, 554, 20, 552, 553), (0, 570, 20, 568, 569), (0, 644, 20, 642, 643), (0, 384, 20, 382, 383), (0, 496, 20, 494, 495), (0, 481, 20, 479, 480), (0, 287, 20, 285, 286), (0, 388, 20, 386, 387), (0, 376, 20, 374, 375), (0, 680, 20, 678, 679), (2, 75, 19, 74, 0), (0, 283, 19, 281, 282), (0, 523, 19, 521, 522), (0, 587, 19, 585, 586), (0, 591, 19, 590, 10), (0, 272, 19, 270, 271), (2, 230, 24, 229, 0), (0, 323, 24, 321, 322), (0, 331, 24, 330, 2), (0, 336, 24, 335, 3), (0, 361, 24, 360, 4), (0, 661, 24, 660, 12), (0, 670, 24, 669, 14), (0, 712, 24, 710, 711), (0, 665, 24, 664, 13), (0, 720, 24, 718, 719), (0, 652, 24, 650, 651), (0, 657, 24, 656, 11), (0, 318, 24, 317, 1), (0, 314, 24, 312, 313), (0, 745, 24, 743, 744), (2, 167, 23, 166, 0), (0, 574, 23, 572, 573), (0, 486, 23, 484, 485), (0, 399, 23, 397, 398), (0, 474, 23, 472, 473), (2, 41, 17, 40, 0), (0, 0, 0, 0, 0), (0, 0, 0, 0, 0), (0, 0, 0, 0, 0), (0, 0, 0, 0, 0), (0, 0, 0, 0, 0), (0, 0, 0, 0, 0), (0, 0, 0, 0, 0), (0, 0, 0, 0, 0), (0, 0, 0, 0, 0), (0, 0, 0, 0, 0), (0, 0, 0, 0, 0), (2, 93, 21, 92, 0), (0, 543, 21, 541, 542), (0, 539, 21, 537, 538), (0, 579, 21, 577, 578), (0, 583, 21, 581, 582), (0, 605, 21, 603, 604), (0, 614, 21, 612, 613), (0, 348, 21, 346, 347), (0, 344, 21, 342, 343), (0, 352, 21, 350, 351), (0, 448, 21, 446, 447), (0, 327, 21, 325, 326), (0, 304, 21, 303, 0), (0, 300, 21, 298, 299), (0, 699, 21, 697, 698), (0, 296, 21, 294, 295), (0, 470, 21, 468, 469), (0, 369, 21, 368, 5), (0, 365, 21, 363, 364), (0, 684, 21, 682, 683), (0, 435, 21, 433, 434), (2, 240, 25, 239, 0), (0, 392, 25, 390, 391), (0, 405, 25, 403, 404), (0, 409, 25, 408, 6), (2, 47, 18, 46, 0), (0, 507, 18, 505, 506), (0, 0, 0, 0, 0), (0, 0, 0, 0, 0), (2, 140, 22, 139, 0), (0, 562, 22, 560, 561), (0, 558, 22, 556, 557), (0, 356, 22, 354, 355), (2, 33, 16, 32, 0), (0, 503, 16, 501, 502), (0, 0, 0, 0, 0), (0, 0, 0, 0, 0), (0, 512, 16, 510, 511), (0, 595, 16, 593, 594), (0, 601, 16, 599, 600), (0, 619, 16, 617, 618), (0, 623, 16, 621, 622), (0, 627, 16, 625, 626), (0, 631, 16, 629, 630), (0, 635, 16, 633, 634), (0, 640, 16, 638, 639), (0, 648, 16, 646, 647), (0, 741, 16, 739, 740), (0, 268, 16, 266, 267), (0, 279, 16, 277, 278), (0, 429, 16, 427, 428), (0, 453, 16, 451, 452), (0, 444, 16, 442, 443), (0, 491, 16, 489, 490), (0, 464, 16, 462, 463), (0, 676, 16, 674, 675), (0, 690, 16, 688, 689), (0, 695, 16, 693, 694), (0, 704, 16, 702, 703), (0, 708, 16, 706, 707), (0, 716, 16, 714, 715), (1, 275, 16, 274, 0), (1, 412, 16, 411, 0), (1, 516, 16, 515, 0), (1, 519, 16, 518, 0), (1, 456, 16, 455, 0), (1, 415, 15, 414, 0), (1, 419, 15, 418, 0), (1, 731, 15, 730, 0), (1, 423, 15, 422, 0), (1, 499, 15, 498, 0), (1, 725, 15, 724, 0), (1, 728, 15, 727, 0), (1, 734, 15, 733, 0), (1, 737, 15, 736, 0), (1, 749, 15, 748, 0), (0, 0, 0, 0, 0), (0, 0, 0, 0, 0), (0, 0, 0, 0, 0), (0, 0, 0, 0, 0), (0, 0, 0, 0, 0), (0, 0, 0, 0, 0), (0, 0, 0, 0, 0), (0, 0, 0, 0, 0), (0, 0, 0, 0, 0), (0, 0, 0, 0, 0), (0, 0, 0, 0, 0), (0, 0, 0, 0, 0), (0, 0, 0, 0, 0), (0, 0, 0, 0, 0), (0, 0, 0, 0, 0), (0, 0, 0, 0, 0), (0, 0, 0, 0, 0), (0, 0, 0, 0, 0), (0, 0, 0, 0, 0), (0, 0, 0, 0, 0), (0, 0, 0, 0, 0), (0, 0, 0, 0, 0), (0, 0, 0, 0, 0), (0, 0, 0, 0, 0), (0, 0, 0, 0, 0), (0, 0, 0, 0, 0), (0, 0, 0, 0, 0), (0, 0, 0, 0, 0), (0, 0, 0, 0, 0), (0, 0, 0, 0, 0), (0, 0, 0, 0, 0), (0, 0, 0, 0, 0), (0, 0, 0, 0, 0), (0, 0, 0, 0, 0), (0, 0, 0, 0, 0), (0, 0, 0, 0, 0), (0, 0, 0, 0, 0), (0, 0, 0, 0, 0), (0, 0, 0, 0, 0), (0, 0, 0, 0, 0), (0, 0, 0, 0, 0), (0, 0, 0, 0, 0), (0, 0, 0, 0, 0), (0, 0, 0, 0, 0), (0, 0, 0, 0, 0), (0, 0, 0, 0, 0), (0, 0, 0, 0, 0), (0, 0, 0, 0, 0), (0, 0, 0, 0, 0), (0, 0, 0, 0, 0), (0, 0, 0, 0, 0), (0, 0, 0, 0, 0), (0, 0, 0, 0, 0), (0, 0, 0, 0, 0), (0, 0, 0, 0, 0), (0, 0, 0, 0, 0), (0, 0, 0, 0, 0), (0, 0, 0, 0, 0), (0, 0, 0, 0, 0), (0, 0, 0, 0, 0), (0, 0, 0, 0, 0), (0, 0, 0, 0, 0), (0, 0, 0, 0, 0), (0, 0, 0, 0, 0), (0, 0, 0, 0, 0), (0, 0, 0, 0, 0), (0, 0, 0, 0, 0), (0, 0, 0, 0, 0), (0, 0, 0, 0, 0), (0, 0, 0, 0, 0), (0, 0, 0, 0, 0), (1, 307, 26, 306, 0), (1, 372, 26, 371, 0), (1, 310, 26, 309, 0), (0, 0, 0, 0, 0), (0, 0, 0, 0, 0), (0, 0, 0, 0, 0), (0, 0, 0, 0, 0), (0, 0, 0, 0, 0), (0, 0, 0, 0, 0), (1, 395, 27, 394, 0), (0, 0, 0, 0, 0), (0, 0, 0, 0, 0)]
theorem rn_cl_at : ∀ a, a < 11 → rn_cl[a]? = some (rn_cn a, rn_T a, rn_nf a) := by
  intro a h
  match a, h with
  | 0, _ => rfl
  | 1, _ => rfl
  | 2, _ => rfl
  | 3, _ => rfl
  | 4, _ => rfl
  | 5, _ => rfl
  | 6, _ => rfl
  | 7, _ => rfl
  | 8, _ => rfl
  | 9, _ => rfl
  | 10, _ => rfl
  | k + 11, h => exact absurd h (by omega)
theorem rn_cl_in : ∀ a, a < 11 → ∀ w ∈ u_ws (rn_cn a) (rn_T a) (rn_nf a), w ∈ lw_tbl ∧ goodWord w = true := by
  intro a h
  match a, h with
  | 0, _ => exact fun w hw => ⟨rn_in0 w hw, List.all_eq_true.mp (show (wsX00.all goodWord) = true by decide +kernel) w hw⟩
  | 1, _ => exact fun w hw => ⟨rn_in1 w hw, List.all_eq_true.mp (show (wsX10.all goodWord) = true by decide +kernel) w hw⟩
  | 2, _ => exact fun w hw => ⟨rn_in2 w hw, List.all_eq_true.mp (show (wsX20.all goodWord) = true by decide +kernel) w hw⟩
  | 3, _ => exact fun w hw => ⟨rn_in3 w hw, List.all_eq_true.mp (show (wsX30.all goodWord) = true by decide +kernel) w hw⟩
  | 4, _ => exact fun w hw => ⟨rn_in4 w hw, List.all_eq_true.mp (show (wsX40.all goodWord) = true by decide +kernel) w hw⟩
  | 5, _ => exact fun w hw => ⟨rn_in5 w hw, List.all_eq_true.mp (show (wsX50.all goodWord) = true by decide +kernel) w hw⟩
  | 6, _ => exact fun w hw => ⟨rn_in6 w hw, List.all_eq_true.mp (show (wsX60.all goodWord) = true by decide +kernel) w hw⟩
  | 7, _ => exact fun w hw => ⟨rn_in7 w hw, List.all_eq_true.mp (show (wsX70.all goodWord) = true by decide +kernel) w hw⟩
  | 8, _ => exact fun w hw => ⟨rn_in8 w hw, List.all_eq_true.mp (show (wsX80.all goodWord) = true by decide +kernel) w hw⟩
  | 9, _ => exact fun w hw => ⟨rn_in9 w hw, List.all_eq_true.mp (show (wsX90.all goodWord) = true by decide +kernel) w hw⟩
  | 10, _ => exact fun w hw => ⟨rn_in9 w hw, List.all_eq_true.mp (show (wsX90.all goodWord) = true by decide +kernel) w hw⟩
  | k + 11, h => exact absurd h (by omega)
theorem rn_cl_ty : ∀ a, a < 11 → ∀ k, k < rn_nf a → parseFieldDescriptor (rn_T a k).2.2.1 = some (rn_ty a k) := by
  intro a h
  match a, h with
  | 0, _ => exact tyX0_ok
  | 1, _ => exact tyX1_ok
  | 2, _ => exact tyX2_ok
  | 3, _ => exact tyX3_ok
  | 4, _ => exact tyX4_ok
  | 5, _ => exact tyX5_ok
  | 6, _ => exact tyX6_ok
  | 7, _ => exact tyX7_ok
  | 8, _ => exact tyX8_ok
  | 9, _ => exact tyX9_ok
  | 10, _ => exact tyX9_ok
  | k + 11, h => exact absurd h (by omega)
theorem rn_cl_nm : ∀ a, a < 11 → ∀ i, i < rn_nf a → ∀ b, b < rn_nf a → i ≠ b → (rn_T a i).2.1 ≠ (rn_T a b).2.1 := by
  intro a h
  match a, h with
  | 0, _ => exact nmX0
  | 1, _ => exact nmX1
  | 2, _ => exact nmX2
  | 3, _ => exact nmX3
  | 4, _ => exact nmX4
  | 5, _ => exact nmX5
  | 6, _ => exact nmX6
  | 7, _ => exact nmX7
  | 8, _ => exact nmX8
  | 9, _ => exact nmX9
  | 10, _ => exact nmX9
  | k + 11, h => exact absurd h (by omega)
theorem rn_p_maxc : Cond.code Lib.Math.max.name Lib.Math.max.code 2 (some .int) ∈ rn_Wd := rn_Wd_mem (t := 372) (by decide +kernel) (by decide +kernel)
theorem rn_p_maxs : Cond.static Lib.Math.max.name ∈ rn_Wd := rn_Wd_mem (t := 371) (by decide +kernel) (by decide +kernel)
theorem rn_p_minc : Cond.code Lib.Math.min.name Lib.Math.min.code 2 (some .int) ∈ rn_Wd := rn_Wd_mem (t := 310) (by decide +kernel) (by decide +kernel)
theorem rn_p_mins : Cond.static Lib.Math.min.name ∈ rn_Wd := rn_Wd_mem (t := 309) (by decide +kernel) (by decide +kernel)
theorem rn_p_absc : Cond.code Lib.Math.abs.name Lib.Math.abs.code 1 (some .int) ∈ rn_Wd := rn_Wd_mem (t := 307) (by decide +kernel) (by decide +kernel)
theorem rn_p_abss : Cond.static Lib.Math.abs.name ∈ rn_Wd := rn_Wd_mem (t := 306) (by decide +kernel) (by decide +kernel)
theorem rn_p_mini : Cond.initialized "java/lang/Math" ∈ rn_Wd := rn_Wd_mem (t := 26) (by decide +kernel) (by decide +kernel)
theorem rn_p_nat : Cond.native arraycopyName ∈ rn_Wd := rn_Wd_mem (t := 546) (by decide +kernel) (by decide +kernel)
theorem rn_p_cst : Cond.static arraycopyName ∈ rn_Wd := rn_Wd_mem (t := 545) (by decide +kernel) (by decide +kernel)
theorem rn_p_cin : Cond.initialized "java/lang/System" ∈ rn_Wd := rn_Wd_mem (t := 28) (by decide +kernel) (by decide +kernel)
theorem rn_p_arr : Cond.arrayClass .int ∈ rn_Wd := rn_Wd_mem (t := 57) (by decide +kernel) (by decide +kernel)
theorem rn_p_obi : Cond.instanceMethod Lib.objectInit ∈ rn_Wd := rn_Wd_mem (t := 35) (by decide +kernel) (by decide +kernel)
theorem rn_p_obc : Cond.code Lib.objectInit ⟨#[0xb1]⟩ 1 none ∈ rn_Wd := rn_Wd_mem (t := 36) (by decide +kernel) (by decide +kernel)
theorem rn_nfw : nativeFrameWords "java/lang/System" "arraycopy" 5 ≤ 19 := by decide +kernel
