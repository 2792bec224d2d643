/-! a call's end weakened; the script; the law's end -/
theorem call_mono {d : Nat} {μ : MD} {as : List MV} {w : Wd} {Q Q2 : Option MV → Wd → Prop} (h : Call d μ as w Q) (hq : ∀ r w2, Q r w2 → Q2 r w2) : Call d μ as w Q2 := by
  intro has hW l G hG
  refine MetFree.mono (h has hW l G hG) (fun _ _ h => h) (fun _ _ _ _ _ h => h) (fun a st o t _ hz => ?_)
  obtain ⟨⟨⟨r, w2, e1, e2, e3, e4⟩, e5⟩, e6⟩ := hz
  exact ⟨⟨⟨r, w2, e1, e2, hq r w2 e3, e4⟩, e5⟩, e6⟩
def scrK (κ : Kx) (L : Nat) (xs : Nat → Int32) : Prop :=
  match κ with
  | (p, l, e, R, s, m, args, below, meth, c, cells, slots, Qs, G) => va_X (G.1 59) L xs s s.heap ∧ G.1 59 < s.heap.size ∧ ¬ AG G (G.1 59)
theorem v_sld {κ : Kx} {own : String} {cc : ByteArray} {d pc : Nat} {ls : List (Option MV)} {st : List MV} {w : Wd} {L : Nat} {xs : Nat → Int32} (h : ctxB κ own cc d) (hS : scrK κ L xs) (hd : decode cc pc = .ok (.iaload, 1)) (hL : L ≤ 2560) (k : Nat) {j : Int} (hj : j = (k : Int)) (hk : k < L) (kk : VV κ (pc + 1) ls (.inl ((xs k).toInt) :: st) w) : VV κ pc ls (.inl j :: .inr (.inr 59) :: st) w := by
  obtain ⟨p, l, e, R, s, m, args, below, meth, c, cells, slots, Qs, G⟩ := κ
  obtain ⟨hx, hb, hown, hts, hlk, hK, hKU, hG, hfr, hlo, hce, hsl⟩ := h
  obtain ⟨hX, hbl, hbA⟩ := hS
  subst hj
  intro hL2 hS2 hW H locs rl hP hSS hl
  have hr : ri32 (k : Int) := by unfold ri32; omega
  refine va_sld hx hb hX hbl hbA hSS (i := Int32.ofInt (k : Int)) (oi_in hr (by omega) (by omega)) hd ?_
  have kk2 := kk hL2 (ok_c (ri_toInt _) (ok_t (ok_t hS2))) hW H locs rl hP hSS hl
  rw [oi_clamp hr, show ((k : Int)).toNat = k from rfl]
  have e : rv G (.inl ((xs k).toInt)) = .int (xs k) := congrArg Value.int (oi_of _)
  rw [List.map_cons, e] at kk2
  exact kk2
theorem v_scl {κ : Kx} {own : String} {cc : ByteArray} {d pc : Nat} {ls : List (Option MV)} {st : List MV} {w : Wd} {L : Nat} {xs : Nat → Int32} (h : ctxB κ own cc d) (hS : scrK κ L xs) (hL : L ≤ 2560) (hd : decode cc pc = .ok (.arraylength, 1)) (kk : VV κ (pc + 1) ls (.inl (L : Int) :: st) w) : VV κ pc ls (.inr (.inr 59) :: st) w := by
  obtain ⟨p, l, e, R, s, m, args, below, meth, c, cells, slots, Qs, G⟩ := κ
  obtain ⟨hx, hb, hown, hts, hlk, hK, hKU, hG, hfr, hlo, hce, hsl⟩ := h
  obtain ⟨hX, hbl, hbA⟩ := hS
  intro hL2 hS2 hW H locs rl hP hSS hl
  refine va_slen hx hb hX hbl hbA hSS hd ?_
  exact kk hL2 (ok_c (show ri32 (L : Int) by unfold ri32; omega) (ok_t hS2)) hW H locs rl hP hSS hl
theorem bAnd_63 (z : Int) : 0 ≤ bAnd z 63 ∧ bAnd z 63 ≤ 63 := by
  have e : ((Int32.ofInt z).toBitVec &&& 63#32).toNat ≤ 63 := by
    rw [BitVec.toNat_and]
    exact Nat.and_le_right
  have h : bAnd z 63 = ((Int32.ofInt z).toBitVec &&& 63#32).toInt := rfl
  rw [h, BitVec.toInt_eq_toNat_of_lt (by omega)]
  omega
abbrev LSL (i : Nat) : List (Option MV) := [some (vR 59), some (vR 0), some (vR 39), some (vI (i : Int))]

theorem vi_L_13 : Vir RL 13 mX3_verse 3 3 := ⟨BIG_in 249 (by decide +kernel) (by decide +kernel), BIG_in 250 (by decide +kernel) (by decide +kernel), BIG_in 251 (by decide +kernel) (by decide +kernel), by decide +kernel, ok_X3_verse⟩
theorem vi_L_17 : Vir RL 17 mX4_verse 4 3 := ⟨BIG_in 885 (by decide +kernel) (by decide +kernel), BIG_in 886 (by decide +kernel) (by decide +kernel), BIG_in 887 (by decide +kernel) (by decide +kernel), by decide +kernel, ok_X4_verse⟩
theorem vi_L_18 : Vir RL 18 mX3_form 3 1 := ⟨BIG_in 275 (by decide +kernel) (by decide +kernel), BIG_in 276 (by decide +kernel) (by decide +kernel), BIG_in 277 (by decide +kernel) (by decide +kernel), by decide +kernel, ok_X3_form⟩
theorem vi_L_22 : Vir RL 22 mX4_form 4 1 := ⟨BIG_in 900 (by decide +kernel) (by decide +kernel), BIG_in 901 (by decide +kernel) (by decide +kernel), BIG_in 902 (by decide +kernel) (by decide +kernel), by decide +kernel, ok_X4_form⟩
theorem vi_L_23 : Vir RL 23 mX3_word 3 3 := ⟨BIG_in 279 (by decide +kernel) (by decide +kernel), BIG_in 280 (by decide +kernel) (by decide +kernel), BIG_in 281 (by decide +kernel) (by decide +kernel), by decide +kernel, ok_X3_word⟩
theorem vi_L_26 : Vir RL 26 mX4_word 4 3 := ⟨BIG_in 904 (by decide +kernel) (by decide +kernel), BIG_in 905 (by decide +kernel) (by decide +kernel), BIG_in 906 (by decide +kernel) (by decide +kernel), by decide +kernel, ok_X4_word⟩
theorem vi_L_27 : Vir RL 27 mX3_type 3 1 := ⟨BIG_in 306 (by decide +kernel) (by decide +kernel), BIG_in 307 (by decide +kernel) (by decide +kernel), BIG_in 308 (by decide +kernel) (by decide +kernel), by decide +kernel, ok_X3_type⟩
theorem vi_L_30 : Vir RL 30 mX4_type 4 1 := ⟨BIG_in 922 (by decide +kernel) (by decide +kernel), BIG_in 923 (by decide +kernel) (by decide +kernel), BIG_in 924 (by decide +kernel) (by decide +kernel), by decide +kernel, ok_X4_type⟩
theorem vi_L_31 : Vir RL 31 mX3_clear 3 0 := ⟨BIG_in 315 (by decide +kernel) (by decide +kernel), BIG_in 316 (by decide +kernel) (by decide +kernel), BIG_in 317 (by decide +kernel) (by decide +kernel), by decide +kernel, ok_X3_clear⟩
theorem vi_L_35 : Vir RL 35 mX4_clear 4 0 := ⟨BIG_in 926 (by decide +kernel) (by decide +kernel), BIG_in 927 (by decide +kernel) (by decide +kernel), BIG_in 928 (by decide +kernel) (by decide +kernel), by decide +kernel, ok_X4_clear⟩
theorem vi_L_36 : Vir RL 36 mX3_read 3 0 := ⟨BIG_in 319 (by decide +kernel) (by decide +kernel), BIG_in 320 (by decide +kernel) (by decide +kernel), BIG_in 321 (by decide +kernel) (by decide +kernel), by decide +kernel, ok_X3_read⟩
theorem vi_L_39 : Vir RL 39 mX4_read 4 0 := ⟨BIG_in 930 (by decide +kernel) (by decide +kernel), BIG_in 931 (by decide +kernel) (by decide +kernel), BIG_in 932 (by decide +kernel) (by decide +kernel), by decide +kernel, ok_X4_read⟩
theorem vi_L_40 : Vir RL 40 mX3_puts 3 2 := ⟨BIG_in 456 (by decide +kernel) (by decide +kernel), BIG_in 457 (by decide +kernel) (by decide +kernel), BIG_in 458 (by decide +kernel) (by decide +kernel), by decide +kernel, ok_X3_puts⟩
theorem vi_L_44 : Vir RL 44 mX4_puts 4 2 := ⟨BIG_in 986 (by decide +kernel) (by decide +kernel), BIG_in 987 (by decide +kernel) (by decide +kernel), BIG_in 988 (by decide +kernel) (by decide +kernel), by decide +kernel, ok_X4_puts⟩
theorem vi_L_45 : Vir RL 45 mX3_takes 3 1 := ⟨BIG_in 498 (by decide +kernel) (by decide +kernel), BIG_in 499 (by decide +kernel) (by decide +kernel), BIG_in 500 (by decide +kernel) (by decide +kernel), by decide +kernel, ok_X3_takes⟩
theorem vi_L_48 : Vir RL 48 mX4_takes 4 1 := ⟨BIG_in 1020 (by decide +kernel) (by decide +kernel), BIG_in 1021 (by decide +kernel) (by decide +kernel), BIG_in 1022 (by decide +kernel) (by decide +kernel), by decide +kernel, ok_X4_takes⟩
theorem vi_L_49 : Vir RL 49 mX3_swaps 3 2 := ⟨BIG_in 502 (by decide +kernel) (by decide +kernel), BIG_in 503 (by decide +kernel) (by decide +kernel), BIG_in 504 (by decide +kernel) (by decide +kernel), by decide +kernel, ok_X3_swaps⟩
theorem vi_L_52 : Vir RL 52 mX4_swaps 4 2 := ⟨BIG_in 1024 (by decide +kernel) (by decide +kernel), BIG_in 1025 (by decide +kernel) (by decide +kernel), BIG_in 1026 (by decide +kernel) (by decide +kernel), by decide +kernel, ok_X4_swaps⟩
theorem vi_L_53 : Vir RL 53 mX3_undo 3 0 := ⟨BIG_in 511 (by decide +kernel) (by decide +kernel), BIG_in 512 (by decide +kernel) (by decide +kernel), BIG_in 513 (by decide +kernel) (by decide +kernel), by decide +kernel, ok_X3_undo⟩
theorem vi_L_56 : Vir RL 56 mX4_undo 4 0 := ⟨BIG_in 1036 (by decide +kernel) (by decide +kernel), BIG_in 1037 (by decide +kernel) (by decide +kernel), BIG_in 1038 (by decide +kernel) (by decide +kernel), by decide +kernel, ok_X4_undo⟩
theorem vi_L_57 : Vir RL 57 mX3_of 3 2 := ⟨BIG_in 519 (by decide +kernel) (by decide +kernel), BIG_in 520 (by decide +kernel) (by decide +kernel), BIG_in 521 (by decide +kernel) (by decide +kernel), by decide +kernel, ok_X3_of⟩
theorem vi_L_60 : Vir RL 60 mX4_of 4 2 := ⟨BIG_in 1040 (by decide +kernel) (by decide +kernel), BIG_in 1041 (by decide +kernel) (by decide +kernel), BIG_in 1042 (by decide +kernel) (by decide +kernel), by decide +kernel, ok_X4_of⟩
theorem vi_L_61 : Vir RL 61 mX3_about 3 2 := ⟨BIG_in 529 (by decide +kernel) (by decide +kernel), BIG_in 530 (by decide +kernel) (by decide +kernel), BIG_in 531 (by decide +kernel) (by decide +kernel), by decide +kernel, ok_X3_about⟩
theorem vi_L_64 : Vir RL 64 mX4_about 4 2 := ⟨BIG_in 1044 (by decide +kernel) (by decide +kernel), BIG_in 1045 (by decide +kernel) (by decide +kernel), BIG_in 1046 (by decide +kernel) (by decide +kernel), by decide +kernel, ok_X4_about⟩
theorem vi_L_65 : Vir RL 65 mX3_fits 3 2 := ⟨BIG_in 547 (by decide +kernel) (by decide +kernel), BIG_in 548 (by decide +kernel) (by decide +kernel), BIG_in 549 (by decide +kernel) (by decide +kernel), by decide +kernel, ok_X3_fits⟩
theorem vi_L_68 : Vir RL 68 mX4_fits 4 2 := ⟨BIG_in 1055 (by decide +kernel) (by decide +kernel), BIG_in 1056 (by decide +kernel) (by decide +kernel), BIG_in 1057 (by decide +kernel) (by decide +kernel), by decide +kernel, ok_X4_fits⟩
theorem vi_L_69 : Vir RL 69 mX3_ways 3 0 := ⟨BIG_in 552 (by decide +kernel) (by decide +kernel), BIG_in 553 (by decide +kernel) (by decide +kernel), BIG_in 554 (by decide +kernel) (by decide +kernel), by decide +kernel, ok_X3_ways⟩
theorem vi_L_72 : Vir RL 72 mX4_ways 4 0 := ⟨BIG_in 1059 (by decide +kernel) (by decide +kernel), BIG_in 1060 (by decide +kernel) (by decide +kernel), BIG_in 1061 (by decide +kernel) (by decide +kernel), by decide +kernel, ok_X4_ways⟩
theorem vi_L_73 : Vir RL 73 mX3_first 3 1 := ⟨BIG_in 576 (by decide +kernel) (by decide +kernel), BIG_in 577 (by decide +kernel) (by decide +kernel), BIG_in 578 (by decide +kernel) (by decide +kernel), by decide +kernel, ok_X3_first⟩
theorem vi_L_76 : Vir RL 76 mX4_first 4 1 := ⟨BIG_in 1074 (by decide +kernel) (by decide +kernel), BIG_in 1075 (by decide +kernel) (by decide +kernel), BIG_in 1076 (by decide +kernel) (by decide +kernel), by decide +kernel, ok_X4_first⟩
theorem vi_L_77 : Vir RL 77 mX3_cheap 3 1 := ⟨BIG_in 599 (by decide +kernel) (by decide +kernel), BIG_in 600 (by decide +kernel) (by decide +kernel), BIG_in 601 (by decide +kernel) (by decide +kernel), by decide +kernel, ok_X3_cheap⟩
theorem vi_L_80 : Vir RL 80 mX4_cheap 4 1 := ⟨BIG_in 1082 (by decide +kernel) (by decide +kernel), BIG_in 1083 (by decide +kernel) (by decide +kernel), BIG_in 1084 (by decide +kernel) (by decide +kernel), by decide +kernel, ok_X4_cheap⟩
theorem vi_L_81 : Vir RL 81 mX3_more 3 0 := ⟨BIG_in 603 (by decide +kernel) (by decide +kernel), BIG_in 604 (by decide +kernel) (by decide +kernel), BIG_in 605 (by decide +kernel) (by decide +kernel), by decide +kernel, ok_X3_more⟩
theorem vi_L_84 : Vir RL 84 mX4_more 4 0 := ⟨BIG_in 1086 (by decide +kernel) (by decide +kernel), BIG_in 1087 (by decide +kernel) (by decide +kernel), BIG_in 1088 (by decide +kernel) (by decide +kernel), by decide +kernel, ok_X4_more⟩
theorem vi_L_85 : Vir RL 85 mX3_needs 3 1 := ⟨BIG_in 612 (by decide +kernel) (by decide +kernel), BIG_in 613 (by decide +kernel) (by decide +kernel), BIG_in 614 (by decide +kernel) (by decide +kernel), by decide +kernel, ok_X3_needs⟩
theorem vi_L_88 : Vir RL 88 mX4_needs 4 1 := ⟨BIG_in 1090 (by decide +kernel) (by decide +kernel), BIG_in 1091 (by decide +kernel) (by decide +kernel), BIG_in 1092 (by decide +kernel) (by decide +kernel), by decide +kernel, ok_X4_needs⟩
theorem vi_L_89 : Vir RL 89 mX3_held 3 0 := ⟨BIG_in 620 (by decide +kernel) (by decide +kernel), BIG_in 621 (by decide +kernel) (by decide +kernel), BIG_in 622 (by decide +kernel) (by decide +kernel), by decide +kernel, ok_X3_held⟩
theorem vi_L_92 : Vir RL 92 mX4_held 4 0 := ⟨BIG_in 1098 (by decide +kernel) (by decide +kernel), BIG_in 1099 (by decide +kernel) (by decide +kernel), BIG_in 1100 (by decide +kernel) (by decide +kernel), by decide +kernel, ok_X4_held⟩
theorem vi_L_93 : Vir RL 93 mX3_forms 3 0 := ⟨BIG_in 636 (by decide +kernel) (by decide +kernel), BIG_in 637 (by decide +kernel) (by decide +kernel), BIG_in 638 (by decide +kernel) (by decide +kernel), by decide +kernel, ok_X3_forms⟩
theorem vi_L_96 : Vir RL 96 mX4_forms 4 0 := ⟨BIG_in 1102 (by decide +kernel) (by decide +kernel), BIG_in 1103 (by decide +kernel) (by decide +kernel), BIG_in 1104 (by decide +kernel) (by decide +kernel), by decide +kernel, ok_X4_forms⟩
theorem vi_L_97 : Vir RL 97 mX3_rows 3 2 := ⟨BIG_in 640 (by decide +kernel) (by decide +kernel), BIG_in 641 (by decide +kernel) (by decide +kernel), BIG_in 642 (by decide +kernel) (by decide +kernel), by decide +kernel, ok_X3_rows⟩
theorem vi_L_100 : Vir RL 100 mX4_rows 4 2 := ⟨BIG_in 1106 (by decide +kernel) (by decide +kernel), BIG_in 1107 (by decide +kernel) (by decide +kernel), BIG_in 1108 (by decide +kernel) (by decide +kernel), by decide +kernel, ok_X4_rows⟩
theorem vi_L_101 : Vir RL 101 mX3_note 3 3 := ⟨BIG_in 658 (by decide +kernel) (by decide +kernel), BIG_in 659 (by decide +kernel) (by decide +kernel), BIG_in 660 (by decide +kernel) (by decide +kernel), by decide +kernel, ok_X3_note⟩
theorem vi_L_104 : Vir RL 104 mX4_note 4 3 := ⟨BIG_in 1114 (by decide +kernel) (by decide +kernel), BIG_in 1115 (by decide +kernel) (by decide +kernel), BIG_in 1116 (by decide +kernel) (by decide +kernel), by decide +kernel, ok_X4_note⟩
theorem vi_L_105 : Vir RL 105 mX3_mark 3 4 := ⟨BIG_in 669 (by decide +kernel) (by decide +kernel), BIG_in 670 (by decide +kernel) (by decide +kernel), BIG_in 671 (by decide +kernel) (by decide +kernel), by decide +kernel, ok_X3_mark⟩
theorem vi_L_109 : Vir RL 109 mX4_mark 4 4 := ⟨BIG_in 1118 (by decide +kernel) (by decide +kernel), BIG_in 1119 (by decide +kernel) (by decide +kernel), BIG_in 1120 (by decide +kernel) (by decide +kernel), by decide +kernel, ok_X4_mark⟩
theorem vi_L_110 : Vir RL 110 mX3_forget 3 1 := ⟨BIG_in 677 (by decide +kernel) (by decide +kernel), BIG_in 678 (by decide +kernel) (by decide +kernel), BIG_in 679 (by decide +kernel) (by decide +kernel), by decide +kernel, ok_X3_forget⟩
theorem vi_L_113 : Vir RL 113 mX4_forget 4 1 := ⟨BIG_in 1122 (by decide +kernel) (by decide +kernel), BIG_in 1123 (by decide +kernel) (by decide +kernel), BIG_in 1124 (by decide +kernel) (by decide +kernel), by decide +kernel, ok_X4_forget⟩
theorem vi_L_114 : Vir RL 114 mX3_is 3 0 := ⟨BIG_in 681 (by decide +kernel) (by decide +kernel), BIG_in 682 (by decide +kernel) (by decide +kernel), BIG_in 683 (by decide +kernel) (by decide +kernel), by decide +kernel, ok_X3_is⟩
theorem vi_L_117 : Vir RL 117 mX4_is 4 0 := ⟨BIG_in 1126 (by decide +kernel) (by decide +kernel), BIG_in 1127 (by decide +kernel) (by decide +kernel), BIG_in 1128 (by decide +kernel) (by decide +kernel), by decide +kernel, ok_X4_is⟩
theorem vi_L_118 : Vir RL 118 mX3_look 3 0 := ⟨BIG_in 693 (by decide +kernel) (by decide +kernel), BIG_in 694 (by decide +kernel) (by decide +kernel), BIG_in 695 (by decide +kernel) (by decide +kernel), by decide +kernel, ok_X3_look⟩
theorem vi_L_121 : Vir RL 121 mX4_look 4 0 := ⟨BIG_in 1134 (by decide +kernel) (by decide +kernel), BIG_in 1135 (by decide +kernel) (by decide +kernel), BIG_in 1136 (by decide +kernel) (by decide +kernel), by decide +kernel, ok_X4_look⟩
theorem vi_L_122 : Vir RL 122 mX3_kinds 3 1 := ⟨BIG_in 710 (by decide +kernel) (by decide +kernel), BIG_in 711 (by decide +kernel) (by decide +kernel), BIG_in 712 (by decide +kernel) (by decide +kernel), by decide +kernel, ok_X3_kinds⟩
theorem vi_L_125 : Vir RL 125 mX4_kinds 4 1 := ⟨BIG_in 1144 (by decide +kernel) (by decide +kernel), BIG_in 1145 (by decide +kernel) (by decide +kernel), BIG_in 1146 (by decide +kernel) (by decide +kernel), by decide +kernel, ok_X4_kinds⟩
theorem vi_L_126 : Vir RL 126 mX3_ask 3 1 := ⟨BIG_in 722 (by decide +kernel) (by decide +kernel), BIG_in 723 (by decide +kernel) (by decide +kernel), BIG_in 724 (by decide +kernel) (by decide +kernel), by decide +kernel, ok_X3_ask⟩
theorem vi_L_129 : Vir RL 129 mX4_ask 4 1 := ⟨BIG_in 1152 (by decide +kernel) (by decide +kernel), BIG_in 1153 (by decide +kernel) (by decide +kernel), BIG_in 1154 (by decide +kernel) (by decide +kernel), by decide +kernel, ok_X4_ask⟩
theorem vi_L_130 : Vir RL 130 mX3_poets 3 1 := ⟨BIG_in 726 (by decide +kernel) (by decide +kernel), BIG_in 727 (by decide +kernel) (by decide +kernel), BIG_in 728 (by decide +kernel) (by decide +kernel), by decide +kernel, ok_X3_poets⟩
theorem vi_L_133 : Vir RL 133 mX4_poets 4 1 := ⟨BIG_in 1156 (by decide +kernel) (by decide +kernel), BIG_in 1157 (by decide +kernel) (by decide +kernel), BIG_in 1158 (by decide +kernel) (by decide +kernel), by decide +kernel, ok_X4_poets⟩
theorem vi_L_134 : Vir RL 134 mX3_luck 3 0 := ⟨BIG_in 743 (by decide +kernel) (by decide +kernel), BIG_in 744 (by decide +kernel) (by decide +kernel), BIG_in 745 (by decide +kernel) (by decide +kernel), by decide +kernel, ok_X3_luck⟩
theorem vi_L_137 : Vir RL 137 mX4_luck 4 0 := ⟨BIG_in 1172 (by decide +kernel) (by decide +kernel), BIG_in 1173 (by decide +kernel) (by decide +kernel), BIG_in 1174 (by decide +kernel) (by decide +kernel), by decide +kernel, ok_X4_luck⟩
theorem vi_L_138 : Vir RL 138 mX3_evenings 3 2 := ⟨BIG_in 757 (by decide +kernel) (by decide +kernel), BIG_in 758 (by decide +kernel) (by decide +kernel), BIG_in 759 (by decide +kernel) (by decide +kernel), by decide +kernel, ok_X3_evenings⟩
theorem vi_L_141 : Vir RL 141 mX4_evenings 4 2 := ⟨BIG_in 1180 (by decide +kernel) (by decide +kernel), BIG_in 1181 (by decide +kernel) (by decide +kernel), BIG_in 1182 (by decide +kernel) (by decide +kernel), by decide +kernel, ok_X4_evenings⟩
theorem vi_L_142 : Vir RL 142 mX3_part 3 1 := ⟨BIG_in 772 (by decide +kernel) (by decide +kernel), BIG_in 773 (by decide +kernel) (by decide +kernel), BIG_in 774 (by decide +kernel) (by decide +kernel), by decide +kernel, ok_X3_part⟩
theorem vi_L_146 : Vir RL 146 mX4_part 4 1 := ⟨BIG_in 1195 (by decide +kernel) (by decide +kernel), BIG_in 1196 (by decide +kernel) (by decide +kernel), BIG_in 1197 (by decide +kernel) (by decide +kernel), by decide +kernel, ok_X4_part⟩
theorem vi_L_147 : Vir RL 147 mX3_image 3 1 := ⟨BIG_in 776 (by decide +kernel) (by decide +kernel), BIG_in 777 (by decide +kernel) (by decide +kernel), BIG_in 778 (by decide +kernel) (by decide +kernel), by decide +kernel, ok_X3_image⟩
theorem vi_L_150 : Vir RL 150 mX4_image 4 1 := ⟨BIG_in 1199 (by decide +kernel) (by decide +kernel), BIG_in 1200 (by decide +kernel) (by decide +kernel), BIG_in 1201 (by decide +kernel) (by decide +kernel), by decide +kernel, ok_X4_image⟩
theorem vi_L_151 : Vir RL 151 mX3_from 3 1 := ⟨BIG_in 780 (by decide +kernel) (by decide +kernel), BIG_in 781 (by decide +kernel) (by decide +kernel), BIG_in 782 (by decide +kernel) (by decide +kernel), by decide +kernel, ok_X3_from⟩
theorem vi_L_154 : Vir RL 154 mX4_from 4 1 := ⟨BIG_in 1203 (by decide +kernel) (by decide +kernel), BIG_in 1204 (by decide +kernel) (by decide +kernel), BIG_in 1205 (by decide +kernel) (by decide +kernel), by decide +kernel, ok_X4_from⟩
theorem vi_L_155 : Vir RL 155 mX3_status 3 1 := ⟨BIG_in 784 (by decide +kernel) (by decide +kernel), BIG_in 785 (by decide +kernel) (by decide +kernel), BIG_in 786 (by decide +kernel) (by decide +kernel), by decide +kernel, ok_X3_status⟩
theorem vi_L_158 : Vir RL 158 mX4_status 4 1 := ⟨BIG_in 1207 (by decide +kernel) (by decide +kernel), BIG_in 1208 (by decide +kernel) (by decide +kernel), BIG_in 1209 (by decide +kernel) (by decide +kernel), by decide +kernel, ok_X4_status⟩
theorem vi_L_159 : Vir RL 159 mX3_count 3 1 := ⟨BIG_in 788 (by decide +kernel) (by decide +kernel), BIG_in 789 (by decide +kernel) (by decide +kernel), BIG_in 790 (by decide +kernel) (by decide +kernel), by decide +kernel, ok_X3_count⟩
theorem vi_L_162 : Vir RL 162 mX4_count 4 1 := ⟨BIG_in 1211 (by decide +kernel) (by decide +kernel), BIG_in 1212 (by decide +kernel) (by decide +kernel), BIG_in 1213 (by decide +kernel) (by decide +kernel), by decide +kernel, ok_X4_count⟩
theorem vi_L_163 : Vir RL 163 mX3_digest 3 0 := ⟨BIG_in 805 (by decide +kernel) (by decide +kernel), BIG_in 806 (by decide +kernel) (by decide +kernel), BIG_in 807 (by decide +kernel) (by decide +kernel), by decide +kernel, ok_X3_digest⟩
theorem vi_L_167 : Vir RL 167 mX4_digest 4 0 := ⟨BIG_in 1223 (by decide +kernel) (by decide +kernel), BIG_in 1224 (by decide +kernel) (by decide +kernel), BIG_in 1225 (by decide +kernel) (by decide +kernel), by decide +kernel, ok_X4_digest⟩

theorem lc_0 {κ : Kx} {L : Nat} {xs : Nat → Int32} (hC : ctxB κ RL cL_law (0 + 10 + 1)) (hN : mlx κ 4) (hS : scrK κ L xs) (hL : L ≤ 2560) {i : Nat} (hi : i + 5 ≤ L) {w : Wd} (hI : INV w) (hk : ∀ w2, INV w2 → VV κ 1099 (LSL i) [] w2) : VV κ 196 (LSL i) [] w := by
  refine w_al1 hC dL_law_196 ?_
  refine w_al0 hC dL_law_197 ?_
  refine w_il3 hC dL_law_198 ?_
  refine w_ic hC dL_law_199 rfl ?_
  refine w_iadd hC dL_law_200 (ri_mk (by omega) (by omega)) ?_
  refine v_sld hC hS dL_law_201 hL (i + 1) (by omega) (by omega) ?_
  refine w_al0 hC dL_law_202 ?_
  refine w_il3 hC dL_law_203 ?_
  refine w_ic hC dL_law_204 rfl ?_
  refine w_iadd hC dL_law_205 (ri_mk (by omega) (by omega)) ?_
  refine v_sld hC hS dL_law_206 hL (i + 2) (by omega) (by omega) ?_
  refine w_al0 hC dL_law_207 ?_
  refine w_il3 hC dL_law_208 ?_
  refine w_ic hC dL_law_209 rfl ?_
  refine w_iadd hC dL_law_210 (ri_mk (by omega) (by omega)) ?_
  refine v_sld hC hS dL_law_211 hL (i + 3) (by omega) (by omega) ?_
  refine w_vi3 hC vi_L_13 rfl dL_law_212 rfl hN (p_verse (d := 0) hI _ _ _ (fun z w1 hM => ?_))
  refine w_al2 hC dL_law_215 ?_
  refine w_al0 hC dL_law_216 ?_
  refine w_il3 hC dL_law_217 ?_
  refine w_ic hC dL_law_218 rfl ?_
  refine w_iadd hC dL_law_219 (ri_mk (by omega) (by omega)) ?_
  refine v_sld hC hS dL_law_220 hL (i + 1) (by omega) (by omega) ?_
  refine w_al0 hC dL_law_221 ?_
  refine w_il3 hC dL_law_222 ?_
  refine w_ic hC dL_law_223 rfl ?_
  refine w_iadd hC dL_law_224 (ri_mk (by omega) (by omega)) ?_
  refine v_sld hC hS dL_law_225 hL (i + 2) (by omega) (by omega) ?_
  refine w_al0 hC dL_law_226 ?_
  refine w_il3 hC dL_law_227 ?_
  refine w_ic hC dL_law_228 rfl ?_
  refine w_iadd hC dL_law_229 (ri_mk (by omega) (by omega)) ?_
  refine v_sld hC hS dL_law_230 hL (i + 3) (by omega) (by omega) ?_
  refine w_vi3 hC vi_L_17 rfl dL_law_231 rfl hN (call_mono hM (fun r2 w2 hr => ?_))
  obtain ⟨rfl, hI2⟩ := hr
  refine v_ic_eq (tgt := 1099) hC dL_law_234 rfl (fun _ => ?_) (fun h => absurd rfl h)
  exact hk _ hI2

theorem lc_1 {κ : Kx} {L : Nat} {xs : Nat → Int32} (hC : ctxB κ RL cL_law (0 + 10 + 1)) (hN : mlx κ 4) (hS : scrK κ L xs) (hL : L ≤ 2560) {i : Nat} (hi : i + 5 ≤ L) {w : Wd} (hI : INV w) (hk : ∀ w2, INV w2 → VV κ 1099 (LSL i) [] w2) : VV κ 239 (LSL i) [] w := by
  refine w_al1 hC dL_law_239 ?_
  refine w_al0 hC dL_law_240 ?_
  refine w_il3 hC dL_law_241 ?_
  refine w_ic hC dL_law_242 rfl ?_
  refine w_iadd hC dL_law_243 (ri_mk (by omega) (by omega)) ?_
  refine v_sld hC hS dL_law_244 hL (i + 1) (by omega) (by omega) ?_
  refine w_vi1 hC vi_L_18 rfl dL_law_245 rfl hN (p_form (d := 0) hI _ (fun z w1 hM => ?_))
  refine w_al2 hC dL_law_248 ?_
  refine w_al0 hC dL_law_249 ?_
  refine w_il3 hC dL_law_250 ?_
  refine w_ic hC dL_law_251 rfl ?_
  refine w_iadd hC dL_law_252 (ri_mk (by omega) (by omega)) ?_
  refine v_sld hC hS dL_law_253 hL (i + 1) (by omega) (by omega) ?_
  refine w_vi1 hC vi_L_22 rfl dL_law_254 rfl hN (call_mono hM (fun r2 w2 hr => ?_))
  obtain ⟨rfl, hI2⟩ := hr
  refine v_ic_eq (tgt := 1099) hC dL_law_257 rfl (fun _ => ?_) (fun h => absurd rfl h)
  exact hk _ hI2

theorem lc_2 {κ : Kx} {L : Nat} {xs : Nat → Int32} (hC : ctxB κ RL cL_law (0 + 10 + 1)) (hN : mlx κ 4) (hS : scrK κ L xs) (hL : L ≤ 2560) {i : Nat} (hi : i + 5 ≤ L) {w : Wd} (hI : INV w) (hk : ∀ w2, INV w2 → VV κ 1099 (LSL i) [] w2) : VV κ 262 (LSL i) [] w := by
  refine w_al1 hC dL_law_262 ?_
  refine w_al0 hC dL_law_263 ?_
  refine w_il3 hC dL_law_264 ?_
  refine w_ic hC dL_law_265 rfl ?_
  refine w_iadd hC dL_law_266 (ri_mk (by omega) (by omega)) ?_
  refine v_sld hC hS dL_law_267 hL (i + 1) (by omega) (by omega) ?_
  refine w_al0 hC dL_law_268 ?_
  refine w_il3 hC dL_law_269 ?_
  refine w_ic hC dL_law_270 rfl ?_
  refine w_iadd hC dL_law_271 (ri_mk (by omega) (by omega)) ?_
  refine v_sld hC hS dL_law_272 hL (i + 2) (by omega) (by omega) ?_
  refine w_al0 hC dL_law_273 ?_
  refine w_il3 hC dL_law_274 ?_
  refine w_ic hC dL_law_275 rfl ?_
  refine w_iadd hC dL_law_276 (ri_mk (by omega) (by omega)) ?_
  refine v_sld hC hS dL_law_277 hL (i + 3) (by omega) (by omega) ?_
  refine w_vi3 hC vi_L_23 rfl dL_law_278 rfl hN (p_word (d := 0) hI _ _ _ (fun z w1 hM => ?_))
  refine w_al2 hC dL_law_281 ?_
  refine w_al0 hC dL_law_282 ?_
  refine w_il3 hC dL_law_283 ?_
  refine w_ic hC dL_law_284 rfl ?_
  refine w_iadd hC dL_law_285 (ri_mk (by omega) (by omega)) ?_
  refine v_sld hC hS dL_law_286 hL (i + 1) (by omega) (by omega) ?_
  refine w_al0 hC dL_law_287 ?_
  refine w_il3 hC dL_law_288 ?_
  refine w_ic hC dL_law_289 rfl ?_
  refine w_iadd hC dL_law_290 (ri_mk (by omega) (by omega)) ?_
  refine v_sld hC hS dL_law_291 hL (i + 2) (by omega) (by omega) ?_
  refine w_al0 hC dL_law_292 ?_
  refine w_il3 hC dL_law_293 ?_
  refine w_ic hC dL_law_294 rfl ?_
  refine w_iadd hC dL_law_295 (ri_mk (by omega) (by omega)) ?_
  refine v_sld hC hS dL_law_296 hL (i + 3) (by omega) (by omega) ?_
  refine w_vi3 hC vi_L_26 rfl dL_law_297 rfl hN (call_mono hM (fun r2 w2 hr => ?_))
  obtain ⟨rfl, hI2⟩ := hr
  refine v_ic_eq (tgt := 1099) hC dL_law_300 rfl (fun _ => ?_) (fun h => absurd rfl h)
  exact hk _ hI2

theorem lc_3 {κ : Kx} {L : Nat} {xs : Nat → Int32} (hC : ctxB κ RL cL_law (0 + 10 + 1)) (hN : mlx κ 4) (hS : scrK κ L xs) (hL : L ≤ 2560) {i : Nat} (hi : i + 5 ≤ L) {w : Wd} (hI : INV w) (hk : ∀ w2, INV w2 → VV κ 1099 (LSL i) [] w2) : VV κ 305 (LSL i) [] w := by
  refine w_al1 hC dL_law_305 ?_
  refine w_al0 hC dL_law_306 ?_
  refine w_il3 hC dL_law_307 ?_
  refine w_ic hC dL_law_308 rfl ?_
  refine w_iadd hC dL_law_309 (ri_mk (by omega) (by omega)) ?_
  refine v_sld hC hS dL_law_310 hL (i + 1) (by omega) (by omega) ?_
  refine w_vi1 hC vi_L_27 rfl dL_law_311 rfl hN (p_type (d := 0) hI _ (fun z w1 hM => ?_))
  refine w_al2 hC dL_law_314 ?_
  refine w_al0 hC dL_law_315 ?_
  refine w_il3 hC dL_law_316 ?_
  refine w_ic hC dL_law_317 rfl ?_
  refine w_iadd hC dL_law_318 (ri_mk (by omega) (by omega)) ?_
  refine v_sld hC hS dL_law_319 hL (i + 1) (by omega) (by omega) ?_
  refine w_vi1 hC vi_L_30 rfl dL_law_320 rfl hN (call_mono hM (fun r2 w2 hr => ?_))
  obtain ⟨rfl, hI2⟩ := hr
  refine v_ic_eq (tgt := 1099) hC dL_law_323 rfl (fun _ => ?_) (fun h => absurd rfl h)
  exact hk _ hI2

theorem lc_4 {κ : Kx} {L : Nat} {xs : Nat → Int32} (hC : ctxB κ RL cL_law (0 + 10 + 1)) (hN : mlx κ 4) (hS : scrK κ L xs) (hL : L ≤ 2560) {i : Nat} (hi : i + 5 ≤ L) {w : Wd} (hI : INV w) (hk : ∀ w2, INV w2 → VV κ 1099 (LSL i) [] w2) : VV κ 328 (LSL i) [] w := by
  refine w_al1 hC dL_law_328 ?_
  refine w_vi0 hC vi_L_31 rfl dL_law_329 rfl hN (p_clear (d := 0) hI (fun z w1 hM => ?_))
  refine w_al2 hC dL_law_332 ?_
  refine w_vi0 hC vi_L_35 rfl dL_law_333 rfl hN (call_mono hM (fun r2 w2 hr => ?_))
  obtain ⟨rfl, hI2⟩ := hr
  refine v_ic_eq (tgt := 1099) hC dL_law_336 rfl (fun _ => ?_) (fun h => absurd rfl h)
  exact hk _ hI2

theorem lc_5 {κ : Kx} {L : Nat} {xs : Nat → Int32} (hC : ctxB κ RL cL_law (0 + 10 + 1)) (hN : mlx κ 4) (hS : scrK κ L xs) (hL : L ≤ 2560) {i : Nat} (hi : i + 5 ≤ L) {w : Wd} (hI : INV w) (hk : ∀ w2, INV w2 → VV κ 1099 (LSL i) [] w2) : VV κ 341 (LSL i) [] w := by
  refine w_al1 hC dL_law_341 ?_
  refine w_vi0 hC vi_L_36 rfl dL_law_342 rfl hN (p_read (d := 0) hI (fun z w1 hM => ?_))
  refine w_al2 hC dL_law_345 ?_
  refine w_vi0 hC vi_L_39 rfl dL_law_346 rfl hN (call_mono hM (fun r2 w2 hr => ?_))
  obtain ⟨rfl, hI2⟩ := hr
  refine v_ic_eq (tgt := 1099) hC dL_law_349 rfl (fun _ => ?_) (fun h => absurd rfl h)
  exact hk _ hI2

theorem lc_6 {κ : Kx} {L : Nat} {xs : Nat → Int32} (hC : ctxB κ RL cL_law (0 + 10 + 1)) (hN : mlx κ 4) (hS : scrK κ L xs) (hL : L ≤ 2560) {i : Nat} (hi : i + 5 ≤ L) {w : Wd} (hI : INV w) (hk : ∀ w2, INV w2 → VV κ 1099 (LSL i) [] w2) : VV κ 354 (LSL i) [] w := by
  refine w_al1 hC dL_law_354 ?_
  refine w_al0 hC dL_law_355 ?_
  refine w_il3 hC dL_law_356 ?_
  refine w_ic hC dL_law_357 rfl ?_
  refine w_iadd hC dL_law_358 (ri_mk (by omega) (by omega)) ?_
  refine v_sld hC hS dL_law_359 hL (i + 1) (by omega) (by omega) ?_
  refine w_al0 hC dL_law_360 ?_
  refine w_il3 hC dL_law_361 ?_
  refine w_ic hC dL_law_362 rfl ?_
  refine w_iadd hC dL_law_363 (ri_mk (by omega) (by omega)) ?_
  refine v_sld hC hS dL_law_364 hL (i + 2) (by omega) (by omega) ?_
  refine w_vi2 hC vi_L_40 rfl dL_law_365 rfl hN (p_puts (d := 0) hI _ _ (fun z w1 hM => ?_))
  refine w_al2 hC dL_law_368 ?_
  refine w_al0 hC dL_law_369 ?_
  refine w_il3 hC dL_law_370 ?_
  refine w_ic hC dL_law_371 rfl ?_
  refine w_iadd hC dL_law_372 (ri_mk (by omega) (by omega)) ?_
  refine v_sld hC hS dL_law_373 hL (i + 1) (by omega) (by omega) ?_
  refine w_al0 hC dL_law_374 ?_
  refine w_il3 hC dL_law_375 ?_
  refine w_ic hC dL_law_376 rfl ?_
  refine w_iadd hC dL_law_377 (ri_mk (by omega) (by omega)) ?_
  refine v_sld hC hS dL_law_378 hL (i + 2) (by omega) (by omega) ?_
  refine w_vi2 hC vi_L_44 rfl dL_law_379 rfl hN (call_mono hM (fun r2 w2 hr => ?_))
  obtain ⟨rfl, hI2⟩ := hr
  refine v_ic_eq (tgt := 1099) hC dL_law_382 rfl (fun _ => ?_) (fun h => absurd rfl h)
  exact hk _ hI2

theorem lc_7 {κ : Kx} {L : Nat} {xs : Nat → Int32} (hC : ctxB κ RL cL_law (0 + 10 + 1)) (hN : mlx κ 4) (hS : scrK κ L xs) (hL : L ≤ 2560) {i : Nat} (hi : i + 5 ≤ L) {w : Wd} (hI : INV w) (hk : ∀ w2, INV w2 → VV κ 1099 (LSL i) [] w2) : VV κ 387 (LSL i) [] w := by
  refine w_al1 hC dL_law_387 ?_
  refine w_al0 hC dL_law_388 ?_
  refine w_il3 hC dL_law_389 ?_
  refine w_ic hC dL_law_390 rfl ?_
  refine w_iadd hC dL_law_391 (ri_mk (by omega) (by omega)) ?_
  refine v_sld hC hS dL_law_392 hL (i + 1) (by omega) (by omega) ?_
  refine w_vi1 hC vi_L_45 rfl dL_law_393 rfl hN (p_takes (d := 0) hI _ (fun z w1 hM => ?_))
  refine w_al2 hC dL_law_396 ?_
  refine w_al0 hC dL_law_397 ?_
  refine w_il3 hC dL_law_398 ?_
  refine w_ic hC dL_law_399 rfl ?_
  refine w_iadd hC dL_law_400 (ri_mk (by omega) (by omega)) ?_
  refine v_sld hC hS dL_law_401 hL (i + 1) (by omega) (by omega) ?_
  refine w_vi1 hC vi_L_48 rfl dL_law_402 rfl hN (call_mono hM (fun r2 w2 hr => ?_))
  obtain ⟨rfl, hI2⟩ := hr
  refine v_ic_eq (tgt := 1099) hC dL_law_405 rfl (fun _ => ?_) (fun h => absurd rfl h)
  exact hk _ hI2

theorem lc_8 {κ : Kx} {L : Nat} {xs : Nat → Int32} (hC : ctxB κ RL cL_law (0 + 10 + 1)) (hN : mlx κ 4) (hS : scrK κ L xs) (hL : L ≤ 2560) {i : Nat} (hi : i + 5 ≤ L) {w : Wd} (hI : INV w) (hk : ∀ w2, INV w2 → VV κ 1099 (LSL i) [] w2) : VV κ 410 (LSL i) [] w := by
  refine w_al1 hC dL_law_410 ?_
  refine w_al0 hC dL_law_411 ?_
  refine w_il3 hC dL_law_412 ?_
  refine w_ic hC dL_law_413 rfl ?_
  refine w_iadd hC dL_law_414 (ri_mk (by omega) (by omega)) ?_
  refine v_sld hC hS dL_law_415 hL (i + 1) (by omega) (by omega) ?_
  refine w_al0 hC dL_law_416 ?_
  refine w_il3 hC dL_law_417 ?_
  refine w_ic hC dL_law_418 rfl ?_
  refine w_iadd hC dL_law_419 (ri_mk (by omega) (by omega)) ?_
  refine v_sld hC hS dL_law_420 hL (i + 2) (by omega) (by omega) ?_
  refine w_vi2 hC vi_L_49 rfl dL_law_421 rfl hN (p_swaps (d := 0) hI _ _ (fun z w1 hM => ?_))
  refine w_al2 hC dL_law_424 ?_
  refine w_al0 hC dL_law_425 ?_
  refine w_il3 hC dL_law_426 ?_
  refine w_ic hC dL_law_427 rfl ?_
  refine w_iadd hC dL_law_428 (ri_mk (by omega) (by omega)) ?_
  refine v_sld hC hS dL_law_429 hL (i + 1) (by omega) (by omega) ?_
  refine w_al0 hC dL_law_430 ?_
  refine w_il3 hC dL_law_431 ?_
  refine w_ic hC dL_law_432 rfl ?_
  refine w_iadd hC dL_law_433 (ri_mk (by omega) (by omega)) ?_
  refine v_sld hC hS dL_law_434 hL (i + 2) (by omega) (by omega) ?_
  refine w_vi2 hC vi_L_52 rfl dL_law_435 rfl hN (call_mono hM (fun r2 w2 hr => ?_))
  obtain ⟨rfl, hI2⟩ := hr
  refine v_ic_eq (tgt := 1099) hC dL_law_438 rfl (fun _ => ?_) (fun h => absurd rfl h)
  exact hk _ hI2

theorem lc_9 {κ : Kx} {L : Nat} {xs : Nat → Int32} (hC : ctxB κ RL cL_law (0 + 10 + 1)) (hN : mlx κ 4) (hS : scrK κ L xs) (hL : L ≤ 2560) {i : Nat} (hi : i + 5 ≤ L) {w : Wd} (hI : INV w) (hk : ∀ w2, INV w2 → VV κ 1099 (LSL i) [] w2) : VV κ 443 (LSL i) [] w := by
  refine w_al1 hC dL_law_443 ?_
  refine w_vi0 hC vi_L_53 rfl dL_law_444 rfl hN (p_undo (d := 0) hI (fun z w1 hM => ?_))
  refine w_al2 hC dL_law_447 ?_
  refine w_vi0 hC vi_L_56 rfl dL_law_448 rfl hN (call_mono hM (fun r2 w2 hr => ?_))
  obtain ⟨rfl, hI2⟩ := hr
  refine v_ic_eq (tgt := 1099) hC dL_law_451 rfl (fun _ => ?_) (fun h => absurd rfl h)
  exact hk _ hI2

theorem lc_10 {κ : Kx} {L : Nat} {xs : Nat → Int32} (hC : ctxB κ RL cL_law (0 + 10 + 1)) (hN : mlx κ 4) (hS : scrK κ L xs) (hL : L ≤ 2560) {i : Nat} (hi : i + 5 ≤ L) {w : Wd} (hI : INV w) (hk : ∀ w2, INV w2 → VV κ 1099 (LSL i) [] w2) : VV κ 456 (LSL i) [] w := by
  refine w_al1 hC dL_law_456 ?_
  refine w_al0 hC dL_law_457 ?_
  refine w_il3 hC dL_law_458 ?_
  refine w_ic hC dL_law_459 rfl ?_
  refine w_iadd hC dL_law_460 (ri_mk (by omega) (by omega)) ?_
  refine v_sld hC hS dL_law_461 hL (i + 1) (by omega) (by omega) ?_
  refine w_al0 hC dL_law_462 ?_
  refine w_il3 hC dL_law_463 ?_
  refine w_ic hC dL_law_464 rfl ?_
  refine w_iadd hC dL_law_465 (ri_mk (by omega) (by omega)) ?_
  refine v_sld hC hS dL_law_466 hL (i + 2) (by omega) (by omega) ?_
  refine w_vi2 hC vi_L_57 rfl dL_law_467 rfl hN (p_of (d := 0) hI _ _ (fun z w1 hM => ?_))
  refine w_al2 hC dL_law_470 ?_
  refine w_al0 hC dL_law_471 ?_
  refine w_il3 hC dL_law_472 ?_
  refine w_ic hC dL_law_473 rfl ?_
  refine w_iadd hC dL_law_474 (ri_mk (by omega) (by omega)) ?_
  refine v_sld hC hS dL_law_475 hL (i + 1) (by omega) (by omega) ?_
  refine w_al0 hC dL_law_476 ?_
  refine w_il3 hC dL_law_477 ?_
  refine w_ic hC dL_law_478 rfl ?_
  refine w_iadd hC dL_law_479 (ri_mk (by omega) (by omega)) ?_
  refine v_sld hC hS dL_law_480 hL (i + 2) (by omega) (by omega) ?_
  refine w_vi2 hC vi_L_60 rfl dL_law_481 rfl hN (call_mono hM (fun r2 w2 hr => ?_))
  obtain ⟨rfl, hI2⟩ := hr
  refine v_ic_eq (tgt := 1099) hC dL_law_484 rfl (fun _ => ?_) (fun h => absurd rfl h)
  exact hk _ hI2

theorem lc_11 {κ : Kx} {L : Nat} {xs : Nat → Int32} (hC : ctxB κ RL cL_law (0 + 10 + 1)) (hN : mlx κ 4) (hS : scrK κ L xs) (hL : L ≤ 2560) {i : Nat} (hi : i + 5 ≤ L) {w : Wd} (hI : INV w) (hk : ∀ w2, INV w2 → VV κ 1099 (LSL i) [] w2) : VV κ 489 (LSL i) [] w := by
  refine w_al1 hC dL_law_489 ?_
  refine w_al0 hC dL_law_490 ?_
  refine w_il3 hC dL_law_491 ?_
  refine w_ic hC dL_law_492 rfl ?_
  refine w_iadd hC dL_law_493 (ri_mk (by omega) (by omega)) ?_
  refine v_sld hC hS dL_law_494 hL (i + 1) (by omega) (by omega) ?_
  refine w_al0 hC dL_law_495 ?_
  refine w_il3 hC dL_law_496 ?_
  refine w_ic hC dL_law_497 rfl ?_
  refine w_iadd hC dL_law_498 (ri_mk (by omega) (by omega)) ?_
  refine v_sld hC hS dL_law_499 hL (i + 2) (by omega) (by omega) ?_
  refine w_vi2 hC vi_L_61 rfl dL_law_500 rfl hN (p_about (d := 0) hI _ _ (fun z w1 hM => ?_))
  refine w_al2 hC dL_law_503 ?_
  refine w_al0 hC dL_law_504 ?_
  refine w_il3 hC dL_law_505 ?_
  refine w_ic hC dL_law_506 rfl ?_
  refine w_iadd hC dL_law_507 (ri_mk (by omega) (by omega)) ?_
  refine v_sld hC hS dL_law_508 hL (i + 1) (by omega) (by omega) ?_
  refine w_al0 hC dL_law_509 ?_
  refine w_il3 hC dL_law_510 ?_
  refine w_ic hC dL_law_511 rfl ?_
  refine w_iadd hC dL_law_512 (ri_mk (by omega) (by omega)) ?_
  refine v_sld hC hS dL_law_513 hL (i + 2) (by omega) (by omega) ?_
  refine w_vi2 hC vi_L_64 rfl dL_law_514 rfl hN (call_mono hM (fun r2 w2 hr => ?_))
  obtain ⟨rfl, hI2⟩ := hr
  refine v_ic_eq (tgt := 1099) hC dL_law_517 rfl (fun _ => ?_) (fun h => absurd rfl h)
  exact hk _ hI2

theorem lc_12 {κ : Kx} {L : Nat} {xs : Nat → Int32} (hC : ctxB κ RL cL_law (0 + 10 + 1)) (hN : mlx κ 4) (hS : scrK κ L xs) (hL : L ≤ 2560) {i : Nat} (hi : i + 5 ≤ L) {w : Wd} (hI : INV w) (hk : ∀ w2, INV w2 → VV κ 1099 (LSL i) [] w2) : VV κ 522 (LSL i) [] w := by
  refine w_al1 hC dL_law_522 ?_
  refine w_al0 hC dL_law_523 ?_
  refine w_il3 hC dL_law_524 ?_
  refine w_ic hC dL_law_525 rfl ?_
  refine w_iadd hC dL_law_526 (ri_mk (by omega) (by omega)) ?_
  refine v_sld hC hS dL_law_527 hL (i + 1) (by omega) (by omega) ?_
  refine w_al0 hC dL_law_528 ?_
  refine w_il3 hC dL_law_529 ?_
  refine w_ic hC dL_law_530 rfl ?_
  refine w_iadd hC dL_law_531 (ri_mk (by omega) (by omega)) ?_
  refine v_sld hC hS dL_law_532 hL (i + 2) (by omega) (by omega) ?_
  refine w_vi2 hC vi_L_65 rfl dL_law_533 rfl hN (p_fits (d := 0) hI _ _ (fun z w1 hM => ?_))
  refine w_al2 hC dL_law_536 ?_
  refine w_al0 hC dL_law_537 ?_
  refine w_il3 hC dL_law_538 ?_
  refine w_ic hC dL_law_539 rfl ?_
  refine w_iadd hC dL_law_540 (ri_mk (by omega) (by omega)) ?_
  refine v_sld hC hS dL_law_541 hL (i + 1) (by omega) (by omega) ?_
  refine w_al0 hC dL_law_542 ?_
  refine w_il3 hC dL_law_543 ?_
  refine w_ic hC dL_law_544 rfl ?_
  refine w_iadd hC dL_law_545 (ri_mk (by omega) (by omega)) ?_
  refine v_sld hC hS dL_law_546 hL (i + 2) (by omega) (by omega) ?_
  refine w_vi2 hC vi_L_68 rfl dL_law_547 rfl hN (call_mono hM (fun r2 w2 hr => ?_))
  obtain ⟨rfl, hI2⟩ := hr
  refine v_ic_eq (tgt := 1099) hC dL_law_550 rfl (fun _ => ?_) (fun h => absurd rfl h)
  exact hk _ hI2

theorem lc_13 {κ : Kx} {L : Nat} {xs : Nat → Int32} (hC : ctxB κ RL cL_law (0 + 10 + 1)) (hN : mlx κ 4) (hS : scrK κ L xs) (hL : L ≤ 2560) {i : Nat} (hi : i + 5 ≤ L) {w : Wd} (hI : INV w) (hk : ∀ w2, INV w2 → VV κ 1099 (LSL i) [] w2) : VV κ 555 (LSL i) [] w := by
  refine w_al1 hC dL_law_555 ?_
  refine w_vi0 hC vi_L_69 rfl dL_law_556 rfl hN (p_ways (d := 0) hI (fun z w1 hM => ?_))
  refine w_al2 hC dL_law_559 ?_
  refine w_vi0 hC vi_L_72 rfl dL_law_560 rfl hN (call_mono hM (fun r2 w2 hr => ?_))
  obtain ⟨rfl, hI2⟩ := hr
  refine v_ic_eq (tgt := 1099) hC dL_law_563 rfl (fun _ => ?_) (fun h => absurd rfl h)
  exact hk _ hI2

theorem lc_14 {κ : Kx} {L : Nat} {xs : Nat → Int32} (hC : ctxB κ RL cL_law (0 + 10 + 1)) (hN : mlx κ 4) (hS : scrK κ L xs) (hL : L ≤ 2560) {i : Nat} (hi : i + 5 ≤ L) {w : Wd} (hI : INV w) (hk : ∀ w2, INV w2 → VV κ 1099 (LSL i) [] w2) : VV κ 568 (LSL i) [] w := by
  refine w_al1 hC dL_law_568 ?_
  refine w_al0 hC dL_law_569 ?_
  refine w_il3 hC dL_law_570 ?_
  refine w_ic hC dL_law_571 rfl ?_
  refine w_iadd hC dL_law_572 (ri_mk (by omega) (by omega)) ?_
  refine v_sld hC hS dL_law_573 hL (i + 1) (by omega) (by omega) ?_
  refine w_vi1 hC vi_L_73 rfl dL_law_574 rfl hN (p_first (d := 0) hI _ (fun z w1 hM => ?_))
  refine w_al2 hC dL_law_577 ?_
  refine w_al0 hC dL_law_578 ?_
  refine w_il3 hC dL_law_579 ?_
  refine w_ic hC dL_law_580 rfl ?_
  refine w_iadd hC dL_law_581 (ri_mk (by omega) (by omega)) ?_
  refine v_sld hC hS dL_law_582 hL (i + 1) (by omega) (by omega) ?_
  refine w_vi1 hC vi_L_76 rfl dL_law_583 rfl hN (call_mono hM (fun r2 w2 hr => ?_))
  obtain ⟨rfl, hI2⟩ := hr
  refine v_ic_eq (tgt := 1099) hC dL_law_586 rfl (fun _ => ?_) (fun h => absurd rfl h)
  exact hk _ hI2

theorem lc_15 {κ : Kx} {L : Nat} {xs : Nat → Int32} (hC : ctxB κ RL cL_law (0 + 10 + 1)) (hN : mlx κ 4) (hS : scrK κ L xs) (hL : L ≤ 2560) {i : Nat} (hi : i + 5 ≤ L) {w : Wd} (hI : INV w) (hk : ∀ w2, INV w2 → VV κ 1099 (LSL i) [] w2) : VV κ 591 (LSL i) [] w := by
  refine w_al1 hC dL_law_591 ?_
  refine w_al0 hC dL_law_592 ?_
  refine w_il3 hC dL_law_593 ?_
  refine w_ic hC dL_law_594 rfl ?_
  refine w_iadd hC dL_law_595 (ri_mk (by omega) (by omega)) ?_
  refine v_sld hC hS dL_law_596 hL (i + 1) (by omega) (by omega) ?_
  refine w_vi1 hC vi_L_77 rfl dL_law_597 rfl hN (p_cheap (d := 0) hI _ (fun z w1 hM => ?_))
  refine w_al2 hC dL_law_600 ?_
  refine w_al0 hC dL_law_601 ?_
  refine w_il3 hC dL_law_602 ?_
  refine w_ic hC dL_law_603 rfl ?_
  refine w_iadd hC dL_law_604 (ri_mk (by omega) (by omega)) ?_
  refine v_sld hC hS dL_law_605 hL (i + 1) (by omega) (by omega) ?_
  refine w_vi1 hC vi_L_80 rfl dL_law_606 rfl hN (call_mono hM (fun r2 w2 hr => ?_))
  obtain ⟨rfl, hI2⟩ := hr
  refine v_ic_eq (tgt := 1099) hC dL_law_609 rfl (fun _ => ?_) (fun h => absurd rfl h)
  exact hk _ hI2

theorem lc_16 {κ : Kx} {L : Nat} {xs : Nat → Int32} (hC : ctxB κ RL cL_law (0 + 10 + 1)) (hN : mlx κ 4) (hS : scrK κ L xs) (hL : L ≤ 2560) {i : Nat} (hi : i + 5 ≤ L) {w : Wd} (hI : INV w) (hk : ∀ w2, INV w2 → VV κ 1099 (LSL i) [] w2) : VV κ 614 (LSL i) [] w := by
  refine w_al1 hC dL_law_614 ?_
  refine w_vi0 hC vi_L_81 rfl dL_law_615 rfl hN (p_more (d := 0) hI (fun z w1 hM => ?_))
  refine w_al2 hC dL_law_618 ?_
  refine w_vi0 hC vi_L_84 rfl dL_law_619 rfl hN (call_mono hM (fun r2 w2 hr => ?_))
  obtain ⟨rfl, hI2⟩ := hr
  refine v_ic_eq (tgt := 1099) hC dL_law_622 rfl (fun _ => ?_) (fun h => absurd rfl h)
  exact hk _ hI2

theorem lc_17 {κ : Kx} {L : Nat} {xs : Nat → Int32} (hC : ctxB κ RL cL_law (0 + 10 + 1)) (hN : mlx κ 4) (hS : scrK κ L xs) (hL : L ≤ 2560) {i : Nat} (hi : i + 5 ≤ L) {w : Wd} (hI : INV w) (hk : ∀ w2, INV w2 → VV κ 1099 (LSL i) [] w2) : VV κ 627 (LSL i) [] w := by
  refine w_al1 hC dL_law_627 ?_
  refine w_al0 hC dL_law_628 ?_
  refine w_il3 hC dL_law_629 ?_
  refine w_ic hC dL_law_630 rfl ?_
  refine w_iadd hC dL_law_631 (ri_mk (by omega) (by omega)) ?_
  refine v_sld hC hS dL_law_632 hL (i + 1) (by omega) (by omega) ?_
  refine w_vi1 hC vi_L_85 rfl dL_law_633 rfl hN (p_needs (d := 0) hI _ (fun z w1 hM => ?_))
  refine w_al2 hC dL_law_636 ?_
  refine w_al0 hC dL_law_637 ?_
  refine w_il3 hC dL_law_638 ?_
  refine w_ic hC dL_law_639 rfl ?_
  refine w_iadd hC dL_law_640 (ri_mk (by omega) (by omega)) ?_
  refine v_sld hC hS dL_law_641 hL (i + 1) (by omega) (by omega) ?_
  refine w_vi1 hC vi_L_88 rfl dL_law_642 rfl hN (call_mono hM (fun r2 w2 hr => ?_))
  obtain ⟨rfl, hI2⟩ := hr
  refine v_ic_eq (tgt := 1099) hC dL_law_645 rfl (fun _ => ?_) (fun h => absurd rfl h)
  exact hk _ hI2

theorem lc_18 {κ : Kx} {L : Nat} {xs : Nat → Int32} (hC : ctxB κ RL cL_law (0 + 10 + 1)) (hN : mlx κ 4) (hS : scrK κ L xs) (hL : L ≤ 2560) {i : Nat} (hi : i + 5 ≤ L) {w : Wd} (hI : INV w) (hk : ∀ w2, INV w2 → VV κ 1099 (LSL i) [] w2) : VV κ 650 (LSL i) [] w := by
  refine w_al1 hC dL_law_650 ?_
  refine w_vi0 hC vi_L_89 rfl dL_law_651 rfl hN (p_held (d := 0) hI (fun z w1 hM => ?_))
  refine w_al2 hC dL_law_654 ?_
  refine w_vi0 hC vi_L_92 rfl dL_law_655 rfl hN (call_mono hM (fun r2 w2 hr => ?_))
  obtain ⟨rfl, hI2⟩ := hr
  refine v_ic_eq (tgt := 1099) hC dL_law_658 rfl (fun _ => ?_) (fun h => absurd rfl h)
  exact hk _ hI2

theorem lc_19 {κ : Kx} {L : Nat} {xs : Nat → Int32} (hC : ctxB κ RL cL_law (0 + 10 + 1)) (hN : mlx κ 4) (hS : scrK κ L xs) (hL : L ≤ 2560) {i : Nat} (hi : i + 5 ≤ L) {w : Wd} (hI : INV w) (hk : ∀ w2, INV w2 → VV κ 1099 (LSL i) [] w2) : VV κ 663 (LSL i) [] w := by
  refine w_al1 hC dL_law_663 ?_
  refine w_vi0 hC vi_L_93 rfl dL_law_664 rfl hN (p_forms (d := 0) hI (fun z w1 hM => ?_))
  refine w_al2 hC dL_law_667 ?_
  refine w_vi0 hC vi_L_96 rfl dL_law_668 rfl hN (call_mono hM (fun r2 w2 hr => ?_))
  obtain ⟨rfl, hI2⟩ := hr
  refine v_ic_eq (tgt := 1099) hC dL_law_671 rfl (fun _ => ?_) (fun h => absurd rfl h)
  exact hk _ hI2

theorem lc_20 {κ : Kx} {L : Nat} {xs : Nat → Int32} (hC : ctxB κ RL cL_law (0 + 10 + 1)) (hN : mlx κ 4) (hS : scrK κ L xs) (hL : L ≤ 2560) {i : Nat} (hi : i + 5 ≤ L) {w : Wd} (hI : INV w) (hk : ∀ w2, INV w2 → VV κ 1099 (LSL i) [] w2) : VV κ 676 (LSL i) [] w := by
  refine w_al1 hC dL_law_676 ?_
  refine w_al0 hC dL_law_677 ?_
  refine w_il3 hC dL_law_678 ?_
  refine w_ic hC dL_law_679 rfl ?_
  refine w_iadd hC dL_law_680 (ri_mk (by omega) (by omega)) ?_
  refine v_sld hC hS dL_law_681 hL (i + 1) (by omega) (by omega) ?_
  refine w_al0 hC dL_law_682 ?_
  refine w_il3 hC dL_law_683 ?_
  refine w_ic hC dL_law_684 rfl ?_
  refine w_iadd hC dL_law_685 (ri_mk (by omega) (by omega)) ?_
  refine v_sld hC hS dL_law_686 hL (i + 2) (by omega) (by omega) ?_
  refine w_vi2 hC vi_L_97 rfl dL_law_687 rfl hN (p_rows (d := 0) hI _ _ (fun z w1 hM => ?_))
  refine w_al2 hC dL_law_690 ?_
  refine w_al0 hC dL_law_691 ?_
  refine w_il3 hC dL_law_692 ?_
  refine w_ic hC dL_law_693 rfl ?_
  refine w_iadd hC dL_law_694 (ri_mk (by omega) (by omega)) ?_
  refine v_sld hC hS dL_law_695 hL (i + 1) (by omega) (by omega) ?_
  refine w_al0 hC dL_law_696 ?_
  refine w_il3 hC dL_law_697 ?_
  refine w_ic hC dL_law_698 rfl ?_
  refine w_iadd hC dL_law_699 (ri_mk (by omega) (by omega)) ?_
  refine v_sld hC hS dL_law_700 hL (i + 2) (by omega) (by omega) ?_
  refine w_vi2 hC vi_L_100 rfl dL_law_701 rfl hN (call_mono hM (fun r2 w2 hr => ?_))
  obtain ⟨rfl, hI2⟩ := hr
  refine v_ic_eq (tgt := 1099) hC dL_law_704 rfl (fun _ => ?_) (fun h => absurd rfl h)
  exact hk _ hI2

theorem lc_21 {κ : Kx} {L : Nat} {xs : Nat → Int32} (hC : ctxB κ RL cL_law (0 + 10 + 1)) (hN : mlx κ 4) (hS : scrK κ L xs) (hL : L ≤ 2560) {i : Nat} (hi : i + 5 ≤ L) {w : Wd} (hI : INV w) (hk : ∀ w2, INV w2 → VV κ 1099 (LSL i) [] w2) : VV κ 709 (LSL i) [] w := by
  refine w_al1 hC dL_law_709 ?_
  refine w_al0 hC dL_law_710 ?_
  refine w_il3 hC dL_law_711 ?_
  refine w_ic hC dL_law_712 rfl ?_
  refine w_iadd hC dL_law_713 (ri_mk (by omega) (by omega)) ?_
  refine v_sld hC hS dL_law_714 hL (i + 1) (by omega) (by omega) ?_
  refine w_al0 hC dL_law_715 ?_
  refine w_il3 hC dL_law_716 ?_
  refine w_ic hC dL_law_717 rfl ?_
  refine w_iadd hC dL_law_718 (ri_mk (by omega) (by omega)) ?_
  refine v_sld hC hS dL_law_719 hL (i + 2) (by omega) (by omega) ?_
  refine w_al0 hC dL_law_720 ?_
  refine w_il3 hC dL_law_721 ?_
  refine w_ic hC dL_law_722 rfl ?_
  refine w_iadd hC dL_law_723 (ri_mk (by omega) (by omega)) ?_
  refine v_sld hC hS dL_law_724 hL (i + 3) (by omega) (by omega) ?_
  refine w_vi3 hC vi_L_101 rfl dL_law_725 rfl hN (p_note (d := 0) hI _ _ _ (fun z w1 hM => ?_))
  refine w_al2 hC dL_law_728 ?_
  refine w_al0 hC dL_law_729 ?_
  refine w_il3 hC dL_law_730 ?_
  refine w_ic hC dL_law_731 rfl ?_
  refine w_iadd hC dL_law_732 (ri_mk (by omega) (by omega)) ?_
  refine v_sld hC hS dL_law_733 hL (i + 1) (by omega) (by omega) ?_
  refine w_al0 hC dL_law_734 ?_
  refine w_il3 hC dL_law_735 ?_
  refine w_ic hC dL_law_736 rfl ?_
  refine w_iadd hC dL_law_737 (ri_mk (by omega) (by omega)) ?_
  refine v_sld hC hS dL_law_738 hL (i + 2) (by omega) (by omega) ?_
  refine w_al0 hC dL_law_739 ?_
  refine w_il3 hC dL_law_740 ?_
  refine w_ic hC dL_law_741 rfl ?_
  refine w_iadd hC dL_law_742 (ri_mk (by omega) (by omega)) ?_
  refine v_sld hC hS dL_law_743 hL (i + 3) (by omega) (by omega) ?_
  refine w_vi3 hC vi_L_104 rfl dL_law_744 rfl hN (call_mono hM (fun r2 w2 hr => ?_))
  obtain ⟨rfl, hI2⟩ := hr
  refine v_ic_eq (tgt := 1099) hC dL_law_747 rfl (fun _ => ?_) (fun h => absurd rfl h)
  exact hk _ hI2

theorem lc_22 {κ : Kx} {L : Nat} {xs : Nat → Int32} (hC : ctxB κ RL cL_law (0 + 10 + 1)) (hN : mlx κ 4) (hS : scrK κ L xs) (hL : L ≤ 2560) {i : Nat} (hi : i + 5 ≤ L) {w : Wd} (hI : INV w) (hk : ∀ w2, INV w2 → VV κ 1099 (LSL i) [] w2) : VV κ 752 (LSL i) [] w := by
  refine w_al1 hC dL_law_752 ?_
  refine w_al0 hC dL_law_753 ?_
  refine w_il3 hC dL_law_754 ?_
  refine w_ic hC dL_law_755 rfl ?_
  refine w_iadd hC dL_law_756 (ri_mk (by omega) (by omega)) ?_
  refine v_sld hC hS dL_law_757 hL (i + 1) (by omega) (by omega) ?_
  refine w_al0 hC dL_law_758 ?_
  refine w_il3 hC dL_law_759 ?_
  refine w_ic hC dL_law_760 rfl ?_
  refine w_iadd hC dL_law_761 (ri_mk (by omega) (by omega)) ?_
  refine v_sld hC hS dL_law_762 hL (i + 2) (by omega) (by omega) ?_
  refine w_al0 hC dL_law_763 ?_
  refine w_il3 hC dL_law_764 ?_
  refine w_ic hC dL_law_765 rfl ?_
  refine w_iadd hC dL_law_766 (ri_mk (by omega) (by omega)) ?_
  refine v_sld hC hS dL_law_767 hL (i + 3) (by omega) (by omega) ?_
  refine w_al0 hC dL_law_768 ?_
  refine w_il3 hC dL_law_769 ?_
  refine w_ic hC dL_law_770 rfl ?_
  refine w_iadd hC dL_law_771 (ri_mk (by omega) (by omega)) ?_
  refine v_sld hC hS dL_law_772 hL (i + 4) (by omega) (by omega) ?_
  refine w_vi4 hC vi_L_105 rfl dL_law_773 rfl hN (p_mark (d := 0) hI _ _ _ _ (fun z w1 hM => ?_))
  refine w_al2 hC dL_law_776 ?_
  refine w_al0 hC dL_law_777 ?_
  refine w_il3 hC dL_law_778 ?_
  refine w_ic hC dL_law_779 rfl ?_
  refine w_iadd hC dL_law_780 (ri_mk (by omega) (by omega)) ?_
  refine v_sld hC hS dL_law_781 hL (i + 1) (by omega) (by omega) ?_
  refine w_al0 hC dL_law_782 ?_
  refine w_il3 hC dL_law_783 ?_
  refine w_ic hC dL_law_784 rfl ?_
  refine w_iadd hC dL_law_785 (ri_mk (by omega) (by omega)) ?_
  refine v_sld hC hS dL_law_786 hL (i + 2) (by omega) (by omega) ?_
  refine w_al0 hC dL_law_787 ?_
  refine w_il3 hC dL_law_788 ?_
  refine w_ic hC dL_law_789 rfl ?_
  refine w_iadd hC dL_law_790 (ri_mk (by omega) (by omega)) ?_
  refine v_sld hC hS dL_law_791 hL (i + 3) (by omega) (by omega) ?_
  refine w_al0 hC dL_law_792 ?_
  refine w_il3 hC dL_law_793 ?_
  refine w_ic hC dL_law_794 rfl ?_
  refine w_iadd hC dL_law_795 (ri_mk (by omega) (by omega)) ?_
  refine v_sld hC hS dL_law_796 hL (i + 4) (by omega) (by omega) ?_
  refine w_vi4 hC vi_L_109 rfl dL_law_797 rfl hN (call_mono hM (fun r2 w2 hr => ?_))
  obtain ⟨rfl, hI2⟩ := hr
  refine v_ic_eq (tgt := 1099) hC dL_law_800 rfl (fun _ => ?_) (fun h => absurd rfl h)
  exact hk _ hI2

theorem lc_23 {κ : Kx} {L : Nat} {xs : Nat → Int32} (hC : ctxB κ RL cL_law (0 + 10 + 1)) (hN : mlx κ 4) (hS : scrK κ L xs) (hL : L ≤ 2560) {i : Nat} (hi : i + 5 ≤ L) {w : Wd} (hI : INV w) (hk : ∀ w2, INV w2 → VV κ 1099 (LSL i) [] w2) : VV κ 805 (LSL i) [] w := by
  refine w_al1 hC dL_law_805 ?_
  refine w_al0 hC dL_law_806 ?_
  refine w_il3 hC dL_law_807 ?_
  refine w_ic hC dL_law_808 rfl ?_
  refine w_iadd hC dL_law_809 (ri_mk (by omega) (by omega)) ?_
  refine v_sld hC hS dL_law_810 hL (i + 1) (by omega) (by omega) ?_
  refine w_vi1 hC vi_L_110 rfl dL_law_811 rfl hN (p_forget (d := 0) hI _ (fun z w1 hM => ?_))
  refine w_al2 hC dL_law_814 ?_
  refine w_al0 hC dL_law_815 ?_
  refine w_il3 hC dL_law_816 ?_
  refine w_ic hC dL_law_817 rfl ?_
  refine w_iadd hC dL_law_818 (ri_mk (by omega) (by omega)) ?_
  refine v_sld hC hS dL_law_819 hL (i + 1) (by omega) (by omega) ?_
  refine w_vi1 hC vi_L_113 rfl dL_law_820 rfl hN (call_mono hM (fun r2 w2 hr => ?_))
  obtain ⟨rfl, hI2⟩ := hr
  refine v_ic_eq (tgt := 1099) hC dL_law_823 rfl (fun _ => ?_) (fun h => absurd rfl h)
  exact hk _ hI2

theorem lc_24 {κ : Kx} {L : Nat} {xs : Nat → Int32} (hC : ctxB κ RL cL_law (0 + 10 + 1)) (hN : mlx κ 4) (hS : scrK κ L xs) (hL : L ≤ 2560) {i : Nat} (hi : i + 5 ≤ L) {w : Wd} (hI : INV w) (hk : ∀ w2, INV w2 → VV κ 1099 (LSL i) [] w2) : VV κ 828 (LSL i) [] w := by
  refine w_al1 hC dL_law_828 ?_
  refine w_vi0 hC vi_L_114 rfl dL_law_829 rfl hN (p_is (d := 0) hI (fun z w1 hM => ?_))
  refine w_al2 hC dL_law_832 ?_
  refine w_vi0 hC vi_L_117 rfl dL_law_833 rfl hN (call_mono hM (fun r2 w2 hr => ?_))
  obtain ⟨rfl, hI2⟩ := hr
  refine v_ic_eq (tgt := 1099) hC dL_law_836 rfl (fun _ => ?_) (fun h => absurd rfl h)
  exact hk _ hI2

theorem lc_25 {κ : Kx} {L : Nat} {xs : Nat → Int32} (hC : ctxB κ RL cL_law (0 + 10 + 1)) (hN : mlx κ 4) (hS : scrK κ L xs) (hL : L ≤ 2560) {i : Nat} (hi : i + 5 ≤ L) {w : Wd} (hI : INV w) (hk : ∀ w2, INV w2 → VV κ 1099 (LSL i) [] w2) : VV κ 841 (LSL i) [] w := by
  refine w_al1 hC dL_law_841 ?_
  refine w_vi0 hC vi_L_118 rfl dL_law_842 rfl hN (p_look (d := 0) hI (fun z w1 hM => ?_))
  refine w_al2 hC dL_law_845 ?_
  refine w_vi0 hC vi_L_121 rfl dL_law_846 rfl hN (call_mono hM (fun r2 w2 hr => ?_))
  obtain ⟨rfl, hI2⟩ := hr
  refine v_ic_eq (tgt := 1099) hC dL_law_849 rfl (fun _ => ?_) (fun h => absurd rfl h)
  exact hk _ hI2

theorem lc_26 {κ : Kx} {L : Nat} {xs : Nat → Int32} (hC : ctxB κ RL cL_law (0 + 10 + 1)) (hN : mlx κ 4) (hS : scrK κ L xs) (hL : L ≤ 2560) {i : Nat} (hi : i + 5 ≤ L) {w : Wd} (hI : INV w) (hk : ∀ w2, INV w2 → VV κ 1099 (LSL i) [] w2) : VV κ 854 (LSL i) [] w := by
  refine w_al1 hC dL_law_854 ?_
  refine w_al0 hC dL_law_855 ?_
  refine w_il3 hC dL_law_856 ?_
  refine w_ic hC dL_law_857 rfl ?_
  refine w_iadd hC dL_law_858 (ri_mk (by omega) (by omega)) ?_
  refine v_sld hC hS dL_law_859 hL (i + 1) (by omega) (by omega) ?_
  refine w_vi1 hC vi_L_122 rfl dL_law_860 rfl hN (p_kinds (d := 0) hI _ (fun z w1 hM => ?_))
  refine w_al2 hC dL_law_863 ?_
  refine w_al0 hC dL_law_864 ?_
  refine w_il3 hC dL_law_865 ?_
  refine w_ic hC dL_law_866 rfl ?_
  refine w_iadd hC dL_law_867 (ri_mk (by omega) (by omega)) ?_
  refine v_sld hC hS dL_law_868 hL (i + 1) (by omega) (by omega) ?_
  refine w_vi1 hC vi_L_125 rfl dL_law_869 rfl hN (call_mono hM (fun r2 w2 hr => ?_))
  obtain ⟨rfl, hI2⟩ := hr
  refine v_ic_eq (tgt := 1099) hC dL_law_872 rfl (fun _ => ?_) (fun h => absurd rfl h)
  exact hk _ hI2

theorem lc_27 {κ : Kx} {L : Nat} {xs : Nat → Int32} (hC : ctxB κ RL cL_law (0 + 10 + 1)) (hN : mlx κ 4) (hS : scrK κ L xs) (hL : L ≤ 2560) {i : Nat} (hi : i + 5 ≤ L) {w : Wd} (hI : INV w) (hk : ∀ w2, INV w2 → VV κ 1099 (LSL i) [] w2) : VV κ 877 (LSL i) [] w := by
  refine w_al1 hC dL_law_877 ?_
  refine w_al0 hC dL_law_878 ?_
  refine w_il3 hC dL_law_879 ?_
  refine w_ic hC dL_law_880 rfl ?_
  refine w_iadd hC dL_law_881 (ri_mk (by omega) (by omega)) ?_
  refine v_sld hC hS dL_law_882 hL (i + 1) (by omega) (by omega) ?_
  refine w_vi1 hC vi_L_126 rfl dL_law_883 rfl hN (p_ask (d := 0) hI _ (fun z w1 hM => ?_))
  refine w_al2 hC dL_law_886 ?_
  refine w_al0 hC dL_law_887 ?_
  refine w_il3 hC dL_law_888 ?_
  refine w_ic hC dL_law_889 rfl ?_
  refine w_iadd hC dL_law_890 (ri_mk (by omega) (by omega)) ?_
  refine v_sld hC hS dL_law_891 hL (i + 1) (by omega) (by omega) ?_
  refine w_vi1 hC vi_L_129 rfl dL_law_892 rfl hN (call_mono hM (fun r2 w2 hr => ?_))
  obtain ⟨rfl, hI2⟩ := hr
  refine v_ic_eq (tgt := 1099) hC dL_law_895 rfl (fun _ => ?_) (fun h => absurd rfl h)
  exact hk _ hI2

theorem lc_28 {κ : Kx} {L : Nat} {xs : Nat → Int32} (hC : ctxB κ RL cL_law (0 + 10 + 1)) (hN : mlx κ 4) (hS : scrK κ L xs) (hL : L ≤ 2560) {i : Nat} (hi : i + 5 ≤ L) {w : Wd} (hI : INV w) (hk : ∀ w2, INV w2 → VV κ 1099 (LSL i) [] w2) : VV κ 900 (LSL i) [] w := by
  refine w_al1 hC dL_law_900 ?_
  refine w_al0 hC dL_law_901 ?_
  refine w_il3 hC dL_law_902 ?_
  refine w_ic hC dL_law_903 rfl ?_
  refine w_iadd hC dL_law_904 (ri_mk (by omega) (by omega)) ?_
  refine v_sld hC hS dL_law_905 hL (i + 1) (by omega) (by omega) ?_
  refine w_vi1 hC vi_L_130 rfl dL_law_906 rfl hN (p_poets (d := 0) hI _ (fun z w1 hM => ?_))
  refine w_al2 hC dL_law_909 ?_
  refine w_al0 hC dL_law_910 ?_
  refine w_il3 hC dL_law_911 ?_
  refine w_ic hC dL_law_912 rfl ?_
  refine w_iadd hC dL_law_913 (ri_mk (by omega) (by omega)) ?_
  refine v_sld hC hS dL_law_914 hL (i + 1) (by omega) (by omega) ?_
  refine w_vi1 hC vi_L_133 rfl dL_law_915 rfl hN (call_mono hM (fun r2 w2 hr => ?_))
  obtain ⟨rfl, hI2⟩ := hr
  refine v_ic_eq (tgt := 1099) hC dL_law_918 rfl (fun _ => ?_) (fun h => absurd rfl h)
  exact hk _ hI2

theorem lc_29 {κ : Kx} {L : Nat} {xs : Nat → Int32} (hC : ctxB κ RL cL_law (0 + 10 + 1)) (hN : mlx κ 4) (hS : scrK κ L xs) (hL : L ≤ 2560) {i : Nat} (hi : i + 5 ≤ L) {w : Wd} (hI : INV w) (hk : ∀ w2, INV w2 → VV κ 1099 (LSL i) [] w2) : VV κ 923 (LSL i) [] w := by
  refine w_al1 hC dL_law_923 ?_
  refine w_vi0 hC vi_L_134 rfl dL_law_924 rfl hN (p_luck (d := 0) hI (fun z w1 hM => ?_))
  refine w_al2 hC dL_law_927 ?_
  refine w_vi0 hC vi_L_137 rfl dL_law_928 rfl hN (call_mono hM (fun r2 w2 hr => ?_))
  obtain ⟨rfl, hI2⟩ := hr
  refine v_ic_eq (tgt := 1099) hC dL_law_931 rfl (fun _ => ?_) (fun h => absurd rfl h)
  exact hk _ hI2

theorem lc_30 {κ : Kx} {L : Nat} {xs : Nat → Int32} (hC : ctxB κ RL cL_law (0 + 10 + 1)) (hN : mlx κ 4) (hS : scrK κ L xs) (hL : L ≤ 2560) {i : Nat} (hi : i + 5 ≤ L) {w : Wd} (hI : INV w) (hk : ∀ w2, INV w2 → VV κ 1099 (LSL i) [] w2) : VV κ 936 (LSL i) [] w := by
  refine w_al1 hC dL_law_936 ?_
  refine w_al0 hC dL_law_937 ?_
  refine w_il3 hC dL_law_938 ?_
  refine w_ic hC dL_law_939 rfl ?_
  refine w_iadd hC dL_law_940 (ri_mk (by omega) (by omega)) ?_
  refine v_sld hC hS dL_law_941 hL (i + 1) (by omega) (by omega) ?_
  refine w_al0 hC dL_law_942 ?_
  refine w_il3 hC dL_law_943 ?_
  refine w_ic hC dL_law_944 rfl ?_
  refine w_iadd hC dL_law_945 (ri_mk (by omega) (by omega)) ?_
  refine v_sld hC hS dL_law_946 hL (i + 2) (by omega) (by omega) ?_
  refine w_vi2 hC vi_L_138 rfl dL_law_947 rfl hN (p_evenings (d := 0) hI _ _ (fun z w1 hM => ?_))
  refine w_al2 hC dL_law_950 ?_
  refine w_al0 hC dL_law_951 ?_
  refine w_il3 hC dL_law_952 ?_
  refine w_ic hC dL_law_953 rfl ?_
  refine w_iadd hC dL_law_954 (ri_mk (by omega) (by omega)) ?_
  refine v_sld hC hS dL_law_955 hL (i + 1) (by omega) (by omega) ?_
  refine w_al0 hC dL_law_956 ?_
  refine w_il3 hC dL_law_957 ?_
  refine w_ic hC dL_law_958 rfl ?_
  refine w_iadd hC dL_law_959 (ri_mk (by omega) (by omega)) ?_
  refine v_sld hC hS dL_law_960 hL (i + 2) (by omega) (by omega) ?_
  refine w_vi2 hC vi_L_141 rfl dL_law_961 rfl hN (call_mono hM (fun r2 w2 hr => ?_))
  obtain ⟨rfl, hI2⟩ := hr
  refine v_ic_eq (tgt := 1099) hC dL_law_964 rfl (fun _ => ?_) (fun h => absurd rfl h)
  exact hk _ hI2

theorem lc_31 {κ : Kx} {L : Nat} {xs : Nat → Int32} (hC : ctxB κ RL cL_law (0 + 10 + 1)) (hN : mlx κ 4) (hS : scrK κ L xs) (hL : L ≤ 2560) {i : Nat} (hi : i + 5 ≤ L) {w : Wd} (hI : INV w) (hk : ∀ w2, INV w2 → VV κ 1099 (LSL i) [] w2) : VV κ 969 (LSL i) [] w := by
  refine w_al1 hC dL_law_969 ?_
  refine w_al0 hC dL_law_970 ?_
  refine w_il3 hC dL_law_971 ?_
  refine w_ic hC dL_law_972 rfl ?_
  refine w_iadd hC dL_law_973 (ri_mk (by omega) (by omega)) ?_
  refine v_sld hC hS dL_law_974 hL (i + 1) (by omega) (by omega) ?_
  refine w_vi1 hC vi_L_142 rfl dL_law_975 rfl hN (p_part (d := 0) hI _ (fun z w1 hM => ?_))
  refine w_al2 hC dL_law_978 ?_
  refine w_al0 hC dL_law_979 ?_
  refine w_il3 hC dL_law_980 ?_
  refine w_ic hC dL_law_981 rfl ?_
  refine w_iadd hC dL_law_982 (ri_mk (by omega) (by omega)) ?_
  refine v_sld hC hS dL_law_983 hL (i + 1) (by omega) (by omega) ?_
  refine w_vi1 hC vi_L_146 rfl dL_law_984 rfl hN (call_mono hM (fun r2 w2 hr => ?_))
  obtain ⟨rfl, hI2⟩ := hr
  refine v_lcmp hC dL_law_987 ?_
  refine v_if_eq (tgt := 1099) hC dL_law_988 rfl (fun _ => ?_) (fun h => absurd (cc_eq.mpr rfl) h)
  exact hk _ hI2

theorem lc_32 {κ : Kx} {L : Nat} {xs : Nat → Int32} (hC : ctxB κ RL cL_law (0 + 10 + 1)) (hN : mlx κ 4) (hS : scrK κ L xs) (hL : L ≤ 2560) {i : Nat} (hi : i + 5 ≤ L) {w : Wd} (hI : INV w) (hk : ∀ w2, INV w2 → VV κ 1099 (LSL i) [] w2) : VV κ 993 (LSL i) [] w := by
  refine w_al1 hC dL_law_993 ?_
  refine w_al0 hC dL_law_994 ?_
  refine w_il3 hC dL_law_995 ?_
  refine w_ic hC dL_law_996 rfl ?_
  refine w_iadd hC dL_law_997 (ri_mk (by omega) (by omega)) ?_
  refine v_sld hC hS dL_law_998 hL (i + 1) (by omega) (by omega) ?_
  refine w_vi1 hC vi_L_147 rfl dL_law_999 rfl hN (p_image (d := 0) hI _ (fun z w1 hM => ?_))
  refine w_al2 hC dL_law_1002 ?_
  refine w_al0 hC dL_law_1003 ?_
  refine w_il3 hC dL_law_1004 ?_
  refine w_ic hC dL_law_1005 rfl ?_
  refine w_iadd hC dL_law_1006 (ri_mk (by omega) (by omega)) ?_
  refine v_sld hC hS dL_law_1007 hL (i + 1) (by omega) (by omega) ?_
  refine w_vi1 hC vi_L_150 rfl dL_law_1008 rfl hN (call_mono hM (fun r2 w2 hr => ?_))
  obtain ⟨rfl, hI2⟩ := hr
  refine v_ic_eq (tgt := 1099) hC dL_law_1011 rfl (fun _ => ?_) (fun h => absurd rfl h)
  exact hk _ hI2

theorem lc_33 {κ : Kx} {L : Nat} {xs : Nat → Int32} (hC : ctxB κ RL cL_law (0 + 10 + 1)) (hN : mlx κ 4) (hS : scrK κ L xs) (hL : L ≤ 2560) {i : Nat} (hi : i + 5 ≤ L) {w : Wd} (hI : INV w) (hk : ∀ w2, INV w2 → VV κ 1099 (LSL i) [] w2) : VV κ 1016 (LSL i) [] w := by
  refine w_al1 hC dL_law_1016 ?_
  refine w_al0 hC dL_law_1017 ?_
  refine w_il3 hC dL_law_1018 ?_
  refine w_ic hC dL_law_1019 rfl ?_
  refine w_iadd hC dL_law_1020 (ri_mk (by omega) (by omega)) ?_
  refine v_sld hC hS dL_law_1021 hL (i + 1) (by omega) (by omega) ?_
  refine w_vi1 hC vi_L_151 rfl dL_law_1022 rfl hN (p_from (d := 0) hI _ (fun z w1 hM => ?_))
  refine w_al2 hC dL_law_1025 ?_
  refine w_al0 hC dL_law_1026 ?_
  refine w_il3 hC dL_law_1027 ?_
  refine w_ic hC dL_law_1028 rfl ?_
  refine w_iadd hC dL_law_1029 (ri_mk (by omega) (by omega)) ?_
  refine v_sld hC hS dL_law_1030 hL (i + 1) (by omega) (by omega) ?_
  refine w_vi1 hC vi_L_154 rfl dL_law_1031 rfl hN (call_mono hM (fun r2 w2 hr => ?_))
  obtain ⟨rfl, hI2⟩ := hr
  refine v_ic_eq (tgt := 1099) hC dL_law_1034 rfl (fun _ => ?_) (fun h => absurd rfl h)
  exact hk _ hI2

theorem lc_34 {κ : Kx} {L : Nat} {xs : Nat → Int32} (hC : ctxB κ RL cL_law (0 + 10 + 1)) (hN : mlx κ 4) (hS : scrK κ L xs) (hL : L ≤ 2560) {i : Nat} (hi : i + 5 ≤ L) {w : Wd} (hI : INV w) (hk : ∀ w2, INV w2 → VV κ 1099 (LSL i) [] w2) : VV κ 1039 (LSL i) [] w := by
  refine w_al1 hC dL_law_1039 ?_
  refine w_al0 hC dL_law_1040 ?_
  refine w_il3 hC dL_law_1041 ?_
  refine w_ic hC dL_law_1042 rfl ?_
  refine w_iadd hC dL_law_1043 (ri_mk (by omega) (by omega)) ?_
  refine v_sld hC hS dL_law_1044 hL (i + 1) (by omega) (by omega) ?_
  refine w_vi1 hC vi_L_155 rfl dL_law_1045 rfl hN (p_status (d := 0) hI _ (fun z w1 hM => ?_))
  refine w_al2 hC dL_law_1048 ?_
  refine w_al0 hC dL_law_1049 ?_
  refine w_il3 hC dL_law_1050 ?_
  refine w_ic hC dL_law_1051 rfl ?_
  refine w_iadd hC dL_law_1052 (ri_mk (by omega) (by omega)) ?_
  refine v_sld hC hS dL_law_1053 hL (i + 1) (by omega) (by omega) ?_
  refine w_vi1 hC vi_L_158 rfl dL_law_1054 rfl hN (call_mono hM (fun r2 w2 hr => ?_))
  obtain ⟨rfl, hI2⟩ := hr
  refine v_ic_eq (tgt := 1099) hC dL_law_1057 rfl (fun _ => ?_) (fun h => absurd rfl h)
  exact hk _ hI2

theorem lc_35 {κ : Kx} {L : Nat} {xs : Nat → Int32} (hC : ctxB κ RL cL_law (0 + 10 + 1)) (hN : mlx κ 4) (hS : scrK κ L xs) (hL : L ≤ 2560) {i : Nat} (hi : i + 5 ≤ L) {w : Wd} (hI : INV w) (hk : ∀ w2, INV w2 → VV κ 1099 (LSL i) [] w2) : VV κ 1062 (LSL i) [] w := by
  refine w_al1 hC dL_law_1062 ?_
  refine w_al0 hC dL_law_1063 ?_
  refine w_il3 hC dL_law_1064 ?_
  refine w_ic hC dL_law_1065 rfl ?_
  refine w_iadd hC dL_law_1066 (ri_mk (by omega) (by omega)) ?_
  refine v_sld hC hS dL_law_1067 hL (i + 1) (by omega) (by omega) ?_
  refine w_vi1 hC vi_L_159 rfl dL_law_1068 rfl hN (p_count (d := 0) hI _ (fun z w1 hM => ?_))
  refine w_al2 hC dL_law_1071 ?_
  refine w_al0 hC dL_law_1072 ?_
  refine w_il3 hC dL_law_1073 ?_
  refine w_ic hC dL_law_1074 rfl ?_
  refine w_iadd hC dL_law_1075 (ri_mk (by omega) (by omega)) ?_
  refine v_sld hC hS dL_law_1076 hL (i + 1) (by omega) (by omega) ?_
  refine w_vi1 hC vi_L_162 rfl dL_law_1077 rfl hN (call_mono hM (fun r2 w2 hr => ?_))
  obtain ⟨rfl, hI2⟩ := hr
  refine v_ic_eq (tgt := 1099) hC dL_law_1080 rfl (fun _ => ?_) (fun h => absurd rfl h)
  exact hk _ hI2

theorem lc_36 {κ : Kx} {L : Nat} {xs : Nat → Int32} (hC : ctxB κ RL cL_law (0 + 10 + 1)) (hN : mlx κ 4) (hS : scrK κ L xs) (hL : L ≤ 2560) {i : Nat} (hi : i + 5 ≤ L) {w : Wd} (hI : INV w) (hk : ∀ w2, INV w2 → VV κ 1099 (LSL i) [] w2) : VV κ 1085 (LSL i) [] w := by
  refine w_al1 hC dL_law_1085 ?_
  refine w_vi0 hC vi_L_163 rfl dL_law_1086 rfl hN (p_digest (d := 0) hI (fun z w1 hM => ?_))
  refine w_al2 hC dL_law_1089 ?_
  refine w_vi0 hC vi_L_167 rfl dL_law_1090 rfl hN (call_mono hM (fun r2 w2 hr => ?_))
  obtain ⟨rfl, hI2⟩ := hr
  refine v_lcmp hC dL_law_1093 ?_
  refine v_if_eq (tgt := 1099) hC dL_law_1094 rfl (fun _ => ?_) (fun h => absurd (cc_eq.mpr rfl) h)
  exact hk _ hI2

theorem law_lp {κ : Kx} {L : Nat} {xs : Nat → Int32} (hC : ctxB κ RL cL_law (0 + 10 + 1)) (hN : mlx κ 4) (hS : scrK κ L xs) (hL : L ≤ 2560) (hE : ∀ (ls : List (Option MV)) (w : Wd), VV κ 1106 ls [vI 1] w) : ∀ (K i : Nat) (w : Wd), L + 5 - i < K → i ≤ L + 5 → INV w → VV κ 18 (LSL i) [] w := by
  intro K
  induction K with
  | zero => intros; omega
  | succ K ih =>
    intro i w hK hi hI
    refine w_il3 hC dL_law_18 ?_
    refine w_al0 hC dL_law_19 ?_
    refine v_scl hC hS hL dL_law_20 ?_
    refine w_ic hC dL_law_21 rfl ?_
    refine w_isub hC dL_law_22 (ri_mk (by omega) (by omega)) ?_
    refine v_ic_gt (tgt := 1105) hC dL_law_23 rfl (fun h1 => ?_) (fun h1 => ?_)
    · refine w_ic hC dL_law_1105 rfl ?_
      exact hE _ _
    · have hi5 : i + 5 ≤ L := by omega
      have hk : ∀ w2, INV w2 → VV κ 1099 (LSL i) [] w2 := by
        intro w2 hI2
        refine w_inc3 hC dL_law_1099 hN rfl (ri_mk (by omega) (by omega)) ?_
        refine v_goto (tgt := 18) hC dL_law_1102 rfl ?_
        exact ih (i + 5) w2 (by omega) (by omega) hI2
      refine w_al0 hC dL_law_26 ?_
      refine w_il3 hC dL_law_27 ?_
      refine v_sld hC hS dL_law_28 hL i rfl (by omega) ?_
      refine v_bipush hC dL_law_29 (by decide) ?_
      refine v_iand hC dL_law_31 ?_
      have he := bAnd_63 (xs i).toInt
      generalize bAnd (xs i).toInt 63 = ev at he ⊢
      by_cases hs0 : ev = 0
      · refine v_tsAt hC 0 (tgt := 196) hs0 dL_law_32 rfl rfl rfl ?_
        exact lc_0 hC hN hS hL hi5 hI hk
      by_cases hs1 : ev = 1
      · refine v_tsAt hC 1 (tgt := 239) hs1 dL_law_32 rfl rfl rfl ?_
        exact lc_1 hC hN hS hL hi5 hI hk
      by_cases hs2 : ev = 2
      · refine v_tsAt hC 2 (tgt := 262) hs2 dL_law_32 rfl rfl rfl ?_
        exact lc_2 hC hN hS hL hi5 hI hk
      by_cases hs3 : ev = 3
      · refine v_tsAt hC 3 (tgt := 305) hs3 dL_law_32 rfl rfl rfl ?_
        exact lc_3 hC hN hS hL hi5 hI hk
      by_cases hs4 : ev = 4
      · refine v_tsAt hC 4 (tgt := 328) hs4 dL_law_32 rfl rfl rfl ?_
        exact lc_4 hC hN hS hL hi5 hI hk
      by_cases hs5 : ev = 5
      · refine v_tsAt hC 5 (tgt := 341) hs5 dL_law_32 rfl rfl rfl ?_
        exact lc_5 hC hN hS hL hi5 hI hk
      by_cases hs6 : ev = 6
      · refine v_tsAt hC 6 (tgt := 354) hs6 dL_law_32 rfl rfl rfl ?_
        exact lc_6 hC hN hS hL hi5 hI hk
      by_cases hs7 : ev = 7
      · refine v_tsAt hC 7 (tgt := 387) hs7 dL_law_32 rfl rfl rfl ?_
        exact lc_7 hC hN hS hL hi5 hI hk
      by_cases hs8 : ev = 8
      · refine v_tsAt hC 8 (tgt := 410) hs8 dL_law_32 rfl rfl rfl ?_
        exact lc_8 hC hN hS hL hi5 hI hk
      by_cases hs9 : ev = 9
      · refine v_tsAt hC 9 (tgt := 443) hs9 dL_law_32 rfl rfl rfl ?_
        exact lc_9 hC hN hS hL hi5 hI hk
      by_cases hs10 : ev = 10
      · refine v_tsAt hC 10 (tgt := 456) hs10 dL_law_32 rfl rfl rfl ?_
        exact lc_10 hC hN hS hL hi5 hI hk
      by_cases hs11 : ev = 11
      · refine v_tsAt hC 11 (tgt := 489) hs11 dL_law_32 rfl rfl rfl ?_
        exact lc_11 hC hN hS hL hi5 hI hk
      by_cases hs12 : ev = 12
      · refine v_tsAt hC 12 (tgt := 522) hs12 dL_law_32 rfl rfl rfl ?_
        exact lc_12 hC hN hS hL hi5 hI hk
      by_cases hs13 : ev = 13
      · refine v_tsAt hC 13 (tgt := 555) hs13 dL_law_32 rfl rfl rfl ?_
        exact lc_13 hC hN hS hL hi5 hI hk
      by_cases hs14 : ev = 14
      · refine v_tsAt hC 14 (tgt := 568) hs14 dL_law_32 rfl rfl rfl ?_
        exact lc_14 hC hN hS hL hi5 hI hk
      by_cases hs15 : ev = 15
      · refine v_tsAt hC 15 (tgt := 591) hs15 dL_law_32 rfl rfl rfl ?_
        exact lc_15 hC hN hS hL hi5 hI hk
      by_cases hs16 : ev = 16
      · refine v_tsAt hC 16 (tgt := 614) hs16 dL_law_32 rfl rfl rfl ?_
        exact lc_16 hC hN hS hL hi5 hI hk
      by_cases hs17 : ev = 17
      · refine v_tsAt hC 17 (tgt := 627) hs17 dL_law_32 rfl rfl rfl ?_
        exact lc_17 hC hN hS hL hi5 hI hk
      by_cases hs18 : ev = 18
      · refine v_tsAt hC 18 (tgt := 650) hs18 dL_law_32 rfl rfl rfl ?_
        exact lc_18 hC hN hS hL hi5 hI hk
      by_cases hs19 : ev = 19
      · refine v_tsAt hC 19 (tgt := 663) hs19 dL_law_32 rfl rfl rfl ?_
        exact lc_19 hC hN hS hL hi5 hI hk
      by_cases hs20 : ev = 20
      · refine v_tsAt hC 20 (tgt := 676) hs20 dL_law_32 rfl rfl rfl ?_
        exact lc_20 hC hN hS hL hi5 hI hk
      by_cases hs21 : ev = 21
      · refine v_tsAt hC 21 (tgt := 709) hs21 dL_law_32 rfl rfl rfl ?_
        exact lc_21 hC hN hS hL hi5 hI hk
      by_cases hs22 : ev = 22
      · refine v_tsAt hC 22 (tgt := 752) hs22 dL_law_32 rfl rfl rfl ?_
        exact lc_22 hC hN hS hL hi5 hI hk
      by_cases hs23 : ev = 23
      · refine v_tsAt hC 23 (tgt := 805) hs23 dL_law_32 rfl rfl rfl ?_
        exact lc_23 hC hN hS hL hi5 hI hk
      by_cases hs24 : ev = 24
      · refine v_tsAt hC 24 (tgt := 828) hs24 dL_law_32 rfl rfl rfl ?_
        exact lc_24 hC hN hS hL hi5 hI hk
      by_cases hs25 : ev = 25
      · refine v_tsAt hC 25 (tgt := 841) hs25 dL_law_32 rfl rfl rfl ?_
        exact lc_25 hC hN hS hL hi5 hI hk
      by_cases hs26 : ev = 26
      · refine v_tsAt hC 26 (tgt := 854) hs26 dL_law_32 rfl rfl rfl ?_
        exact lc_26 hC hN hS hL hi5 hI hk
      by_cases hs27 : ev = 27
      · refine v_tsAt hC 27 (tgt := 877) hs27 dL_law_32 rfl rfl rfl ?_
        exact lc_27 hC hN hS hL hi5 hI hk
      by_cases hs28 : ev = 28
      · refine v_tsAt hC 28 (tgt := 900) hs28 dL_law_32 rfl rfl rfl ?_
        exact lc_28 hC hN hS hL hi5 hI hk
      by_cases hs29 : ev = 29
      · refine v_tsAt hC 29 (tgt := 923) hs29 dL_law_32 rfl rfl rfl ?_
        exact lc_29 hC hN hS hL hi5 hI hk
      by_cases hs30 : ev = 30
      · refine v_tsAt hC 30 (tgt := 936) hs30 dL_law_32 rfl rfl rfl ?_
        exact lc_30 hC hN hS hL hi5 hI hk
      by_cases hs31 : ev = 31
      · refine v_tsAt hC 31 (tgt := 969) hs31 dL_law_32 rfl rfl rfl ?_
        exact lc_31 hC hN hS hL hi5 hI hk
      by_cases hs32 : ev = 32
      · refine v_tsAt hC 32 (tgt := 993) hs32 dL_law_32 rfl rfl rfl ?_
        exact lc_32 hC hN hS hL hi5 hI hk
      by_cases hs33 : ev = 33
      · refine v_tsAt hC 33 (tgt := 1016) hs33 dL_law_32 rfl rfl rfl ?_
        exact lc_33 hC hN hS hL hi5 hI hk
      by_cases hs34 : ev = 34
      · refine v_tsAt hC 34 (tgt := 1039) hs34 dL_law_32 rfl rfl rfl ?_
        exact lc_34 hC hN hS hL hi5 hI hk
      by_cases hs35 : ev = 35
      · refine v_tsAt hC 35 (tgt := 1062) hs35 dL_law_32 rfl rfl rfl ?_
        exact lc_35 hC hN hS hL hi5 hI hk
      by_cases hs36 : ev = 36
      · refine v_tsAt hC 36 (tgt := 1085) hs36 dL_law_32 rfl rfl rfl ?_
        exact lc_36 hC hN hS hL hi5 hI hk
      refine v_tsOut (tgt := 1099) hC dL_law_32 (by omega) rfl ?_
      exact hk _ hI
