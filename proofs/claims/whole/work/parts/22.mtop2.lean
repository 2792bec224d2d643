theorem d_of {d : Nat} {w : Wd} {Q : Option MV → Wd → Prop} (hA : AOK (w 40)) {n x : Int} (hb0 : ¬ ((0 ≤ n ∧ n < w 40 3) ∧ 0 ≤ x ∧ x ≤ 3) → Q (some (.inl (-2))) (cI w 44 0)) (hk : (0 ≤ n ∧ n < w 40 3) ∧ 0 ≤ x ∧ x ≤ 3 → Q (some (.inl (ofV (w 40) n x))) w) : Call (d + 2) mX4_of [vR 39, vI n, vI x] w Q := by
  have am := hA.m
  have an := hA.n
  have af := hA.f
  have anc := hA.nc
  have amc := hA.mc
  have auc := hA.uc
  refine call_in (ls := [some (vR 39), some (vI n), some (vI x)]) (by decide +kernel) rfl (Nat.le_of_ble_eq_true rfl) (fun κ hC hR hN => ?_)
  have hC : ctxB κ RX4 cX4_of (d + 2) := hC
  have hN : mlx κ 3 := hN
  refine w_al0 hC dX4_of_0 ?_
  refine w_il1 hC dX4_of_1 ?_
  refine w_vi1 hC vi_X4_178 rfl dX4_of_2 rfl hN (d_isWord hA (fun g1 => ?_) (fun g1 => ?_))
  · refine v_if_eq (tgt := 17) hC dX4_of_5 rfl (fun h => absurd h (by decide)) (fun _ => ?_)
    refine w_il2 hC dX4_of_8 ?_
    refine w_ic hC dX4_of_9 rfl ?_
    refine w_ic hC dX4_of_10 rfl ?_
    refine w_st3 hC st_X4_53 dX4_of_11 rfl hN (d_in (fun g2 => ?_) (fun g2 => ?_))
    · refine v_if_ne (tgt := 22) hC dX4_of_14 rfl (fun _ => ?_) (fun h => absurd h (by decide))
      refine w_il2 hC dX4_of_22 ?_
      refine w_ic hC dX4_of_23 rfl ?_
      refine v_ic_ne (tgt := 38) hC dX4_of_24 rfl (fun h24 => ?_) (fun h24 => ?_)
      · refine w_al0 hC dX4_of_38 ?_
        refine v_getR (off := 1) (j := 40) hC dX4_of_39 fd_X4_7 rfl rfl rfl ?_
        refine w_ic hC dX4_of_42 rfl ?_
        refine v_bipush hC dX4_of_43 (by decide) ?_
        refine w_il2 hC dX4_of_45 ?_
        refine w_imul hC dX4_of_46 (ri_mk (by omega) (by omega)) ?_
        refine w_iadd hC dX4_of_47 (ri_mk (by omega) (by omega)) ?_
        refine w_il1 hC dX4_of_48 ?_
        refine w_iadd hC dX4_of_49 (ri_mk (by omega) (by omega)) ?_
        refine w_ialdk hC 127 (4 + 8 * x.toNat + n.toNat) dX4_of_50 rfl rfl (by omega) (by omega) ?_
        refine v_iret hC hR dX4_of_51 ?_
        first | exact qz (if_pos (by omega)) (hk ⟨g1, g2⟩) | exact qz (if_neg (by omega)) (hk ⟨g1, g2⟩)
      · refine w_al0 hC dX4_of_27 ?_
        refine v_getR (off := 1) (j := 40) hC dX4_of_28 fd_X4_7 rfl rfl rfl ?_
        refine w_il1 hC dX4_of_31 ?_
        refine w_st2 hC st_X4_114 dX4_of_32 rfl hN (d_lineOf rfl rfl am ?_)
        rw [lnL_eq hA g1.1]
        refine v_goto (tgt := 51) hC dX4_of_35 rfl ?_
        refine v_iret hC hR dX4_of_51 ?_
        first | exact qz (if_pos (by omega)) (hk ⟨g1, g2⟩) | exact qz (if_neg (by omega)) (hk ⟨g1, g2⟩)
    · refine v_if_ne (tgt := 22) hC dX4_of_14 rfl (fun h => absurd h (by decide)) (fun _ => ?_)
      refine w_al0 hC dX4_of_17 ?_
      refine w_vi0 hC vi_X4_60 rfl dX4_of_18 rfl hN (d_bad ?_)
      refine v_iret hC hR dX4_of_21 ?_
      exact hb0 (by omega)
  · refine v_if_eq (tgt := 17) hC dX4_of_5 rfl (fun _ => ?_) (fun h => absurd h (by decide))
    refine w_al0 hC dX4_of_17 ?_
    refine w_vi0 hC vi_X4_60 rfl dX4_of_18 rfl hN (d_bad ?_)
    refine v_iret hC hR dX4_of_21 ?_
    exact hb0 (by omega)

theorem ab_3 {a : Nat → Int} {j x : Int} (h : x = 3) (h2 : isRb a j = true) : abV a j x = 1 := by
  unfold abV
  rw [if_neg (by omega), if_neg (by omega), if_neg (by omega), if_pos h, if_pos h2]
theorem ab_4 {a : Nat → Int} {j x : Int} (h : x = 3) (h2 : ¬ isRb a j = true) : abV a j x = 0 := by
  unfold abV
  rw [if_neg (by omega), if_neg (by omega), if_neg (by omega), if_pos h, if_neg h2]

theorem d_about {d : Nat} {w : Wd} {Q : Option MV → Wd → Prop} (hA : AOK (w 40)) {j x : Int} (hb0 : ¬ ((0 ≤ j ∧ j < w 40 1) ∧ 0 ≤ x ∧ x ≤ 4) → Q (some (.inl (-2))) (cI w 44 0)) (hk : (0 ≤ j ∧ j < w 40 1) ∧ 0 ≤ x ∧ x ≤ 4 → Q (some (.inl (abV (w 40) j x))) w) : Call (d + 5) mX4_about [vR 39, vI j, vI x] w Q := by
  have am := hA.m
  have an := hA.n
  have af := hA.f
  have anc := hA.nc
  have amc := hA.mc
  have auc := hA.uc
  refine call_in (ls := [some (vR 39), some (vI j), some (vI x), none]) (by decide +kernel) rfl (Nat.le_of_ble_eq_true rfl) (fun κ hC hR hN => ?_)
  have hC : ctxB κ RX4 cX4_about (d + 5) := hC
  have hN : mlx κ 4 := hN
  refine w_al0 hC dX4_about_0 ?_
  refine w_il1 hC dX4_about_1 ?_
  refine w_vi1 hC vi_X4_174 rfl dX4_about_2 rfl hN (d_isLine hA (fun g1 => ?_) (fun g1 => ?_))
  · refine v_if_eq (tgt := 17) hC dX4_about_5 rfl (fun h => absurd h (by decide)) (fun _ => ?_)
    refine w_il2 hC dX4_about_8 ?_
    refine w_ic hC dX4_about_9 rfl ?_
    refine w_ic hC dX4_about_10 rfl ?_
    refine w_st3 hC st_X4_53 dX4_about_11 rfl hN (d_in (fun g2 => ?_) (fun g2 => ?_))
    · refine v_if_ne (tgt := 22) hC dX4_about_14 rfl (fun _ => ?_) (fun h => absurd h (by decide))
      refine w_al0 hC dX4_about_22 ?_
      refine v_getR (off := 1) (j := 40) hC dX4_about_23 fd_X4_7 rfl rfl rfl ?_
      refine v_bipush hC dX4_about_26 (by decide) ?_
      refine w_il1 hC dX4_about_28 ?_
      refine w_iadd hC dX4_about_29 (ri_mk (by omega) (by omega)) ?_
      refine w_ialdk hC 127 (28 + j.toNat) dX4_about_30 rfl rfl (by omega) (by omega) ?_
      rw [show w 40 (28 + j.toNat) = wOn (w 40) j from (if_pos g1).symm]
      have hw := wOn_r hA j
      have hk2 := hk ⟨g1, g2⟩
      have wj : w 40 (28 + j.toNat) = wOn (w 40) j := (if_pos g1).symm
      have ir : isG (w 40) (fun q => w 40 (28 + q)) j.toNat ↔ isRb (w 40) j = true := by
        rw [isRb_iff]
        unfold isG isR
        dsimp only
        rw [wj, show ((j.toNat : Nat) : Int) = j by omega]
      refine w_is3 hC dX4_about_31 hN (by first | rfl | assumption) ?_
      refine w_il2 hC dX4_about_32 ?_
      by_cases hs0 : x = 0
      · refine v_tsAt hC 0 (tgt := 64) hs0 dX4_about_33 rfl rfl rfl ?_
        refine w_il3 hC dX4_about_64 ?_
        refine v_iret hC hR dX4_about_65 ?_
        first
          | exact hb0 (by omega)
          | exact qz (by unfold abV; rw [if_pos (by omega)]) hk2
          | exact qz (by unfold abV; rw [if_neg (by omega), if_pos (by omega), if_pos (by omega)]) hk2
          | exact qz (by unfold abV; rw [if_neg (by omega), if_pos (by omega), if_neg (by omega)]) hk2
          | exact qz (by unfold abV; rw [if_neg (by omega), if_neg (by omega), if_pos (by omega)]; unfold csL; rw [if_pos (by omega)]) hk2
          | exact qz (by unfold abV; rw [if_neg (by omega), if_neg (by omega), if_pos (by omega)]; unfold csL; rw [if_neg (by omega)]) hk2
          | exact qz (ab_3 (by omega) (ir.mp g3)) hk2
          | exact qz (ab_4 (by omega) (fun z => g3 (ir.mpr z))) hk2
          | exact qz (by unfold abV; rw [if_neg (by omega), if_neg (by omega), if_neg (by omega), if_neg (by omega)]) hk2
      by_cases hs1 : x = 1
      · refine v_tsAt hC 1 (tgt := 66) hs1 dX4_about_33 rfl rfl rfl ?_
        refine w_il3 hC dX4_about_66 ?_
        refine w_ic hC dX4_about_67 rfl ?_
        refine v_ic_ne (tgt := 75) hC dX4_about_68 rfl (fun h68 => ?_) (fun h68 => ?_)
        · refine w_al0 hC dX4_about_75 ?_
          refine w_al0 hC dX4_about_76 ?_
          refine v_getR (off := 1) (j := 40) hC dX4_about_77 fd_X4_7 rfl rfl rfl ?_
          refine w_ic hC dX4_about_80 rfl ?_
          refine w_ialdk hC 127 (0) dX4_about_81 rfl rfl (by omega) (by omega) ?_
          refine w_il3 hC dX4_about_82 ?_
          refine w_il1 hC dX4_about_83 ?_
          refine w_vi3 hC vi_X4_162 rfl dX4_about_84 rfl hN (d_counting hA ⟨by omega, by omega⟩ ⟨by omega, by omega⟩ ?_)
          refine v_iret hC hR dX4_about_87 ?_
          first
            | exact hb0 (by omega)
            | exact qz (by unfold abV; rw [if_pos (by omega)]) hk2
            | exact qz (by unfold abV; rw [if_neg (by omega), if_pos (by omega), if_pos (by omega)]) hk2
            | exact qz (by unfold abV; rw [if_neg (by omega), if_pos (by omega), if_neg (by omega)]) hk2
            | exact qz (by unfold abV; rw [if_neg (by omega), if_neg (by omega), if_pos (by omega)]; unfold csL; rw [if_pos (by omega)]) hk2
            | exact qz (by unfold abV; rw [if_neg (by omega), if_neg (by omega), if_pos (by omega)]; unfold csL; rw [if_neg (by omega)]) hk2
            | exact qz (ab_3 (by omega) (ir.mp g3)) hk2
            | exact qz (ab_4 (by omega) (fun z => g3 (ir.mpr z))) hk2
            | exact qz (by unfold abV; rw [if_neg (by omega), if_neg (by omega), if_neg (by omega), if_neg (by omega)]) hk2
        · refine w_ic hC dX4_about_71 rfl ?_
          refine v_goto (tgt := 87) hC dX4_about_72 rfl ?_
          refine v_iret hC hR dX4_about_87 ?_
          first
            | exact hb0 (by omega)
            | exact qz (by unfold abV; rw [if_pos (by omega)]) hk2
            | exact qz (by unfold abV; rw [if_neg (by omega), if_pos (by omega), if_pos (by omega)]) hk2
            | exact qz (by unfold abV; rw [if_neg (by omega), if_pos (by omega), if_neg (by omega)]) hk2
            | exact qz (by unfold abV; rw [if_neg (by omega), if_neg (by omega), if_pos (by omega)]; unfold csL; rw [if_pos (by omega)]) hk2
            | exact qz (by unfold abV; rw [if_neg (by omega), if_neg (by omega), if_pos (by omega)]; unfold csL; rw [if_neg (by omega)]) hk2
            | exact qz (ab_3 (by omega) (ir.mp g3)) hk2
            | exact qz (ab_4 (by omega) (fun z => g3 (ir.mpr z))) hk2
            | exact qz (by unfold abV; rw [if_neg (by omega), if_neg (by omega), if_neg (by omega), if_neg (by omega)]) hk2
      by_cases hs2 : x = 2
      · refine v_tsAt hC 2 (tgt := 88) hs2 dX4_about_33 rfl rfl rfl ?_
        refine w_il3 hC dX4_about_88 ?_
        refine w_ic hC dX4_about_89 rfl ?_
        refine v_ic_ne (tgt := 97) hC dX4_about_90 rfl (fun h90 => ?_) (fun h90 => ?_)
        · refine w_al0 hC dX4_about_97 ?_
          refine w_il3 hC dX4_about_98 ?_
          refine w_il1 hC dX4_about_99 ?_
          refine w_vi2 hC vi_X4_187 rfl dX4_about_100 rfl hN (d_cost hA ⟨by omega, by omega⟩ ⟨by omega, by omega⟩ ?_)
          refine v_iret hC hR dX4_about_103 ?_
          first
            | exact hb0 (by omega)
            | exact qz (by unfold abV; rw [if_pos (by omega)]) hk2
            | exact qz (by unfold abV; rw [if_neg (by omega), if_pos (by omega), if_pos (by omega)]) hk2
            | exact qz (by unfold abV; rw [if_neg (by omega), if_pos (by omega), if_neg (by omega)]) hk2
            | exact qz (by unfold abV; rw [if_neg (by omega), if_neg (by omega), if_pos (by omega)]; unfold csL; rw [if_pos (by omega)]) hk2
            | exact qz (by unfold abV; rw [if_neg (by omega), if_neg (by omega), if_pos (by omega)]; unfold csL; rw [if_neg (by omega)]) hk2
            | exact qz (ab_3 (by omega) (ir.mp g3)) hk2
            | exact qz (ab_4 (by omega) (fun z => g3 (ir.mpr z))) hk2
            | exact qz (by unfold abV; rw [if_neg (by omega), if_neg (by omega), if_neg (by omega), if_neg (by omega)]) hk2
        · refine w_ic hC dX4_about_93 rfl ?_
          refine v_goto (tgt := 103) hC dX4_about_94 rfl ?_
          refine v_iret hC hR dX4_about_103 ?_
          first
            | exact hb0 (by omega)
            | exact qz (by unfold abV; rw [if_pos (by omega)]) hk2
            | exact qz (by unfold abV; rw [if_neg (by omega), if_pos (by omega), if_pos (by omega)]) hk2
            | exact qz (by unfold abV; rw [if_neg (by omega), if_pos (by omega), if_neg (by omega)]) hk2
            | exact qz (by unfold abV; rw [if_neg (by omega), if_neg (by omega), if_pos (by omega)]; unfold csL; rw [if_pos (by omega)]) hk2
            | exact qz (by unfold abV; rw [if_neg (by omega), if_neg (by omega), if_pos (by omega)]; unfold csL; rw [if_neg (by omega)]) hk2
            | exact qz (ab_3 (by omega) (ir.mp g3)) hk2
            | exact qz (ab_4 (by omega) (fun z => g3 (ir.mpr z))) hk2
            | exact qz (by unfold abV; rw [if_neg (by omega), if_neg (by omega), if_neg (by omega), if_neg (by omega)]) hk2
      by_cases hs3 : x = 3
      · refine v_tsAt hC 3 (tgt := 104) hs3 dX4_about_33 rfl rfl rfl ?_
        refine w_al0 hC dX4_about_104 ?_
        refine w_al0 hC dX4_about_105 ?_
        refine v_getR (off := 1) (j := 40) hC dX4_about_106 fd_X4_7 rfl rfl rfl ?_
        refine v_bipush hC dX4_about_109 (by decide) ?_
        refine w_il1 hC dX4_about_111 ?_
        rw [show j = ((j.toNat : Nat) : Int) by omega]
        refine w_vi3 hC vi_X4_171 rfl dX4_about_112 rfl hN (d_isRight hA (r := 40) (f := 28) (j := j.toNat) rfl (show 28 + j.toNat < 127 by omega) (by omega) (by rw [wj]; exact hw) (fun g3 => ?_) (fun g3 => ?_))
        · refine v_if_eq (tgt := 122) hC dX4_about_115 rfl (fun h => absurd h (by decide)) (fun _ => ?_)
          refine w_ic hC dX4_about_118 rfl ?_
          refine v_goto (tgt := 123) hC dX4_about_119 rfl ?_
          refine v_iret hC hR dX4_about_123 ?_
          first
            | exact hb0 (by omega)
            | exact qz (by unfold abV; rw [if_pos (by omega)]) hk2
            | exact qz (by unfold abV; rw [if_neg (by omega), if_pos (by omega), if_pos (by omega)]) hk2
            | exact qz (by unfold abV; rw [if_neg (by omega), if_pos (by omega), if_neg (by omega)]) hk2
            | exact qz (by unfold abV; rw [if_neg (by omega), if_neg (by omega), if_pos (by omega)]; unfold csL; rw [if_pos (by omega)]) hk2
            | exact qz (by unfold abV; rw [if_neg (by omega), if_neg (by omega), if_pos (by omega)]; unfold csL; rw [if_neg (by omega)]) hk2
            | exact qz (ab_3 (by omega) (ir.mp g3)) hk2
            | exact qz (ab_4 (by omega) (fun z => g3 (ir.mpr z))) hk2
            | exact qz (by unfold abV; rw [if_neg (by omega), if_neg (by omega), if_neg (by omega), if_neg (by omega)]) hk2
        · refine v_if_eq (tgt := 122) hC dX4_about_115 rfl (fun _ => ?_) (fun h => absurd h (by decide))
          refine w_ic hC dX4_about_122 rfl ?_
          refine v_iret hC hR dX4_about_123 ?_
          first
            | exact hb0 (by omega)
            | exact qz (by unfold abV; rw [if_pos (by omega)]) hk2
            | exact qz (by unfold abV; rw [if_neg (by omega), if_pos (by omega), if_pos (by omega)]) hk2
            | exact qz (by unfold abV; rw [if_neg (by omega), if_pos (by omega), if_neg (by omega)]) hk2
            | exact qz (by unfold abV; rw [if_neg (by omega), if_neg (by omega), if_pos (by omega)]; unfold csL; rw [if_pos (by omega)]) hk2
            | exact qz (by unfold abV; rw [if_neg (by omega), if_neg (by omega), if_pos (by omega)]; unfold csL; rw [if_neg (by omega)]) hk2
            | exact qz (ab_3 (by omega) (ir.mp g3)) hk2
            | exact qz (ab_4 (by omega) (fun z => g3 (ir.mpr z))) hk2
            | exact qz (by unfold abV; rw [if_neg (by omega), if_neg (by omega), if_neg (by omega), if_neg (by omega)]) hk2
      refine v_tsOut (tgt := 124) hC dX4_about_33 (by omega) rfl ?_
      refine w_al0 hC dX4_about_124 ?_
      refine w_il1 hC dX4_about_125 ?_
      refine w_vi1 hC vi_X4_165 rfl dX4_about_126 rfl hN (d_targetAt hA ⟨by omega, by omega⟩ ?_)
      refine v_iret hC hR dX4_about_129 ?_
      first
        | exact hb0 (by omega)
        | exact qz (by unfold abV; rw [if_pos (by omega)]) hk2
        | exact qz (by unfold abV; rw [if_neg (by omega), if_pos (by omega), if_pos (by omega)]) hk2
        | exact qz (by unfold abV; rw [if_neg (by omega), if_pos (by omega), if_neg (by omega)]) hk2
        | exact qz (by unfold abV; rw [if_neg (by omega), if_neg (by omega), if_pos (by omega)]; unfold csL; rw [if_pos (by omega)]) hk2
        | exact qz (by unfold abV; rw [if_neg (by omega), if_neg (by omega), if_pos (by omega)]; unfold csL; rw [if_neg (by omega)]) hk2
        | exact qz (ab_3 (by omega) (ir.mp g3)) hk2
        | exact qz (ab_4 (by omega) (fun z => g3 (ir.mpr z))) hk2
        | exact qz (by unfold abV; rw [if_neg (by omega), if_neg (by omega), if_neg (by omega), if_neg (by omega)]) hk2
    · refine v_if_ne (tgt := 22) hC dX4_about_14 rfl (fun h => absurd h (by decide)) (fun _ => ?_)
      refine w_al0 hC dX4_about_17 ?_
      refine w_vi0 hC vi_X4_60 rfl dX4_about_18 rfl hN (d_bad ?_)
      refine v_iret hC hR dX4_about_21 ?_
      exact hb0 (by omega)
  · refine v_if_eq (tgt := 17) hC dX4_about_5 rfl (fun _ => ?_) (fun h => absurd h (by decide))
    refine w_al0 hC dX4_about_17 ?_
    refine w_vi0 hC vi_X4_60 rfl dX4_about_18 rfl hN (d_bad ?_)
    refine v_iret hC hR dX4_about_21 ?_
    exact hb0 (by omega)

theorem d_fits {d : Nat} {w : Wd} {Q : Option MV → Wd → Prop} (hA : AOK (w 40)) {n j : Int} (hb0 : ¬ ((0 ≤ n ∧ n < w 40 3) ∧ 0 ≤ j ∧ j < w 40 1) → Q (some (.inl (-2))) (cI w 44 0)) (hk1 : (0 ≤ n ∧ n < w 40 3) ∧ 0 ≤ j ∧ j < w 40 1 → fitB (w 40) (w 40 0) n j → Q (some (.inl 1)) w) (hk0 : (0 ≤ n ∧ n < w 40 3) ∧ 0 ≤ j ∧ j < w 40 1 → ¬ fitB (w 40) (w 40 0) n j → Q (some (.inl 0)) w) : Call (d + 4) mX4_fits [vR 39, vI n, vI j] w Q := by
  have am := hA.m
  have an := hA.n
  have af := hA.f
  have anc := hA.nc
  have amc := hA.mc
  have auc := hA.uc
  refine call_in (ls := [some (vR 39), some (vI n), some (vI j)]) (by decide +kernel) rfl (Nat.le_of_ble_eq_true rfl) (fun κ hC hR hN => ?_)
  have hC : ctxB κ RX4 cX4_fits (d + 4) := hC
  have hN : mlx κ 3 := hN
  refine w_al0 hC dX4_fits_0 ?_
  refine w_il1 hC dX4_fits_1 ?_
  refine w_vi1 hC vi_X4_178 rfl dX4_fits_2 rfl hN (d_isWord hA (fun g1 => ?_) (fun g1 => ?_))
  · refine v_if_eq (tgt := 16) hC dX4_fits_5 rfl (fun h => absurd h (by decide)) (fun _ => ?_)
    refine w_al0 hC dX4_fits_8 ?_
    refine w_il2 hC dX4_fits_9 ?_
    refine w_vi1 hC vi_X4_174 rfl dX4_fits_10 rfl hN (d_isLine hA (fun g2 => ?_) (fun g2 => ?_))
    · refine v_if_ne (tgt := 23) hC dX4_fits_13 rfl (fun _ => ?_) (fun h => absurd h (by decide))
      refine w_al0 hC dX4_fits_23 ?_
      refine w_al0 hC dX4_fits_24 ?_
      refine v_getR (off := 1) (j := 40) hC dX4_fits_25 fd_X4_7 rfl rfl rfl ?_
      refine w_ic hC dX4_fits_28 rfl ?_
      refine w_ialdk hC 127 (0) dX4_fits_29 rfl rfl (by omega) (by omega) ?_
      refine w_il1 hC dX4_fits_30 ?_
      refine w_il2 hC dX4_fits_31 ?_
      refine w_vi3 hC vi_X4_168 rfl dX4_fits_32 rfl hN (d_isFit hA g1 ⟨by omega, by omega⟩ (fun g3 => ?_) (fun g3 => ?_))
      · refine v_if_eq (tgt := 42) hC dX4_fits_35 rfl (fun h => absurd h (by decide)) (fun _ => ?_)
        refine w_ic hC dX4_fits_38 rfl ?_
        refine v_goto (tgt := 43) hC dX4_fits_39 rfl ?_
        refine v_iret hC hR dX4_fits_43 ?_
        first | exact hk1 ⟨g1, g2⟩ g3 | exact hk0 ⟨g1, g2⟩ g3 | exact hb0 (by omega)
      · refine v_if_eq (tgt := 42) hC dX4_fits_35 rfl (fun _ => ?_) (fun h => absurd h (by decide))
        refine w_ic hC dX4_fits_42 rfl ?_
        refine v_iret hC hR dX4_fits_43 ?_
        first | exact hk1 ⟨g1, g2⟩ g3 | exact hk0 ⟨g1, g2⟩ g3 | exact hb0 (by omega)
    · refine v_if_ne (tgt := 23) hC dX4_fits_13 rfl (fun h => absurd h (by decide)) (fun _ => ?_)
      refine w_al0 hC dX4_fits_16 ?_
      refine w_vi0 hC vi_X4_60 rfl dX4_fits_17 rfl hN (d_bad ?_)
      refine v_goto (tgt := 43) hC dX4_fits_20 rfl ?_
      refine v_iret hC hR dX4_fits_43 ?_
      first | exact hk1 ⟨g1, g2⟩ g3 | exact hk0 ⟨g1, g2⟩ g3 | exact hb0 (by omega)
  · refine v_if_eq (tgt := 16) hC dX4_fits_5 rfl (fun _ => ?_) (fun h => absurd h (by decide))
    refine w_al0 hC dX4_fits_16 ?_
    refine w_vi0 hC vi_X4_60 rfl dX4_fits_17 rfl hN (d_bad ?_)
    refine v_goto (tgt := 43) hC dX4_fits_20 rfl ?_
    refine v_iret hC hR dX4_fits_43 ?_
    first | exact hk1 ⟨g1, g2⟩ g3 | exact hk0 ⟨g1, g2⟩ g3 | exact hb0 (by omega)

theorem d_note {d : Nat} {w : Wd} {Q : Option MV → Wd → Prop} (hA : AOK (w 40)) {n j x : Int} (hb0 : ¬ ((3 ≤ n ∧ n ≤ 6) ∧ (0 ≤ j ∧ j ≤ 5) ∧ 0 ≤ x ∧ x ≤ 5) → Q (some (.inl (-2))) (cI w 44 0)) (hf0 : (3 ≤ n ∧ n ≤ 6) ∧ (0 ≤ j ∧ j ≤ 5) ∧ 0 ≤ x ∧ x ≤ 5 → w 40 34 = 6 → Q (some (.inl (-4))) (cI w 44 2)) (hk : (3 ≤ n ∧ n ≤ 6) ∧ (0 ≤ j ∧ j ≤ 5) ∧ 0 ≤ x ∧ x ≤ 5 → w 40 34 < 6 → ∀ w2, (∀ q, w2 40 q = sNote (w 40) n j x q) → smN w w2 → Q (some (.inl (w 40 34 + 1))) w2) : Call (d + 2) mX4_note [vR 39, vI n, vI j, vI x] w Q := by
  have am := hA.m
  have an := hA.n
  have af := hA.f
  have anc := hA.nc
  have amc := hA.mc
  have auc := hA.uc
  refine call_in (ls := [some (vR 39), some (vI n), some (vI j), some (vI x), none]) (by decide +kernel) rfl (Nat.le_of_ble_eq_true rfl) (fun κ hC hR hN => ?_)
  have hC : ctxB κ RX4 cX4_note (d + 2) := hC
  have hN : mlx κ 5 := hN
  refine w_il1 hC dX4_note_0 ?_
  refine w_ic hC dX4_note_1 rfl ?_
  refine v_bipush hC dX4_note_2 (by decide) ?_
  refine w_st3 hC st_X4_53 dX4_note_4 rfl hN (d_in (fun g1 => ?_) (fun g1 => ?_))
  · refine v_if_eq (tgt := 28) hC dX4_note_7 rfl (fun h => absurd h (by decide)) (fun _ => ?_)
    refine w_il2 hC dX4_note_10 ?_
    refine w_ic hC dX4_note_11 rfl ?_
    refine w_ic hC dX4_note_12 rfl ?_
    refine w_st3 hC st_X4_53 dX4_note_13 rfl hN (d_in (fun g2 => ?_) (fun g2 => ?_))
    · refine v_if_eq (tgt := 28) hC dX4_note_16 rfl (fun h => absurd h (by decide)) (fun _ => ?_)
      refine w_il3 hC dX4_note_19 ?_
      refine w_ic hC dX4_note_20 rfl ?_
      refine w_ic hC dX4_note_21 rfl ?_
      refine w_st3 hC st_X4_53 dX4_note_22 rfl hN (d_in (fun g3 => ?_) (fun g3 => ?_))
      · refine v_if_ne (tgt := 33) hC dX4_note_25 rfl (fun _ => ?_) (fun h => absurd h (by decide))
        refine w_al0 hC dX4_note_33 ?_
        refine v_getR (off := 1) (j := 40) hC dX4_note_34 fd_X4_7 rfl rfl rfl ?_
        refine v_bipush hC dX4_note_37 (by decide) ?_
        refine w_ialdk hC 127 (34) dX4_note_39 rfl rfl (by omega) (by omega) ?_
        refine v_bipush hC dX4_note_40 (by decide) ?_
        refine v_ic_ne (tgt := 50) hC dX4_note_42 rfl (fun h42 => ?_) (fun h42 => ?_)
        · obtain ⟨c, hc⟩ := Int.eq_ofNat_of_zero_le anc.1
          refine v_bipush hC dX4_note_50 (by decide) ?_
          refine w_ic hC dX4_note_52 rfl ?_
          refine w_al0 hC dX4_note_53 ?_
          refine v_getR (off := 1) (j := 40) hC dX4_note_54 fd_X4_7 rfl rfl rfl ?_
          refine v_bipush hC dX4_note_57 (by decide) ?_
          refine w_ialdk hC 127 (34) dX4_note_59 rfl rfl (by omega) (by omega) ?_
          rw [hc]
          refine w_imul hC dX4_note_60 (ri_mk (by omega) (by omega)) ?_
          refine w_iadd hC dX4_note_61 (ri_mk (by omega) (by omega)) ?_
          refine w_is4 hC dX4_note_62 hN (by first | rfl | assumption) ?_
          refine w_al0 hC dX4_note_64 ?_
          refine v_getR (off := 1) (j := 40) hC dX4_note_65 fd_X4_7 rfl rfl rfl ?_
          refine w_il4 hC dX4_note_68 ?_
          refine w_il1 hC dX4_note_70 ?_
          refine w_iastk hC 127 (35 + 3 * c) dX4_note_71 rfl rfl (by omega) (by omega) ?_
          refine w_al0 hC dX4_note_72 ?_
          refine v_getR (off := 1) (j := 40) hC dX4_note_73 fd_X4_7 rfl rfl rfl ?_
          refine w_il4 hC dX4_note_76 ?_
          refine w_ic hC dX4_note_78 rfl ?_
          refine w_iadd hC dX4_note_79 (ri_mk (by omega) (by omega)) ?_
          refine w_il2 hC dX4_note_80 ?_
          refine w_iastk hC 127 (36 + 3 * c) dX4_note_81 rfl rfl (by omega) (by omega) ?_
          refine w_al0 hC dX4_note_82 ?_
          refine v_getR (off := 1) (j := 40) hC dX4_note_83 fd_X4_7 rfl rfl rfl ?_
          refine w_il4 hC dX4_note_86 ?_
          refine w_ic hC dX4_note_88 rfl ?_
          refine w_iadd hC dX4_note_89 (ri_mk (by omega) (by omega)) ?_
          refine w_il3 hC dX4_note_90 ?_
          refine w_iastk hC 127 (37 + 3 * c) dX4_note_91 rfl rfl (by omega) (by omega) ?_
          refine w_al0 hC dX4_note_92 ?_
          refine v_getR (off := 1) (j := 40) hC dX4_note_93 fd_X4_7 rfl rfl rfl ?_
          refine v_bipush hC dX4_note_96 (by decide) ?_
          refine v_dup2 hC dX4_note_98 rfl rfl ?_
          refine w_ialdk hC 127 (34) dX4_note_99 rfl rfl (by omega) (by omega) ?_
          rw [up_pl _ _ (by omega), up_pl _ _ (by omega), up_pl _ _ (by omega), hc]
          refine w_ic hC dX4_note_100 rfl ?_
          refine w_iadd hC dX4_note_101 (ri_mk (by omega) (by omega)) ?_
          refine w_iastk hC 127 (34) dX4_note_102 rfl rfl (by omega) (by omega) ?_
          refine w_al0 hC dX4_note_103 ?_
          refine v_getR (off := 1) (j := 40) hC dX4_note_104 fd_X4_7 rfl rfl rfl ?_
          refine v_bipush hC dX4_note_107 (by decide) ?_
          refine w_ialdk hC 127 (34) dX4_note_109 rfl rfl (by omega) (by omega) ?_
          rw [up_same]
          refine v_iret hC hR dX4_note_110 ?_
          rw [hc] at hk
          refine hk (by omega) (by omega) _ (fun q => ?_) (fun i q h => by rw [up_id _ _ h, up_id _ _ h, up_id _ _ h, up_id _ _ h])
          unfold sNote ua up
          simp only [hc, Int.toNat_natCast, true_and]
        · refine w_al0 hC dX4_note_45 ?_
          refine w_vi0 hC vi_X4_71 rfl dX4_note_46 rfl hN (d_full ?_)
          refine v_iret hC hR dX4_note_49 ?_
          exact hf0 (by omega) (by omega)
      · refine v_if_ne (tgt := 33) hC dX4_note_25 rfl (fun h => absurd h (by decide)) (fun _ => ?_)
        refine w_al0 hC dX4_note_28 ?_
        refine w_vi0 hC vi_X4_60 rfl dX4_note_29 rfl hN (d_bad ?_)
        refine v_iret hC hR dX4_note_32 ?_
        exact hb0 (by omega)
    · refine v_if_eq (tgt := 28) hC dX4_note_16 rfl (fun _ => ?_) (fun h => absurd h (by decide))
      refine w_al0 hC dX4_note_28 ?_
      refine w_vi0 hC vi_X4_60 rfl dX4_note_29 rfl hN (d_bad ?_)
      refine v_iret hC hR dX4_note_32 ?_
      exact hb0 (by omega)
  · refine v_if_eq (tgt := 28) hC dX4_note_7 rfl (fun _ => ?_) (fun h => absurd h (by decide))
    refine w_al0 hC dX4_note_28 ?_
    refine w_vi0 hC vi_X4_60 rfl dX4_note_29 rfl hN (d_bad ?_)
    refine v_iret hC hR dX4_note_32 ?_
    exact hb0 (by omega)

theorem d_mark {d : Nat} {w : Wd} {Q : Option MV → Wd → Prop} (hA : AOK (w 40)) {wd n j x : Int} (hb0 : ¬ ((0 ≤ wd ∧ wd < w 40 3) ∧ (3 ≤ n ∧ n ≤ 6) ∧ (0 ≤ j ∧ j ≤ 5) ∧ 0 ≤ x ∧ x ≤ 20) → Q (some (.inl (-2))) (cI w 44 0)) (hf0 : (0 ≤ wd ∧ wd < w 40 3) ∧ (3 ≤ n ∧ n ≤ 6) ∧ (0 ≤ j ∧ j ≤ 5) ∧ 0 ≤ x ∧ x ≤ 20 → w 40 53 = 6 → Q (some (.inl (-4))) (cI w 44 2)) (hk : (0 ≤ wd ∧ wd < w 40 3) ∧ (3 ≤ n ∧ n ≤ 6) ∧ (0 ≤ j ∧ j ≤ 5) ∧ 0 ≤ x ∧ x ≤ 20 → w 40 53 < 6 → ∀ w2, (∀ q, w2 40 q = sMark (w 40) wd n j x q) → smN w w2 → Q (some (.inl (w 40 53 + 1))) w2) : Call (d + 2) mX4_mark [vR 39, vI wd, vI n, vI j, vI x] w Q := by
  have am := hA.m
  have an := hA.n
  have af := hA.f
  have anc := hA.nc
  have amc := hA.mc
  have auc := hA.uc
  refine call_in (ls := [some (vR 39), some (vI wd), some (vI n), some (vI j), some (vI x), none]) (by decide +kernel) rfl (Nat.le_of_ble_eq_true rfl) (fun κ hC hR hN => ?_)
  have hC : ctxB κ RX4 cX4_mark (d + 2) := hC
  have hN : mlx κ 6 := hN
  refine w_al0 hC dX4_mark_0 ?_
  refine w_il1 hC dX4_mark_1 ?_
  refine w_vi1 hC vi_X4_178 rfl dX4_mark_2 rfl hN (d_isWord hA (fun g0 => ?_) (fun g0 => ?_))
  · refine v_if_eq (tgt := 38) hC dX4_mark_5 rfl (fun h => absurd h (by decide)) (fun _ => ?_)
    refine w_il2 hC dX4_mark_8 ?_
    refine w_ic hC dX4_mark_9 rfl ?_
    refine v_bipush hC dX4_mark_10 (by decide) ?_
    refine w_st3 hC st_X4_53 dX4_mark_12 rfl hN (d_in (fun g1 => ?_) (fun g1 => ?_))
    · refine v_if_eq (tgt := 38) hC dX4_mark_15 rfl (fun h => absurd h (by decide)) (fun _ => ?_)
      refine w_il3 hC dX4_mark_18 ?_
      refine w_ic hC dX4_mark_19 rfl ?_
      refine w_ic hC dX4_mark_20 rfl ?_
      refine w_st3 hC st_X4_53 dX4_mark_21 rfl hN (d_in (fun g2 => ?_) (fun g2 => ?_))
      · refine v_if_eq (tgt := 38) hC dX4_mark_24 rfl (fun h => absurd h (by decide)) (fun _ => ?_)
        refine w_il4 hC dX4_mark_27 ?_
        refine w_ic hC dX4_mark_29 rfl ?_
        refine v_bipush hC dX4_mark_30 (by decide) ?_
        refine w_st3 hC st_X4_53 dX4_mark_32 rfl hN (d_in (fun g3 => ?_) (fun g3 => ?_))
        · refine v_if_ne (tgt := 43) hC dX4_mark_35 rfl (fun _ => ?_) (fun h => absurd h (by decide))
          refine w_al0 hC dX4_mark_43 ?_
          refine v_getR (off := 1) (j := 40) hC dX4_mark_44 fd_X4_7 rfl rfl rfl ?_
          refine v_bipush hC dX4_mark_47 (by decide) ?_
          refine w_ialdk hC 127 (53) dX4_mark_49 rfl rfl (by omega) (by omega) ?_
          refine v_bipush hC dX4_mark_50 (by decide) ?_
          refine v_ic_ne (tgt := 60) hC dX4_mark_52 rfl (fun h52 => ?_) (fun h52 => ?_)
          · obtain ⟨c, hc⟩ := Int.eq_ofNat_of_zero_le amc.1
            refine v_bipush hC dX4_mark_60 (by decide) ?_
            refine w_ic hC dX4_mark_62 rfl ?_
            refine w_al0 hC dX4_mark_63 ?_
            refine v_getR (off := 1) (j := 40) hC dX4_mark_64 fd_X4_7 rfl rfl rfl ?_
            refine v_bipush hC dX4_mark_67 (by decide) ?_
            refine w_ialdk hC 127 (53) dX4_mark_69 rfl rfl (by omega) (by omega) ?_
            rw [hc]
            refine w_imul hC dX4_mark_70 (ri_mk (by omega) (by omega)) ?_
            refine w_iadd hC dX4_mark_71 (ri_mk (by omega) (by omega)) ?_
            refine w_is5 hC dX4_mark_72 hN (by first | rfl | assumption) ?_
            refine w_al0 hC dX4_mark_74 ?_
            refine v_getR (off := 1) (j := 40) hC dX4_mark_75 fd_X4_7 rfl rfl rfl ?_
            refine w_il5 hC dX4_mark_78 ?_
            refine w_il1 hC dX4_mark_80 ?_
            refine w_iastk hC 127 (54 + 4 * c) dX4_mark_81 rfl rfl (by omega) (by omega) ?_
            refine w_al0 hC dX4_mark_82 ?_
            refine v_getR (off := 1) (j := 40) hC dX4_mark_83 fd_X4_7 rfl rfl rfl ?_
            refine w_il5 hC dX4_mark_86 ?_
            refine w_ic hC dX4_mark_88 rfl ?_
            refine w_iadd hC dX4_mark_89 (ri_mk (by omega) (by omega)) ?_
            refine w_il2 hC dX4_mark_90 ?_
            refine w_iastk hC 127 (55 + 4 * c) dX4_mark_91 rfl rfl (by omega) (by omega) ?_
            refine w_al0 hC dX4_mark_92 ?_
            refine v_getR (off := 1) (j := 40) hC dX4_mark_93 fd_X4_7 rfl rfl rfl ?_
            refine w_il5 hC dX4_mark_96 ?_
            refine w_ic hC dX4_mark_98 rfl ?_
            refine w_iadd hC dX4_mark_99 (ri_mk (by omega) (by omega)) ?_
            refine w_il3 hC dX4_mark_100 ?_
            refine w_iastk hC 127 (56 + 4 * c) dX4_mark_101 rfl rfl (by omega) (by omega) ?_
            refine w_al0 hC dX4_mark_102 ?_
            refine v_getR (off := 1) (j := 40) hC dX4_mark_103 fd_X4_7 rfl rfl rfl ?_
            refine w_il5 hC dX4_mark_106 ?_
            refine w_ic hC dX4_mark_108 rfl ?_
            refine w_iadd hC dX4_mark_109 (ri_mk (by omega) (by omega)) ?_
            refine w_il4 hC dX4_mark_110 ?_
            refine w_iastk hC 127 (57 + 4 * c) dX4_mark_112 rfl rfl (by omega) (by omega) ?_
            refine w_al0 hC dX4_mark_113 ?_
            refine v_getR (off := 1) (j := 40) hC dX4_mark_114 fd_X4_7 rfl rfl rfl ?_
            refine v_bipush hC dX4_mark_117 (by decide) ?_
            refine v_dup2 hC dX4_mark_119 rfl rfl ?_
            refine w_ialdk hC 127 (53) dX4_mark_120 rfl rfl (by omega) (by omega) ?_
            rw [up_pl _ _ (by omega), up_pl _ _ (by omega), up_pl _ _ (by omega), up_pl _ _ (by omega), hc]
            refine w_ic hC dX4_mark_121 rfl ?_
            refine w_iadd hC dX4_mark_122 (ri_mk (by omega) (by omega)) ?_
            refine w_iastk hC 127 (53) dX4_mark_123 rfl rfl (by omega) (by omega) ?_
            refine w_al0 hC dX4_mark_124 ?_
            refine v_getR (off := 1) (j := 40) hC dX4_mark_125 fd_X4_7 rfl rfl rfl ?_
            refine v_bipush hC dX4_mark_128 (by decide) ?_
            refine w_ialdk hC 127 (53) dX4_mark_130 rfl rfl (by omega) (by omega) ?_
            rw [up_same]
            refine v_iret hC hR dX4_mark_131 ?_
            rw [hc] at hk
            refine hk (by omega) (by omega) _ (fun q => ?_) (fun i q h => by rw [up_id _ _ h, up_id _ _ h, up_id _ _ h, up_id _ _ h, up_id _ _ h])
            unfold sMark ua up
            simp only [hc, Int.toNat_natCast, true_and]
          · refine w_al0 hC dX4_mark_55 ?_
            refine w_vi0 hC vi_X4_71 rfl dX4_mark_56 rfl hN (d_full ?_)
            refine v_iret hC hR dX4_mark_59 ?_
            exact hf0 (by omega) (by omega)
        · refine v_if_ne (tgt := 43) hC dX4_mark_35 rfl (fun h => absurd h (by decide)) (fun _ => ?_)
          refine w_al0 hC dX4_mark_38 ?_
          refine w_vi0 hC vi_X4_60 rfl dX4_mark_39 rfl hN (d_bad ?_)
          refine v_iret hC hR dX4_mark_42 ?_
          exact hb0 (by omega)
      · refine v_if_eq (tgt := 38) hC dX4_mark_24 rfl (fun _ => ?_) (fun h => absurd h (by decide))
        refine w_al0 hC dX4_mark_38 ?_
        refine w_vi0 hC vi_X4_60 rfl dX4_mark_39 rfl hN (d_bad ?_)
        refine v_iret hC hR dX4_mark_42 ?_
        exact hb0 (by omega)
    · refine v_if_eq (tgt := 38) hC dX4_mark_15 rfl (fun _ => ?_) (fun h => absurd h (by decide))
      refine w_al0 hC dX4_mark_38 ?_
      refine w_vi0 hC vi_X4_60 rfl dX4_mark_39 rfl hN (d_bad ?_)
      refine v_iret hC hR dX4_mark_42 ?_
      exact hb0 (by omega)
  · refine v_if_eq (tgt := 38) hC dX4_mark_5 rfl (fun _ => ?_) (fun h => absurd h (by decide))
    refine w_al0 hC dX4_mark_38 ?_
    refine w_vi0 hC vi_X4_60 rfl dX4_mark_39 rfl hN (d_bad ?_)
    refine v_iret hC hR dX4_mark_42 ?_
    exact hb0 (by omega)

theorem d_forget {d : Nat} {w : Wd} {Q : Option MV → Wd → Prop} (hA : AOK (w 40)) {x : Int} (hb0 : ¬ (0 ≤ x ∧ x ≤ 1) → Q (some (.inl (-2))) (cI w 44 0)) (hk0 : x = 0 → ∀ w2, (∀ q, w2 40 q = ua (w 40) 34 0 q) → smN w w2 → Q (some (.inl (w 40 34))) w2) (hk1 : x = 1 → ∀ w2, (∀ q, w2 40 q = ua (w 40) 53 0 q) → smN w w2 → Q (some (.inl (w 40 53))) w2) : Call (d + 2) mX4_forget [vR 39, vI x] w Q := by
  have am := hA.m
  have an := hA.n
  have af := hA.f
  have anc := hA.nc
  have amc := hA.mc
  have auc := hA.uc
  refine call_in (ls := [some (vR 39), some (vI x), none, none]) (by decide +kernel) rfl (Nat.le_of_ble_eq_true rfl) (fun κ hC hR hN => ?_)
  have hC : ctxB κ RX4 cX4_forget (d + 2) := hC
  have hN : mlx κ 4 := hN
  refine w_il1 hC dX4_forget_0 ?_
  refine w_ic hC dX4_forget_1 rfl ?_
  refine w_ic hC dX4_forget_2 rfl ?_
  refine w_st3 hC st_X4_53 dX4_forget_3 rfl hN (d_in (fun g1 => ?_) (fun g1 => ?_))
  · refine v_if_ne (tgt := 14) hC dX4_forget_6 rfl (fun _ => ?_) (fun h => absurd h (by decide))
    refine w_il1 hC dX4_forget_14 ?_
    refine v_if_ne (tgt := 23) hC dX4_forget_15 rfl (fun h15 => ?_) (fun h15 => ?_)
    · refine v_bipush hC dX4_forget_23 (by decide) ?_
      refine w_is2 hC dX4_forget_25 hN (by first | rfl | assumption) ?_
      refine w_al0 hC dX4_forget_26 ?_
      refine v_getR (off := 1) (j := 40) hC dX4_forget_27 fd_X4_7 rfl rfl rfl ?_
      refine w_il2 hC dX4_forget_30 ?_
      refine w_ialdk hC 127 (53) dX4_forget_31 rfl rfl (by omega) (by omega) ?_
      refine w_is3 hC dX4_forget_32 hN (by first | rfl | assumption) ?_
      refine w_al0 hC dX4_forget_33 ?_
      refine v_getR (off := 1) (j := 40) hC dX4_forget_34 fd_X4_7 rfl rfl rfl ?_
      refine w_il2 hC dX4_forget_37 ?_
      refine w_ic hC dX4_forget_38 rfl ?_
      refine w_iastk hC 127 (53) dX4_forget_39 rfl rfl (by omega) (by omega) ?_
      refine w_il3 hC dX4_forget_40 ?_
      refine v_iret hC hR dX4_forget_41 ?_
      first | exact hk0 (by omega) _ (fun q => by unfold ua up; simp only [true_and]) (fun i q h => up_id _ _ h) | exact hk1 (by omega) _ (fun q => by unfold ua up; simp only [true_and]) (fun i q h => up_id _ _ h)
    · refine v_bipush hC dX4_forget_18 (by decide) ?_
      refine v_goto (tgt := 25) hC dX4_forget_20 rfl ?_
      refine w_is2 hC dX4_forget_25 hN (by first | rfl | assumption) ?_
      refine w_al0 hC dX4_forget_26 ?_
      refine v_getR (off := 1) (j := 40) hC dX4_forget_27 fd_X4_7 rfl rfl rfl ?_
      refine w_il2 hC dX4_forget_30 ?_
      refine w_ialdk hC 127 (34) dX4_forget_31 rfl rfl (by omega) (by omega) ?_
      refine w_is3 hC dX4_forget_32 hN (by first | rfl | assumption) ?_
      refine w_al0 hC dX4_forget_33 ?_
      refine v_getR (off := 1) (j := 40) hC dX4_forget_34 fd_X4_7 rfl rfl rfl ?_
      refine w_il2 hC dX4_forget_37 ?_
      refine w_ic hC dX4_forget_38 rfl ?_
      refine w_iastk hC 127 (34) dX4_forget_39 rfl rfl (by omega) (by omega) ?_
      refine w_il3 hC dX4_forget_40 ?_
      refine v_iret hC hR dX4_forget_41 ?_
      first | exact hk0 (by omega) _ (fun q => by unfold ua up; simp only [true_and]) (fun i q h => up_id _ _ h) | exact hk1 (by omega) _ (fun q => by unfold ua up; simp only [true_and]) (fun i q h => up_id _ _ h)
  · refine v_if_ne (tgt := 14) hC dX4_forget_6 rfl (fun h => absurd h (by decide)) (fun _ => ?_)
    refine w_al0 hC dX4_forget_9 ?_
    refine w_vi0 hC vi_X4_60 rfl dX4_forget_10 rfl hN (d_bad ?_)
    refine v_iret hC hR dX4_forget_13 ?_
    exact hb0 g1

def AGZ (P : Nat → Prop) (z : Int) (k : Nat) : Prop := (z = 1 ∧ ∀ i, i < k → P i) ∨ (z = 0 ∧ ¬ ∀ i, i < k → P i)
theorem agz_0 (P : Nat → Prop) : AGZ P 1 0 := Or.inl ⟨rfl, fun i h => by omega⟩
theorem agz_t {P : Nat → Prop} {z : Int} {k : Nat} (h : AGZ P z k) (hz : ¬ z = 0) (hp : P k) : AGZ P 1 (k + 1) := Or.inl ⟨rfl, lt_s (h.resolve_right (fun q => hz q.1)).2 hp⟩
theorem agz_f {P : Nat → Prop} {z : Int} {k : Nat} (h : AGZ P z k) (hz : z = 0) : AGZ P 0 (k + 1) := Or.inr ⟨rfl, fun q => (h.resolve_left (fun q => by omega)).2 (fun i hi => q i (by omega))⟩
theorem agz_n {P : Nat → Prop} {k : Nat} (hp : ¬ P k) : AGZ P 0 (k + 1) := Or.inr ⟨rfl, fun q => hp (q k (by omega))⟩
theorem agz_e {P : Nat → Prop} {R : Prop} {z : Int} {k : Nat} (h : AGZ P z k) (e : (∀ i, i < k → P i) ↔ R) : (z = 1 ∧ R) ∨ (z = 0 ∧ ¬ R) := h.elim (fun q => Or.inl ⟨q.1, e.mp q.2⟩) (fun q => Or.inr ⟨q.1, fun z => q.2 (e.mpr z)⟩)

theorem d_formsSeen {d : Nat} {w : Wd} {Q : Option MV → Wd → Prop} (hA : AOK (w 40)) (hQ : Q (some (.inl ((mkM (nAgr (w 40)) 6 : Nat) : Int))) w) : Call (d + 1) mX4_formsSeen [vR 39] w Q := by
  have am := hA.m
  have an := hA.n
  have af := hA.f
  have anc := hA.nc
  have amc := hA.mc
  have auc := hA.uc
  refine call_in (ls := [some (vR 39), none, none, none, none, none]) (by decide +kernel) rfl (Nat.le_of_ble_eq_true rfl) (fun κ hC hR hN => ?_)
  have hC : ctxB κ RX4 cX4_formsSeen (d + 1) := hC
  have hN : mlx κ 6 := hN
  refine w_ic hC dX4_formsSeen_0 rfl ?_
  refine w_is1 hC dX4_formsSeen_1 hN (by first | rfl | assumption) ?_
  refine w_ic hC dX4_formsSeen_2 rfl ?_
  refine w_is2 hC dX4_formsSeen_3 hN (by first | rfl | assumption) ?_
  refine w_dr3 ?_
  refine w_dr4 ?_
  refine w_dr5 ?_
  have lp4 : ∀ (K : Nat) (f : Nat), (6 - f) < K → (f ≤ 6) → VV κ 4 [some (vR 39), some (vI ((mkM (nAgr (w 40)) f : Nat) : Int)), some (vI (f : Int)), none, none, none] [] w := by
    intro K
    induction K with
    | zero => intros; omega
    | succ K ih4 =>
      intro f hm4 hf
      refine w_il2 hC dX4_formsSeen_4 ?_
      refine v_bipush hC dX4_formsSeen_5 (by decide) ?_
      refine v_ic_ge (tgt := 104) hC dX4_formsSeen_7 rfl (fun h7 => ?_) (fun h7 => ?_)
      · refine w_il1 hC dX4_formsSeen_104 ?_
        refine v_iret hC hR dX4_formsSeen_105 ?_
        rw [show f = 6 by omega]
        exact hQ
      · refine w_ic hC dX4_formsSeen_10 rfl ?_
        refine w_is3 hC dX4_formsSeen_11 hN (by first | rfl | assumption) ?_
        refine w_ic hC dX4_formsSeen_12 rfl ?_
        refine w_is4 hC dX4_formsSeen_13 hN (by first | rfl | assumption) ?_
        refine w_dr5 ?_
        have lp15 : ∀ (K2 : Nat) (z : Int) (k : Nat), ((w 40 34).toNat - k) < K2 → ((k : Int) ≤ w 40 34) → (AGZ (fun k : Nat => plN f (w 40 (35 + 3 * k)) (w 40 (36 + 3 * k)) = w 40 (37 + 3 * k)) z k) → VV κ 15 [some (vR 39), some (vI ((mkM (nAgr (w 40)) f : Nat) : Int)), some (vI (f : Int)), some (vI z), some (vI (k : Int)), none] [] w := by
          intro K2
          induction K2 with
          | zero => intros; omega
          | succ K2 ih15 =>
            intro z k hm15 hk hz
            refine w_il4 hC dX4_formsSeen_15 ?_
            refine w_al0 hC dX4_formsSeen_17 ?_
            refine v_getR (off := 1) (j := 40) hC dX4_formsSeen_18 fd_X4_7 rfl rfl rfl ?_
            refine v_bipush hC dX4_formsSeen_21 (by decide) ?_
            refine w_ialdk hC 127 (34) dX4_formsSeen_23 rfl rfl (by omega) (by omega) ?_
            refine v_ic_ge (tgt := 84) hC dX4_formsSeen_24 rfl (fun h24 => ?_) (fun h24 => ?_)
            · have hag := agz_e (R := nAgr (w 40) f) hz ⟨fun q i hi => q i (by omega), fun q i hi => q i (by omega)⟩
              refine w_il1 hC dX4_formsSeen_84 ?_
              refine w_il3 hC dX4_formsSeen_85 ?_
              refine v_if_eq (tgt := 95) hC dX4_formsSeen_86 rfl (fun h86 => ?_) (fun h86 => ?_)
              · refine w_ic hC dX4_formsSeen_95 rfl ?_
                refine v_ior hC dX4_formsSeen_96 ?_
                first | rw [or_t (by omega) (hag.resolve_right (fun q => by omega)).2] | rw [or_f (by omega) (hag.resolve_left (fun q => by omega)).2]
                refine w_is1 hC dX4_formsSeen_97 hN (by first | rfl | assumption) ?_
                refine w_inc2 hC dX4_formsSeen_98 hN (by first | rfl | assumption) (ri_mk (by omega) (by omega)) ?_
                refine v_goto (tgt := 4) hC dX4_formsSeen_101 rfl ?_
                refine w_dr3 ?_
                refine w_dr4 ?_
                refine w_dr5 ?_
                exact ih4 (f + 1) (by omega) (by omega)
              · refine w_ic hC dX4_formsSeen_89 rfl ?_
                refine w_il2 hC dX4_formsSeen_90 ?_
                refine v_ishl hC dX4_formsSeen_91 ?_
                refine v_goto (tgt := 96) hC dX4_formsSeen_92 rfl ?_
                refine v_ior hC dX4_formsSeen_96 ?_
                first | rw [or_t (by omega) (hag.resolve_right (fun q => by omega)).2] | rw [or_f (by omega) (hag.resolve_left (fun q => by omega)).2]
                refine w_is1 hC dX4_formsSeen_97 hN (by first | rfl | assumption) ?_
                refine w_inc2 hC dX4_formsSeen_98 hN (by first | rfl | assumption) (ri_mk (by omega) (by omega)) ?_
                refine v_goto (tgt := 4) hC dX4_formsSeen_101 rfl ?_
                refine w_dr3 ?_
                refine w_dr4 ?_
                refine w_dr5 ?_
                exact ih4 (f + 1) (by omega) (by omega)
            · refine v_bipush hC dX4_formsSeen_27 (by decide) ?_
              refine w_ic hC dX4_formsSeen_29 rfl ?_
              refine w_il4 hC dX4_formsSeen_30 ?_
              refine w_imul hC dX4_formsSeen_32 (ri_mk (by omega) (by omega)) ?_
              refine w_iadd hC dX4_formsSeen_33 (ri_mk (by omega) (by omega)) ?_
              refine w_is5 hC dX4_formsSeen_34 hN (by first | rfl | assumption) ?_
              refine w_il3 hC dX4_formsSeen_36 ?_
              refine v_if_eq (tgt := 76) hC dX4_formsSeen_37 rfl (fun h37 => ?_) (fun h37 => ?_)
              · refine w_ic hC dX4_formsSeen_76 rfl ?_
                refine w_is3 hC dX4_formsSeen_77 hN (by first | rfl | assumption) ?_
                refine w_inc4 hC dX4_formsSeen_78 hN (by first | rfl | assumption) (ri_mk (by omega) (by omega)) ?_
                refine v_goto (tgt := 15) hC dX4_formsSeen_81 rfl ?_
                refine w_dr5 ?_
                first | exact ih15 1 (k + 1) (by omega) (by omega) (agz_t hz h37 h69) | exact ih15 0 (k + 1) (by omega) (by omega) (agz_f hz h37) | exact ih15 0 (k + 1) (by omega) (by omega) (agz_n (P := (fun k : Nat => plN f (w 40 (35 + 3 * k)) (w 40 (36 + 3 * k)) = w 40 (37 + 3 * k))) h69)
              · have hno := hA.no (k := k) (by omega)
                refine w_il2 hC dX4_formsSeen_40 ?_
                refine w_al0 hC dX4_formsSeen_41 ?_
                refine v_getR (off := 1) (j := 40) hC dX4_formsSeen_42 fd_X4_7 rfl rfl rfl ?_
                refine w_il5 hC dX4_formsSeen_45 ?_
                refine w_ialdk hC 127 (35 + 3 * k) dX4_formsSeen_47 rfl rfl (by omega) (by omega) ?_
                refine w_al0 hC dX4_formsSeen_48 ?_
                refine v_getR (off := 1) (j := 40) hC dX4_formsSeen_49 fd_X4_7 rfl rfl rfl ?_
                refine w_il5 hC dX4_formsSeen_52 ?_
                refine w_ic hC dX4_formsSeen_54 rfl ?_
                refine w_iadd hC dX4_formsSeen_55 (ri_mk (by omega) (by omega)) ?_
                refine w_ialdk hC 127 (36 + 3 * k) dX4_formsSeen_56 rfl rfl (by omega) (by omega) ?_
                refine w_st3 hC st_X4_156 dX4_formsSeen_57 rfl hN (d_placeBy ⟨by omega, by omega⟩ ⟨by omega, by omega⟩ ?_)
                refine w_al0 hC dX4_formsSeen_60 ?_
                refine v_getR (off := 1) (j := 40) hC dX4_formsSeen_61 fd_X4_7 rfl rfl rfl ?_
                refine w_il5 hC dX4_formsSeen_64 ?_
                refine w_ic hC dX4_formsSeen_66 rfl ?_
                refine w_iadd hC dX4_formsSeen_67 (ri_mk (by omega) (by omega)) ?_
                refine w_ialdk hC 127 (37 + 3 * k) dX4_formsSeen_68 rfl rfl (by omega) (by omega) ?_
                refine v_ic_ne (tgt := 76) hC dX4_formsSeen_69 rfl (fun h69 => ?_) (fun h69 => ?_)
                · refine w_ic hC dX4_formsSeen_76 rfl ?_
                  refine w_is3 hC dX4_formsSeen_77 hN (by first | rfl | assumption) ?_
                  refine w_inc4 hC dX4_formsSeen_78 hN (by first | rfl | assumption) (ri_mk (by omega) (by omega)) ?_
                  refine v_goto (tgt := 15) hC dX4_formsSeen_81 rfl ?_
                  refine w_dr5 ?_
                  first | exact ih15 1 (k + 1) (by omega) (by omega) (agz_t hz h37 h69) | exact ih15 0 (k + 1) (by omega) (by omega) (agz_f hz h37) | exact ih15 0 (k + 1) (by omega) (by omega) (agz_n (P := (fun k : Nat => plN f (w 40 (35 + 3 * k)) (w 40 (36 + 3 * k)) = w 40 (37 + 3 * k))) h69)
                · refine w_ic hC dX4_formsSeen_72 rfl ?_
                  refine v_goto (tgt := 77) hC dX4_formsSeen_73 rfl ?_
                  refine w_is3 hC dX4_formsSeen_77 hN (by first | rfl | assumption) ?_
                  refine w_inc4 hC dX4_formsSeen_78 hN (by first | rfl | assumption) (ri_mk (by omega) (by omega)) ?_
                  refine v_goto (tgt := 15) hC dX4_formsSeen_81 rfl ?_
                  refine w_dr5 ?_
                  first | exact ih15 1 (k + 1) (by omega) (by omega) (agz_t hz h37 h69) | exact ih15 0 (k + 1) (by omega) (by omega) (agz_f hz h37) | exact ih15 0 (k + 1) (by omega) (by omega) (agz_n (P := (fun k : Nat => plN f (w 40 (35 + 3 * k)) (w 40 (36 + 3 * k)) = w 40 (37 + 3 * k))) h69)
        exact lp15 ((w 40 34).toNat + 1) 1 0 (by omega) (by omega) (agz_0 _)
  exact lp4 7 0 (by omega) (by omega)

theorem d_kindsSeen {d : Nat} {w : Wd} {Q : Option MV → Wd → Prop} (hA : AOK (w 40)) {wd : Int} (hQ : Q (some (.inl ((mkM (mAgr (w 40) wd) 6 : Nat) : Int))) w) : Call (d + 1) mX4_kindsSeen [vR 39, vI wd] w Q := by
  have am := hA.m
  have an := hA.n
  have af := hA.f
  have anc := hA.nc
  have amc := hA.mc
  have auc := hA.uc
  refine call_in (ls := [some (vR 39), some (vI wd), none, none, none, none, none]) (by decide +kernel) rfl (Nat.le_of_ble_eq_true rfl) (fun κ hC hR hN => ?_)
  have hC : ctxB κ RX4 cX4_kindsSeen (d + 1) := hC
  have hN : mlx κ 7 := hN
  refine w_ic hC dX4_kindsSeen_0 rfl ?_
  refine w_is2 hC dX4_kindsSeen_1 hN (by first | rfl | assumption) ?_
  refine w_ic hC dX4_kindsSeen_2 rfl ?_
  refine w_is3 hC dX4_kindsSeen_3 hN (by first | rfl | assumption) ?_
  refine w_dr4 ?_
  refine w_dr5 ?_
  refine w_dr6 ?_
  have lp4 : ∀ (K : Nat) (f : Nat), (6 - f) < K → (f ≤ 6) → VV κ 4 [some (vR 39), some (vI wd), some (vI ((mkM (mAgr (w 40) wd) f : Nat) : Int)), some (vI (f : Int)), none, none, none] [] w := by
    intro K
    induction K with
    | zero => intros; omega
    | succ K ih4 =>
      intro f hm4 hf
      refine w_il3 hC dX4_kindsSeen_4 ?_
      refine v_bipush hC dX4_kindsSeen_5 (by decide) ?_
      refine v_ic_ge (tgt := 121) hC dX4_kindsSeen_7 rfl (fun h7 => ?_) (fun h7 => ?_)
      · refine w_il2 hC dX4_kindsSeen_121 ?_
        refine v_iret hC hR dX4_kindsSeen_122 ?_
        rw [show f = 6 by omega]
        exact hQ
      · refine w_ic hC dX4_kindsSeen_10 rfl ?_
        refine w_is4 hC dX4_kindsSeen_11 hN (by first | rfl | assumption) ?_
        refine w_ic hC dX4_kindsSeen_13 rfl ?_
        refine w_is5 hC dX4_kindsSeen_14 hN (by first | rfl | assumption) ?_
        refine w_dr6 ?_
        have lp16 : ∀ (K2 : Nat) (z : Int) (k : Nat), ((w 40 53).toNat - k) < K2 → ((k : Int) ≤ w 40 53) → (AGZ (fun k : Nat => w 40 (54 + 4 * k) = wd → coN f (w 40 (55 + 4 * k)) (w 40 (56 + 4 * k)) = w 40 (57 + 4 * k)) z k) → VV κ 16 [some (vR 39), some (vI wd), some (vI ((mkM (mAgr (w 40) wd) f : Nat) : Int)), some (vI (f : Int)), some (vI z), some (vI (k : Int)), none] [] w := by
          intro K2
          induction K2 with
          | zero => intros; omega
          | succ K2 ih16 =>
            intro z k hm16 hk hz
            refine w_il5 hC dX4_kindsSeen_16 ?_
            refine w_al0 hC dX4_kindsSeen_18 ?_
            refine v_getR (off := 1) (j := 40) hC dX4_kindsSeen_19 fd_X4_7 rfl rfl rfl ?_
            refine v_bipush hC dX4_kindsSeen_22 (by decide) ?_
            refine w_ialdk hC 127 (53) dX4_kindsSeen_24 rfl rfl (by omega) (by omega) ?_
            refine v_ic_ge (tgt := 100) hC dX4_kindsSeen_25 rfl (fun h25 => ?_) (fun h25 => ?_)
            · have hag := agz_e (R := mAgr (w 40) wd f) hz ⟨fun q i hi => q i (by omega), fun q i hi => q i (by omega)⟩
              refine w_il2 hC dX4_kindsSeen_100 ?_
              refine w_il4 hC dX4_kindsSeen_101 ?_
              refine v_if_eq (tgt := 112) hC dX4_kindsSeen_103 rfl (fun h103 => ?_) (fun h103 => ?_)
              · refine w_ic hC dX4_kindsSeen_112 rfl ?_
                refine v_ior hC dX4_kindsSeen_113 ?_
                first | rw [or_t (by omega) (hag.resolve_right (fun q => by omega)).2] | rw [or_f (by omega) (hag.resolve_left (fun q => by omega)).2]
                refine w_is2 hC dX4_kindsSeen_114 hN (by first | rfl | assumption) ?_
                refine w_inc3 hC dX4_kindsSeen_115 hN (by first | rfl | assumption) (ri_mk (by omega) (by omega)) ?_
                refine v_goto (tgt := 4) hC dX4_kindsSeen_118 rfl ?_
                refine w_dr4 ?_
                refine w_dr5 ?_
                refine w_dr6 ?_
                exact ih4 (f + 1) (by omega) (by omega)
              · refine w_ic hC dX4_kindsSeen_106 rfl ?_
                refine w_il3 hC dX4_kindsSeen_107 ?_
                refine v_ishl hC dX4_kindsSeen_108 ?_
                refine v_goto (tgt := 113) hC dX4_kindsSeen_109 rfl ?_
                refine v_ior hC dX4_kindsSeen_113 ?_
                first | rw [or_t (by omega) (hag.resolve_right (fun q => by omega)).2] | rw [or_f (by omega) (hag.resolve_left (fun q => by omega)).2]
                refine w_is2 hC dX4_kindsSeen_114 hN (by first | rfl | assumption) ?_
                refine w_inc3 hC dX4_kindsSeen_115 hN (by first | rfl | assumption) (ri_mk (by omega) (by omega)) ?_
                refine v_goto (tgt := 4) hC dX4_kindsSeen_118 rfl ?_
                refine w_dr4 ?_
                refine w_dr5 ?_
                refine w_dr6 ?_
                exact ih4 (f + 1) (by omega) (by omega)
            · refine v_bipush hC dX4_kindsSeen_28 (by decide) ?_
              refine w_ic hC dX4_kindsSeen_30 rfl ?_
              refine w_il5 hC dX4_kindsSeen_31 ?_
              refine w_imul hC dX4_kindsSeen_33 (ri_mk (by omega) (by omega)) ?_
              refine w_iadd hC dX4_kindsSeen_34 (ri_mk (by omega) (by omega)) ?_
              refine w_is6 hC dX4_kindsSeen_35 hN (by first | rfl | assumption) ?_
              refine w_il4 hC dX4_kindsSeen_37 ?_
              refine v_if_eq (tgt := 91) hC dX4_kindsSeen_39 rfl (fun h39 => ?_) (fun h39 => ?_)
              · refine w_ic hC dX4_kindsSeen_91 rfl ?_
                refine w_is4 hC dX4_kindsSeen_92 hN (by first | rfl | assumption) ?_
                refine w_inc5 hC dX4_kindsSeen_94 hN (by first | rfl | assumption) (ri_mk (by omega) (by omega)) ?_
                refine v_goto (tgt := 16) hC dX4_kindsSeen_97 rfl ?_
                refine w_dr6 ?_
                first | exact ih16 1 (k + 1) (by omega) (by omega) (agz_t hz h39 (fun _ => h84)) | exact ih16 1 (k + 1) (by omega) (by omega) (agz_t hz h39 (fun q => absurd q h50)) | exact ih16 0 (k + 1) (by omega) (by omega) (agz_f hz h39) | exact ih16 0 (k + 1) (by omega) (by omega) (agz_n (P := (fun k : Nat => w 40 (54 + 4 * k) = wd → coN f (w 40 (55 + 4 * k)) (w 40 (56 + 4 * k)) = w 40 (57 + 4 * k))) (fun q => h84 (q h50)))
              · have hma := hA.ma (k := k) (by omega)
                refine w_al0 hC dX4_kindsSeen_42 ?_
                refine v_getR (off := 1) (j := 40) hC dX4_kindsSeen_43 fd_X4_7 rfl rfl rfl ?_
                refine w_il6 hC dX4_kindsSeen_46 ?_
                refine w_ialdk hC 127 (54 + 4 * k) dX4_kindsSeen_48 rfl rfl (by omega) (by omega) ?_
                refine w_il1 hC dX4_kindsSeen_49 ?_
                refine v_ic_ne (tgt := 87) hC dX4_kindsSeen_50 rfl (fun h50 => ?_) (fun h50 => ?_)
                · refine w_ic hC dX4_kindsSeen_87 rfl ?_
                  refine v_goto (tgt := 92) hC dX4_kindsSeen_88 rfl ?_
                  refine w_is4 hC dX4_kindsSeen_92 hN (by first | rfl | assumption) ?_
                  refine w_inc5 hC dX4_kindsSeen_94 hN (by first | rfl | assumption) (ri_mk (by omega) (by omega)) ?_
                  refine v_goto (tgt := 16) hC dX4_kindsSeen_97 rfl ?_
                  refine w_dr6 ?_
                  first | exact ih16 1 (k + 1) (by omega) (by omega) (agz_t hz h39 (fun _ => h84)) | exact ih16 1 (k + 1) (by omega) (by omega) (agz_t hz h39 (fun q => absurd q h50)) | exact ih16 0 (k + 1) (by omega) (by omega) (agz_f hz h39) | exact ih16 0 (k + 1) (by omega) (by omega) (agz_n (P := (fun k : Nat => w 40 (54 + 4 * k) = wd → coN f (w 40 (55 + 4 * k)) (w 40 (56 + 4 * k)) = w 40 (57 + 4 * k))) (fun q => h84 (q h50)))
                · refine w_il3 hC dX4_kindsSeen_53 ?_
                  refine w_al0 hC dX4_kindsSeen_54 ?_
                  refine v_getR (off := 1) (j := 40) hC dX4_kindsSeen_55 fd_X4_7 rfl rfl rfl ?_
                  refine w_il6 hC dX4_kindsSeen_58 ?_
                  refine w_ic hC dX4_kindsSeen_60 rfl ?_
                  refine w_iadd hC dX4_kindsSeen_61 (ri_mk (by omega) (by omega)) ?_
                  refine w_ialdk hC 127 (55 + 4 * k) dX4_kindsSeen_62 rfl rfl (by omega) (by omega) ?_
                  refine w_al0 hC dX4_kindsSeen_63 ?_
                  refine v_getR (off := 1) (j := 40) hC dX4_kindsSeen_64 fd_X4_7 rfl rfl rfl ?_
                  refine w_il6 hC dX4_kindsSeen_67 ?_
                  refine w_ic hC dX4_kindsSeen_69 rfl ?_
                  refine w_iadd hC dX4_kindsSeen_70 (ri_mk (by omega) (by omega)) ?_
                  refine w_ialdk hC 127 (56 + 4 * k) dX4_kindsSeen_71 rfl rfl (by omega) (by omega) ?_
                  refine w_st3 hC st_X4_152 dX4_kindsSeen_72 rfl hN (d_costBy ⟨by omega, by omega⟩ ⟨by omega, by omega⟩ ?_)
                  refine w_al0 hC dX4_kindsSeen_75 ?_
                  refine v_getR (off := 1) (j := 40) hC dX4_kindsSeen_76 fd_X4_7 rfl rfl rfl ?_
                  refine w_il6 hC dX4_kindsSeen_79 ?_
                  refine w_ic hC dX4_kindsSeen_81 rfl ?_
                  refine w_iadd hC dX4_kindsSeen_82 (ri_mk (by omega) (by omega)) ?_
                  refine w_ialdk hC 127 (57 + 4 * k) dX4_kindsSeen_83 rfl rfl (by omega) (by omega) ?_
                  refine v_ic_ne (tgt := 91) hC dX4_kindsSeen_84 rfl (fun h84 => ?_) (fun h84 => ?_)
                  · refine w_ic hC dX4_kindsSeen_91 rfl ?_
                    refine w_is4 hC dX4_kindsSeen_92 hN (by first | rfl | assumption) ?_
                    refine w_inc5 hC dX4_kindsSeen_94 hN (by first | rfl | assumption) (ri_mk (by omega) (by omega)) ?_
                    refine v_goto (tgt := 16) hC dX4_kindsSeen_97 rfl ?_
                    refine w_dr6 ?_
                    first | exact ih16 1 (k + 1) (by omega) (by omega) (agz_t hz h39 (fun _ => h84)) | exact ih16 1 (k + 1) (by omega) (by omega) (agz_t hz h39 (fun q => absurd q h50)) | exact ih16 0 (k + 1) (by omega) (by omega) (agz_f hz h39) | exact ih16 0 (k + 1) (by omega) (by omega) (agz_n (P := (fun k : Nat => w 40 (54 + 4 * k) = wd → coN f (w 40 (55 + 4 * k)) (w 40 (56 + 4 * k)) = w 40 (57 + 4 * k))) (fun q => h84 (q h50)))
                  · refine w_ic hC dX4_kindsSeen_87 rfl ?_
                    refine v_goto (tgt := 92) hC dX4_kindsSeen_88 rfl ?_
                    refine w_is4 hC dX4_kindsSeen_92 hN (by first | rfl | assumption) ?_
                    refine w_inc5 hC dX4_kindsSeen_94 hN (by first | rfl | assumption) (ri_mk (by omega) (by omega)) ?_
                    refine v_goto (tgt := 16) hC dX4_kindsSeen_97 rfl ?_
                    refine w_dr6 ?_
                    first | exact ih16 1 (k + 1) (by omega) (by omega) (agz_t hz h39 (fun _ => h84)) | exact ih16 1 (k + 1) (by omega) (by omega) (agz_t hz h39 (fun q => absurd q h50)) | exact ih16 0 (k + 1) (by omega) (by omega) (agz_f hz h39) | exact ih16 0 (k + 1) (by omega) (by omega) (agz_n (P := (fun k : Nat => w 40 (54 + 4 * k) = wd → coN f (w 40 (55 + 4 * k)) (w 40 (56 + 4 * k)) = w 40 (57 + 4 * k))) (fun q => h84 (q h50)))
        exact lp16 ((w 40 53).toNat + 1) 1 0 (by omega) (by omega) (agz_0 _)
  exact lp4 7 0 (by omega) (by omega)

theorem d_is {d : Nat} {w : Wd} {Q : Option MV → Wd → Prop} (hA : AOK (w 40)) (hQ : Q (some (.inl ((mkM (nAgr (w 40)) 6 : Nat) : Int))) w) : Call (d + 2) mX4_is [vR 39] w Q := by
  have am := hA.m
  have an := hA.n
  have af := hA.f
  have anc := hA.nc
  have amc := hA.mc
  have auc := hA.uc
  refine call_in (ls := [some (vR 39)]) (by decide +kernel) rfl (Nat.le_of_ble_eq_true rfl) (fun κ hC hR hN => ?_)
  have hC : ctxB κ RX4 cX4_is (d + 2) := hC
  have hN : mlx κ 1 := hN
  refine w_al0 hC dX4_is_0 ?_
  refine w_vi0 hC vi_X4_216 rfl dX4_is_1 rfl hN (d_formsSeen hA ?_)
  refine v_iret hC hR dX4_is_4 ?_
  exact hQ

theorem d_kinds {d : Nat} {w : Wd} {Q : Option MV → Wd → Prop} (hA : AOK (w 40)) {n : Int} (hb0 : ¬ (0 ≤ n ∧ n < w 40 3) → Q (some (.inl (-2))) (cI w 44 0)) (hk : 0 ≤ n ∧ n < w 40 3 → Q (some (.inl ((mkM (mAgr (w 40) n) 6 : Nat) : Int))) w) : Call (d + 2) mX4_kinds [vR 39, vI n] w Q := by
  have am := hA.m
  have an := hA.n
  have af := hA.f
  have anc := hA.nc
  have amc := hA.mc
  have auc := hA.uc
  refine call_in (ls := [some (vR 39), some (vI n)]) (by decide +kernel) rfl (Nat.le_of_ble_eq_true rfl) (fun κ hC hR hN => ?_)
  have hC : ctxB κ RX4 cX4_kinds (d + 2) := hC
  have hN : mlx κ 2 := hN
  refine w_al0 hC dX4_kinds_0 ?_
  refine w_il1 hC dX4_kinds_1 ?_
  refine w_vi1 hC vi_X4_178 rfl dX4_kinds_2 rfl hN (d_isWord hA (fun g1 => ?_) (fun g1 => ?_))
  · refine v_if_eq (tgt := 16) hC dX4_kinds_5 rfl (fun h => absurd h (by decide)) (fun _ => ?_)
    refine w_al0 hC dX4_kinds_8 ?_
    refine w_il1 hC dX4_kinds_9 ?_
    refine w_vi1 hC vi_X4_222 rfl dX4_kinds_10 rfl hN (d_kindsSeen hA ?_)
    refine v_goto (tgt := 20) hC dX4_kinds_13 rfl ?_
    refine v_iret hC hR dX4_kinds_20 ?_
    first | exact hb0 g1 | exact hk g1
  · refine v_if_eq (tgt := 16) hC dX4_kinds_5 rfl (fun _ => ?_) (fun h => absurd h (by decide))
    refine w_al0 hC dX4_kinds_16 ?_
    refine w_vi0 hC vi_X4_60 rfl dX4_kinds_17 rfl hN (d_bad ?_)
    refine v_iret hC hR dX4_kinds_20 ?_
    first | exact hb0 g1 | exact hk g1
