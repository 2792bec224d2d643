def olF (a : Nat → Int) (c : Int) : Nat → Int := fun j => if wOn a j = -1 then 0 else if c = 0 then 1 else csB a (wOn a j) j
theorem ol_fi (a : Nat → Int) : sumN (olF a 0) (a 1).toNat = fiL a := sumN_congr _ (fun j _ => by unfold olF; rw [if_pos rfl])
theorem ol_ct {a : Nat → Int} : sumN (olF a 1) (a 1).toNat = ctL a := sumN_congr _ (fun j _ => by unfold olF csL; rw [if_neg (by decide : ¬ (1 : Int) = 0)])
theorem olF_r {a : Nat → Int} (hA : AOK a) {c : Int} {j : Nat} (hj : (j : Int) < a 1) : 0 ≤ olF a c j ∧ olF a c j ≤ 12 := by
  have am := hA.m
  have hw := wOn_r hA j
  unfold olF
  split
  next => omega
  next =>
    split
    next => omega
    next => exact csB_q hA ⟨by omega, by omega⟩ ⟨by omega, by omega⟩
theorem ol_0 {a : Nat → Int} {c : Int} {j : Nat} (h : wOn a j = -1) : olF a c j = 0 := if_pos h
theorem ol_1 {a : Nat → Int} {c : Int} {j : Nat} (h : ¬ wOn a j = -1) (hc : c = 0) : olF a c j = 1 := by unfold olF; rw [if_neg h, if_pos hc]
theorem ol_2 {a : Nat → Int} {c : Int} {j : Nat} (h : ¬ wOn a j = -1) (hc : ¬ c = 0) : olF a c j = csB a (wOn a j) j := by unfold olF; rw [if_neg h, if_neg hc]

theorem d_onLines {d : Nat} {w : Wd} {Q : Option MV → Wd → Prop} (hA : AOK (w 40)) {c : Int} (hQ : Q (some (.inl (sumN (olF (w 40) c) (w 40 1).toNat))) w) : Call (d + 2) mX4_onLines [vR 39, vI c] w Q := by
  have am := hA.m
  have an := hA.n
  have af := hA.f
  have anc := hA.nc
  have amc := hA.mc
  have auc := hA.uc
  refine call_in (ls := [some (vR 39), some (vI c), none, none, none]) (by decide +kernel) rfl (Nat.le_of_ble_eq_true rfl) (fun κ hC hR hN => ?_)
  have hC : ctxB κ RX4 cX4_onLines (d + 2) := hC
  have hN : mlx κ 5 := hN
  refine w_ic hC dX4_onLines_0 rfl ?_
  refine w_is2 hC dX4_onLines_1 hN (by first | rfl | assumption) ?_
  refine w_ic hC dX4_onLines_2 rfl ?_
  refine w_is3 hC dX4_onLines_3 hN (by first | rfl | assumption) ?_
  refine w_dr4 ?_
  have lp4 : ∀ (K : Nat) (s : Int) (j : Nat), ((w 40 1).toNat - j) < K → ((j : Int) ≤ w 40 1) → (s = sumN (olF (w 40) c) j) → VV κ 4 [some (vR 39), some (vI c), some (vI s), some (vI (j : Int)), none] [] w := by
    intro K
    induction K with
    | zero => intros; omega
    | succ K ih4 =>
      intro s j hm4 hj hs
      have hr := sumN_r (f := olF (w 40) c) (c := 12) j (fun i hi => olF_r hA (by omega))
      refine w_il3 hC dX4_onLines_4 ?_
      refine w_al0 hC dX4_onLines_5 ?_
      refine v_getR (off := 1) (j := 40) hC dX4_onLines_6 fd_X4_7 rfl rfl rfl ?_
      refine w_ic hC dX4_onLines_9 rfl ?_
      refine w_ialdk hC 127 (1) dX4_onLines_10 rfl rfl (by omega) (by omega) ?_
      refine v_ic_ge (tgt := 59) hC dX4_onLines_11 rfl (fun h11 => ?_) (fun h11 => ?_)
      · refine w_il2 hC dX4_onLines_59 ?_
        refine v_iret hC hR dX4_onLines_60 ?_
        rw [show j = (w 40 1).toNat by omega] at hs
        exact qz hs.symm hQ
      · refine w_al0 hC dX4_onLines_14 ?_
        refine v_getR (off := 1) (j := 40) hC dX4_onLines_15 fd_X4_7 rfl rfl rfl ?_
        refine v_bipush hC dX4_onLines_18 (by decide) ?_
        refine w_il3 hC dX4_onLines_20 ?_
        refine w_iadd hC dX4_onLines_21 (ri_mk (by omega) (by omega)) ?_
        refine w_ialdk hC 127 (28 + j) dX4_onLines_22 rfl rfl (by omega) (by omega) ?_
        have hw := wOn_r hA j
        rw [← wOn_n (a := w 40) (j := j) (by omega)]
        refine w_is4 hC dX4_onLines_23 hN (by first | rfl | assumption) ?_
        refine w_il2 hC dX4_onLines_25 ?_
        refine w_il4 hC dX4_onLines_26 ?_
        refine w_ic hC dX4_onLines_28 rfl ?_
        refine v_ic_ne (tgt := 36) hC dX4_onLines_29 rfl (fun h29 => ?_) (fun h29 => ?_)
        · refine w_il1 hC dX4_onLines_36 ?_
          refine v_if_eq (tgt := 50) hC dX4_onLines_37 rfl (fun h37 => ?_) (fun h37 => ?_)
          · refine w_ic hC dX4_onLines_50 rfl ?_
            refine w_iadd hC dX4_onLines_51 (ri_mk (by omega) (by omega)) ?_
            refine w_is2 hC dX4_onLines_52 hN (by first | rfl | assumption) ?_
            refine w_inc3 hC dX4_onLines_53 hN (by first | rfl | assumption) (ri_mk (by omega) (by omega)) ?_
            refine v_goto (tgt := 4) hC dX4_onLines_56 rfl ?_
            refine w_dr4 ?_
            first | exact ih4 _ (j + 1) (by omega) (by omega) (sumN_s hs (ol_0 (by omega))) | exact ih4 _ (j + 1) (by omega) (by omega) (sumN_s hs (ol_1 (by omega) (by omega))) | exact ih4 _ (j + 1) (by omega) (by omega) (sumN_s hs (ol_2 (by omega) (by omega)))
          · refine w_al0 hC dX4_onLines_40 ?_
            refine w_il4 hC dX4_onLines_41 ?_
            refine w_il3 hC dX4_onLines_43 ?_
            refine w_vi2 hC vi_X4_187 rfl dX4_onLines_44 rfl hN (d_cost hA ⟨by omega, by omega⟩ ⟨by omega, by omega⟩ ?_)
            have hcq := csB_q hA (n := wOn (w 40) j) (j := j) ⟨by omega, by omega⟩ ⟨by omega, by omega⟩
            refine v_goto (tgt := 51) hC dX4_onLines_47 rfl ?_
            refine w_iadd hC dX4_onLines_51 (ri_mk (by omega) (by omega)) ?_
            refine w_is2 hC dX4_onLines_52 hN (by first | rfl | assumption) ?_
            refine w_inc3 hC dX4_onLines_53 hN (by first | rfl | assumption) (ri_mk (by omega) (by omega)) ?_
            refine v_goto (tgt := 4) hC dX4_onLines_56 rfl ?_
            refine w_dr4 ?_
            first | exact ih4 _ (j + 1) (by omega) (by omega) (sumN_s hs (ol_0 (by omega))) | exact ih4 _ (j + 1) (by omega) (by omega) (sumN_s hs (ol_1 (by omega) (by omega))) | exact ih4 _ (j + 1) (by omega) (by omega) (sumN_s hs (ol_2 (by omega) (by omega)))
        · refine w_ic hC dX4_onLines_32 rfl ?_
          refine v_goto (tgt := 51) hC dX4_onLines_33 rfl ?_
          refine w_iadd hC dX4_onLines_51 (ri_mk (by omega) (by omega)) ?_
          refine w_is2 hC dX4_onLines_52 hN (by first | rfl | assumption) ?_
          refine w_inc3 hC dX4_onLines_53 hN (by first | rfl | assumption) (ri_mk (by omega) (by omega)) ?_
          refine v_goto (tgt := 4) hC dX4_onLines_56 rfl ?_
          refine w_dr4 ?_
          first | exact ih4 _ (j + 1) (by omega) (by omega) (sumN_s hs (ol_0 (by omega))) | exact ih4 _ (j + 1) (by omega) (by omega) (sumN_s hs (ol_1 (by omega) (by omega))) | exact ih4 _ (j + 1) (by omega) (by omega) (sumN_s hs (ol_2 (by omega) (by omega)))
  exact lp4 ((w 40 1).toNat + 1) 0 0 (by omega) (by omega) rfl

theorem d_counted {d : Nat} {w : Wd} {Q : Option MV → Wd → Prop} (hA : AOK (w 40)) {x : Int} (hx : 0 ≤ x ∧ x ≤ 10) (hQ : Q (some (.inl (hmV (w 39 7) (w 40) x))) w) : Call (d + 6) mX4_counted [vR 39, vI x] w Q := by
  have am := hA.m
  have an := hA.n
  have af := hA.f
  have anc := hA.nc
  have amc := hA.mc
  have auc := hA.uc
  refine call_in (ls := [some (vR 39), some (vI x)]) (by decide +kernel) rfl (Nat.le_of_ble_eq_true rfl) (fun κ hC hR hN => ?_)
  have hC : ctxB κ RX4 cX4_counted (d + 6) := hC
  have hN : mlx κ 2 := hN
  refine w_il1 hC dX4_counted_0 ?_
  by_cases hs0 : x = 0
  · refine v_tsAt hC 0 (tgt := 56) hs0 dX4_counted_1 rfl rfl rfl ?_
    refine w_al0 hC dX4_counted_56 ?_
    refine v_getR (off := 1) (j := 40) hC dX4_counted_57 fd_X4_7 rfl rfl rfl ?_
    refine w_ic hC dX4_counted_60 rfl ?_
    refine w_ialdk hC 127 (3) dX4_counted_61 rfl rfl (by omega) (by omega) ?_
    refine v_iret hC hR dX4_counted_62 ?_
    exact qz (by unfold hmV; rw [if_pos (by omega)]) hQ
  by_cases hs1 : x = 1
  · refine v_tsAt hC 1 (tgt := 63) hs1 dX4_counted_1 rfl rfl rfl ?_
    refine w_al0 hC dX4_counted_63 ?_
    refine v_getR (off := 1) (j := 40) hC dX4_counted_64 fd_X4_7 rfl rfl rfl ?_
    refine w_ic hC dX4_counted_67 rfl ?_
    refine w_ialdk hC 127 (1) dX4_counted_68 rfl rfl (by omega) (by omega) ?_
    refine v_iret hC hR dX4_counted_69 ?_
    exact qz (by unfold hmV; rw [if_neg (by omega), if_pos (by omega)]) hQ
  by_cases hs2 : x = 2
  · refine v_tsAt hC 2 (tgt := 70) hs2 dX4_counted_1 rfl rfl rfl ?_
    refine w_al0 hC dX4_counted_70 ?_
    refine v_getR (off := 1) (j := 40) hC dX4_counted_71 fd_X4_7 rfl rfl rfl ?_
    refine w_ic hC dX4_counted_74 rfl ?_
    refine w_ialdk hC 127 (0) dX4_counted_75 rfl rfl (by omega) (by omega) ?_
    refine v_iret hC hR dX4_counted_76 ?_
    exact qz (by unfold hmV; rw [if_neg (by omega), if_neg (by omega), if_pos (by omega)]) hQ
  by_cases hs3 : x = 3
  · refine v_tsAt hC 3 (tgt := 77) hs3 dX4_counted_1 rfl rfl rfl ?_
    refine w_al0 hC dX4_counted_77 ?_
    refine v_getR (off := 1) (j := 40) hC dX4_counted_78 fd_X4_7 rfl rfl rfl ?_
    refine w_ic hC dX4_counted_81 rfl ?_
    refine w_ialdk hC 127 (2) dX4_counted_82 rfl rfl (by omega) (by omega) ?_
    refine v_iret hC hR dX4_counted_83 ?_
    exact qz (by unfold hmV; rw [if_neg (by omega), if_neg (by omega), if_neg (by omega), if_pos (by omega)]) hQ
  by_cases hs4 : x = 4
  · refine v_tsAt hC 4 (tgt := 84) hs4 dX4_counted_1 rfl rfl rfl ?_
    refine w_al0 hC dX4_counted_84 ?_
    refine w_ic hC dX4_counted_85 rfl ?_
    refine w_vi1 hC vi_X4_257 rfl dX4_counted_86 rfl hN (d_onLines hA ?_)
    rw [ol_fi]
    refine v_iret hC hR dX4_counted_89 ?_
    exact qz (by unfold hmV; rw [if_neg (by omega), if_neg (by omega), if_neg (by omega), if_neg (by omega), if_pos (by omega)]) hQ
  by_cases hs5 : x = 5
  · refine v_tsAt hC 5 (tgt := 90) hs5 dX4_counted_1 rfl rfl rfl ?_
    refine w_al0 hC dX4_counted_90 ?_
    refine w_al0 hC dX4_counted_91 ?_
    refine v_getR (off := 1) (j := 40) hC dX4_counted_92 fd_X4_7 rfl rfl rfl ?_
    refine v_bipush hC dX4_counted_95 (by decide) ?_
    refine w_vi2 hC vi_X4_184 rfl dX4_counted_97 rfl hN (d_rightOnes hA (r := 40) (f := 28) rfl (by decide) (fun j9 h9 => by have h8 := hA.ln.1 j9 (by have := hA.m; omega); exact ⟨h8.1, h8.2.1⟩) ?_)
    rw [rt_rtL hA]
    refine v_iret hC hR dX4_counted_100 ?_
    exact qz (by unfold hmV; rw [if_neg (by omega), if_neg (by omega), if_neg (by omega), if_neg (by omega), if_neg (by omega), if_pos (by omega)]) hQ
  by_cases hs6 : x = 6
  · refine v_tsAt hC 6 (tgt := 101) hs6 dX4_counted_1 rfl rfl rfl ?_
    refine w_al0 hC dX4_counted_101 ?_
    refine w_ic hC dX4_counted_102 rfl ?_
    refine w_vi1 hC vi_X4_257 rfl dX4_counted_103 rfl hN (d_onLines hA ?_)
    rw [ol_ct]
    refine v_iret hC hR dX4_counted_106 ?_
    exact qz (by unfold hmV; rw [if_neg (by omega), if_neg (by omega), if_neg (by omega), if_neg (by omega), if_neg (by omega), if_neg (by omega), if_pos (by omega)]) hQ
  by_cases hs7 : x = 7
  · refine v_tsAt hC 7 (tgt := 107) hs7 dX4_counted_1 rfl rfl rfl ?_
    refine w_al0 hC dX4_counted_107 ?_
    refine v_getR (off := 1) (j := 40) hC dX4_counted_108 fd_X4_7 rfl rfl rfl ?_
    refine v_bipush hC dX4_counted_111 (by decide) ?_
    refine w_ialdk hC 127 (34) dX4_counted_113 rfl rfl (by omega) (by omega) ?_
    refine v_iret hC hR dX4_counted_114 ?_
    exact qz (by unfold hmV; rw [if_neg (by omega), if_neg (by omega), if_neg (by omega), if_neg (by omega), if_neg (by omega), if_neg (by omega), if_neg (by omega), if_pos (by omega)]) hQ
  by_cases hs8 : x = 8
  · refine v_tsAt hC 8 (tgt := 115) hs8 dX4_counted_1 rfl rfl rfl ?_
    refine w_al0 hC dX4_counted_115 ?_
    refine v_getR (off := 1) (j := 40) hC dX4_counted_116 fd_X4_7 rfl rfl rfl ?_
    refine v_bipush hC dX4_counted_119 (by decide) ?_
    refine w_ialdk hC 127 (53) dX4_counted_121 rfl rfl (by omega) (by omega) ?_
    refine v_iret hC hR dX4_counted_122 ?_
    exact qz (by unfold hmV; rw [if_neg (by omega), if_neg (by omega), if_neg (by omega), if_neg (by omega), if_neg (by omega), if_neg (by omega), if_neg (by omega), if_neg (by omega), if_pos (by omega)]) hQ
  by_cases hs9 : x = 9
  · refine v_tsAt hC 9 (tgt := 123) hs9 dX4_counted_1 rfl rfl rfl ?_
    refine w_al0 hC dX4_counted_123 ?_
    refine v_getR (off := 1) (j := 40) hC dX4_counted_124 fd_X4_7 rfl rfl rfl ?_
    refine v_bipush hC dX4_counted_127 (by decide) ?_
    refine w_ialdk hC 127 (78) dX4_counted_129 rfl rfl (by omega) (by omega) ?_
    refine v_iret hC hR dX4_counted_130 ?_
    exact qz (by unfold hmV; rw [if_neg (by omega), if_neg (by omega), if_neg (by omega), if_neg (by omega), if_neg (by omega), if_neg (by omega), if_neg (by omega), if_neg (by omega), if_neg (by omega), if_pos (by omega)]) hQ
  refine v_tsOut (tgt := 131) hC dX4_counted_1 (by omega) rfl ?_
  refine w_al0 hC dX4_counted_131 ?_
  refine v_getI hC dX4_counted_132 fd_X4_78 rfl rfl ?_
  refine v_iret hC hR dX4_counted_135 ?_
  exact qz (by unfold hmV; rw [if_neg (by omega), if_neg (by omega), if_neg (by omega), if_neg (by omega), if_neg (by omega), if_neg (by omega), if_neg (by omega), if_neg (by omega), if_neg (by omega), if_neg (by omega)]) hQ

theorem d_count {d : Nat} {w : Wd} {Q : Option MV → Wd → Prop} (hA : AOK (w 40)) {x : Int} (hb0 : ¬ (0 ≤ x ∧ x ≤ 10) → Q (some (.inl (-2))) (cI w 44 0)) (hk : 0 ≤ x ∧ x ≤ 10 → Q (some (.inl (hmV (w 39 7) (w 40) x))) w) : Call (d + 7) mX4_count [vR 39, vI x] w Q := by
  have am := hA.m
  have an := hA.n
  have af := hA.f
  have anc := hA.nc
  have amc := hA.mc
  have auc := hA.uc
  refine call_in (ls := [some (vR 39), some (vI x)]) (by decide +kernel) rfl (Nat.le_of_ble_eq_true rfl) (fun κ hC hR hN => ?_)
  have hC : ctxB κ RX4 cX4_count (d + 7) := hC
  have hN : mlx κ 2 := hN
  refine w_il1 hC dX4_count_0 ?_
  refine w_ic hC dX4_count_1 rfl ?_
  refine v_bipush hC dX4_count_2 (by decide) ?_
  refine w_st3 hC st_X4_53 dX4_count_4 rfl hN (d_in (fun g1 => ?_) (fun g1 => ?_))
  · refine v_if_eq (tgt := 18) hC dX4_count_7 rfl (fun h => absurd h (by decide)) (fun _ => ?_)
    refine w_al0 hC dX4_count_10 ?_
    refine w_il1 hC dX4_count_11 ?_
    refine w_vi1 hC vi_X4_261 rfl dX4_count_12 rfl hN (d_counted hA g1 ?_)
    refine v_goto (tgt := 22) hC dX4_count_15 rfl ?_
    refine v_iret hC hR dX4_count_22 ?_
    first | exact hb0 g1 | exact hk g1
  · refine v_if_eq (tgt := 18) hC dX4_count_7 rfl (fun _ => ?_) (fun h => absurd h (by decide))
    refine w_al0 hC dX4_count_18 ?_
    refine w_vi0 hC vi_X4_60 rfl dX4_count_19 rfl hN (d_bad ?_)
    refine v_iret hC hR dX4_count_22 ?_
    first | exact hb0 g1 | exact hk g1

theorem d_digest {d : Nat} {w : Wd} {Q : Option MV → Wd → Prop} (hA : AOK (w 40)) (hQ : Q (some (.inr (.inl (dgV (w 39 7) (w 39 5) (w 39 6) (w 40))))) w) : Call (d + 7) mX4_digest [vR 39] w Q := by
  have am := hA.m
  have an := hA.n
  have af := hA.f
  have anc := hA.nc
  have amc := hA.mc
  have auc := hA.uc
  obtain ⟨n3, h3⟩ := Int.eq_ofNat_of_zero_le an.1
  obtain ⟨nm, hm⟩ := Int.eq_ofNat_of_zero_le (show 0 ≤ w 40 1 by omega)
  obtain ⟨nn, hn⟩ := Int.eq_ofNat_of_zero_le anc.1
  obtain ⟨nk, hk⟩ := Int.eq_ofNat_of_zero_le amc.1
  refine call_in (ls := [some (vR 39), none, none, none]) (by decide +kernel) rfl (Nat.le_of_ble_eq_true rfl) (fun κ hC hR hN => ?_)
  have hC : ctxB κ RX4 cX4_digest (d + 7) := hC
  have hN : mlx κ 4 := hN
  refine v_ldc2 (n := 1861) hC dX4_digest_0 kl_X4_264 rfl (ckL_ok rfl) ?_
  refine w_ls1 hC dX4_digest_3 hN (by first | rfl | assumption) ?_
  refine w_ic hC dX4_digest_4 rfl ?_
  refine w_is3 hC dX4_digest_5 hN (by first | rfl | assumption) ?_
  refine w_dr2 ?_
  have lp6 : ∀ (K0 : Nat) (z0 : Int) (q0 : Nat), (11 - q0) < K0 → (q0 ≤ 11) → (z0 = hF (fun k => hmV (w 39 7) (w 40) k) 1861 q0) → VV κ 6 [some (vR 39), some (vL z0), none, some (vI (q0 : Int))] [] w := by
    intro K0
    induction K0 with
    | zero => intros; omega
    | succ K0 ih6 =>
      intro z0 q0 hm6 hz01 hz0
      refine w_il3 hC dX4_digest_6 ?_
      refine v_bipush hC dX4_digest_7 (by decide) ?_
      refine v_ic_ge (tgt := 31) hC dX4_digest_9 rfl (fun h9 => ?_) (fun h9 => ?_)
      · refine w_ic hC dX4_digest_31 rfl ?_
        refine w_is3 hC dX4_digest_32 hN (by first | rfl | assumption) ?_
        refine w_dr2 ?_
        have lp33 : ∀ (K1 : Nat) (z1 : Int) (q1 : Nat), (n3 - q1) < K1 → (q1 ≤ n3) → (z1 = hW (w 40) z0 q1) → VV κ 33 [some (vR 39), some (vL z1), none, some (vI (q1 : Int))] [] w := by
          intro K1
          induction K1 with
          | zero => intros; omega
          | succ K1 ih33 =>
            intro z1 q1 hm33 hz11 hz1
            refine w_il3 hC dX4_digest_33 ?_
            refine w_al0 hC dX4_digest_34 ?_
            refine v_getR (off := 1) (j := 40) hC dX4_digest_35 fd_X4_7 rfl rfl rfl ?_
            refine w_ic hC dX4_digest_38 rfl ?_
            refine w_ialdk hC 127 (3) dX4_digest_39 rfl rfl (by omega) (by omega) ?_
            rw [h3]
            refine v_ic_ge (tgt := 99) hC dX4_digest_40 rfl (fun h40 => ?_) (fun h40 => ?_)
            · refine w_ic hC dX4_digest_99 rfl ?_
              refine w_is3 hC dX4_digest_100 hN (by first | rfl | assumption) ?_
              refine w_dr2 ?_
              have lp101 : ∀ (K2 : Nat) (z2 : Int) (q2 : Nat), (nm - q2) < K2 → (q2 ≤ nm) → (z2 = hF (fun k => w 40 (28 + k)) z1 q2) → VV κ 101 [some (vR 39), some (vL z2), none, some (vI (q2 : Int))] [] w := by
                intro K2
                induction K2 with
                | zero => intros; omega
                | succ K2 ih101 =>
                  intro z2 q2 hm101 hz21 hz2
                  refine w_il3 hC dX4_digest_101 ?_
                  refine w_al0 hC dX4_digest_102 ?_
                  refine v_getR (off := 1) (j := 40) hC dX4_digest_103 fd_X4_7 rfl rfl rfl ?_
                  refine w_ic hC dX4_digest_106 rfl ?_
                  refine w_ialdk hC 127 (1) dX4_digest_107 rfl rfl (by omega) (by omega) ?_
                  rw [hm]
                  refine v_ic_ge (tgt := 134) hC dX4_digest_108 rfl (fun h108 => ?_) (fun h108 => ?_)
                  · refine w_ic hC dX4_digest_134 rfl ?_
                    refine w_is3 hC dX4_digest_135 hN (by first | rfl | assumption) ?_
                    refine w_dr2 ?_
                    have lp136 : ∀ (K3 : Nat) (z3 : Int) (q3 : Nat), ((3 * nn) - q3) < K3 → (q3 ≤ (3 * nn)) → (z3 = hF (fun k => w 40 (35 + k)) z2 q3) → VV κ 136 [some (vR 39), some (vL z3), none, some (vI (q3 : Int))] [] w := by
                      intro K3
                      induction K3 with
                      | zero => intros; omega
                      | succ K3 ih136 =>
                        intro z3 q3 hm136 hz31 hz3
                        refine w_il3 hC dX4_digest_136 ?_
                        refine w_ic hC dX4_digest_137 rfl ?_
                        refine w_al0 hC dX4_digest_138 ?_
                        refine v_getR (off := 1) (j := 40) hC dX4_digest_139 fd_X4_7 rfl rfl rfl ?_
                        refine v_bipush hC dX4_digest_142 (by decide) ?_
                        refine w_ialdk hC 127 (34) dX4_digest_144 rfl rfl (by omega) (by omega) ?_
                        rw [hn]
                        refine w_imul hC dX4_digest_145 (ri_mk (by omega) (by omega)) ?_
                        refine v_ic_ge (tgt := 172) hC dX4_digest_146 rfl (fun h146 => ?_) (fun h146 => ?_)
                        · refine w_ic hC dX4_digest_172 rfl ?_
                          refine w_is3 hC dX4_digest_173 hN (by first | rfl | assumption) ?_
                          refine w_dr2 ?_
                          have lp174 : ∀ (K4 : Nat) (z4 : Int) (q4 : Nat), ((4 * nk) - q4) < K4 → (q4 ≤ (4 * nk)) → (z4 = hF (fun k => w 40 (54 + k)) z3 q4) → VV κ 174 [some (vR 39), some (vL z4), none, some (vI (q4 : Int))] [] w := by
                            intro K4
                            induction K4 with
                            | zero => intros; omega
                            | succ K4 ih174 =>
                              intro z4 q4 hm174 hz41 hz4
                              refine w_il3 hC dX4_digest_174 ?_
                              refine w_ic hC dX4_digest_175 rfl ?_
                              refine w_al0 hC dX4_digest_176 ?_
                              refine v_getR (off := 1) (j := 40) hC dX4_digest_177 fd_X4_7 rfl rfl rfl ?_
                              refine v_bipush hC dX4_digest_180 (by decide) ?_
                              refine w_ialdk hC 127 (53) dX4_digest_182 rfl rfl (by omega) (by omega) ?_
                              rw [hk]
                              refine w_imul hC dX4_digest_183 (ri_mk (by omega) (by omega)) ?_
                              refine v_ic_ge (tgt := 210) hC dX4_digest_184 rfl (fun h184 => ?_) (fun h184 => ?_)
                              · refine v_ldc2 (n := 31) hC dX4_digest_210 kl_X4_266 rfl (ckL_ok rfl) ?_
                                refine v_ldc2 (n := 31) hC dX4_digest_213 kl_X4_266 rfl (ckL_ok rfl) ?_
                                refine w_ll1 hC dX4_digest_216 ?_
                                refine v_lmul hC dX4_digest_217 ?_
                                refine w_al0 hC dX4_digest_218 ?_
                                refine v_getL hC dX4_digest_219 fd_X4_234 rfl rfl ?_
                                refine v_ladd hC dX4_digest_222 ?_
                                refine v_lmul hC dX4_digest_223 ?_
                                refine w_al0 hC dX4_digest_224 ?_
                                refine v_getL hC dX4_digest_225 fd_X4_26 rfl rfl ?_
                                refine v_ladd hC dX4_digest_228 ?_
                                refine v_lret hC hR dX4_digest_229 ?_
                                rw [show q0 = 11 by omega] at hz0
                                rw [show q1 = n3 by omega] at hz1
                                rw [show q2 = nm by omega] at hz2
                                rw [show q3 = 3 * nn by omega] at hz3
                                rw [show q4 = 4 * nk by omega] at hz4
                                unfold dgV at hQ
                                rw [h3, hm, hn, hk, show ((n3 : Nat) : Int).toNat = n3 from rfl, show ((nm : Nat) : Int).toNat = nm from rfl, show (3 * (nn : Int)).toNat = 3 * nn by omega, show (4 * (nk : Int)).toNat = 4 * nk by omega, ← hz0, ← hz1, ← hz2, ← hz3, ← hz4] at hQ
                                exact hQ
                              · refine v_ldc2 (n := 31) hC dX4_digest_187 kl_X4_266 rfl (ckL_ok rfl) ?_
                                refine w_ll1 hC dX4_digest_190 ?_
                                refine v_lmul hC dX4_digest_191 ?_
                                refine w_al0 hC dX4_digest_192 ?_
                                refine v_getR (off := 1) (j := 40) hC dX4_digest_193 fd_X4_7 rfl rfl rfl ?_
                                refine v_bipush hC dX4_digest_196 (by decide) ?_
                                refine w_il3 hC dX4_digest_198 ?_
                                refine w_iadd hC dX4_digest_199 (ri_mk (by omega) (by omega)) ?_
                                refine w_ialdk hC 127 (54 + q4) dX4_digest_200 rfl rfl (by omega) (by omega) ?_
                                refine v_i2l hC dX4_digest_201 ?_
                                refine v_ladd hC dX4_digest_202 ?_
                                refine w_ls1 hC dX4_digest_203 hN (by first | rfl | assumption) ?_
                                refine w_inc3 hC dX4_digest_204 hN (by first | rfl | assumption) (ri_mk (by omega) (by omega)) ?_
                                refine v_goto (tgt := 174) hC dX4_digest_207 rfl ?_
                                refine w_dr2 ?_
                                exact ih174 _ (q4 + 1) (by omega) (by omega) (hF_s hz4 rfl)
                          exact lp174 ((4 * nk) + 1) _ 0 (by omega) (by omega) rfl
                        · refine v_ldc2 (n := 31) hC dX4_digest_149 kl_X4_266 rfl (ckL_ok rfl) ?_
                          refine w_ll1 hC dX4_digest_152 ?_
                          refine v_lmul hC dX4_digest_153 ?_
                          refine w_al0 hC dX4_digest_154 ?_
                          refine v_getR (off := 1) (j := 40) hC dX4_digest_155 fd_X4_7 rfl rfl rfl ?_
                          refine v_bipush hC dX4_digest_158 (by decide) ?_
                          refine w_il3 hC dX4_digest_160 ?_
                          refine w_iadd hC dX4_digest_161 (ri_mk (by omega) (by omega)) ?_
                          refine w_ialdk hC 127 (35 + q3) dX4_digest_162 rfl rfl (by omega) (by omega) ?_
                          refine v_i2l hC dX4_digest_163 ?_
                          refine v_ladd hC dX4_digest_164 ?_
                          refine w_ls1 hC dX4_digest_165 hN (by first | rfl | assumption) ?_
                          refine w_inc3 hC dX4_digest_166 hN (by first | rfl | assumption) (ri_mk (by omega) (by omega)) ?_
                          refine v_goto (tgt := 136) hC dX4_digest_169 rfl ?_
                          refine w_dr2 ?_
                          exact ih136 _ (q3 + 1) (by omega) (by omega) (hF_s hz3 rfl)
                    exact lp136 ((3 * nn) + 1) _ 0 (by omega) (by omega) rfl
                  · refine v_ldc2 (n := 31) hC dX4_digest_111 kl_X4_266 rfl (ckL_ok rfl) ?_
                    refine w_ll1 hC dX4_digest_114 ?_
                    refine v_lmul hC dX4_digest_115 ?_
                    refine w_al0 hC dX4_digest_116 ?_
                    refine v_getR (off := 1) (j := 40) hC dX4_digest_117 fd_X4_7 rfl rfl rfl ?_
                    refine v_bipush hC dX4_digest_120 (by decide) ?_
                    refine w_il3 hC dX4_digest_122 ?_
                    refine w_iadd hC dX4_digest_123 (ri_mk (by omega) (by omega)) ?_
                    refine w_ialdk hC 127 (28 + q2) dX4_digest_124 rfl rfl (by omega) (by omega) ?_
                    refine v_i2l hC dX4_digest_125 ?_
                    refine v_ladd hC dX4_digest_126 ?_
                    refine w_ls1 hC dX4_digest_127 hN (by first | rfl | assumption) ?_
                    refine w_inc3 hC dX4_digest_128 hN (by first | rfl | assumption) (ri_mk (by omega) (by omega)) ?_
                    refine v_goto (tgt := 101) hC dX4_digest_131 rfl ?_
                    refine w_dr2 ?_
                    exact ih101 _ (q2 + 1) (by omega) (by omega) (hF_s hz2 rfl)
              exact lp101 (nm + 1) _ 0 (by omega) (by omega) rfl
            · refine v_ldc2 (n := 31) hC dX4_digest_43 kl_X4_266 rfl (ckL_ok rfl) ?_
              refine w_ll1 hC dX4_digest_46 ?_
              refine v_lmul hC dX4_digest_47 ?_
              refine w_al0 hC dX4_digest_48 ?_
              refine v_getR (off := 1) (j := 40) hC dX4_digest_49 fd_X4_7 rfl rfl rfl ?_
              refine w_ic hC dX4_digest_52 rfl ?_
              refine w_il3 hC dX4_digest_53 ?_
              refine w_iadd hC dX4_digest_54 (ri_mk (by omega) (by omega)) ?_
              refine w_ialdk hC 127 (4 + q1) dX4_digest_55 rfl rfl (by omega) (by omega) ?_
              refine v_i2l hC dX4_digest_56 ?_
              refine v_ladd hC dX4_digest_57 ?_
              refine w_ls1 hC dX4_digest_58 hN (by first | rfl | assumption) ?_
              refine v_ldc2 (n := 31) hC dX4_digest_59 kl_X4_266 rfl (ckL_ok rfl) ?_
              refine w_ll1 hC dX4_digest_62 ?_
              refine v_lmul hC dX4_digest_63 ?_
              refine w_al0 hC dX4_digest_64 ?_
              refine v_getR (off := 1) (j := 40) hC dX4_digest_65 fd_X4_7 rfl rfl rfl ?_
              refine v_bipush hC dX4_digest_68 (by decide) ?_
              refine w_il3 hC dX4_digest_70 ?_
              refine w_iadd hC dX4_digest_71 (ri_mk (by omega) (by omega)) ?_
              refine w_ialdk hC 127 (12 + q1) dX4_digest_72 rfl rfl (by omega) (by omega) ?_
              refine v_i2l hC dX4_digest_73 ?_
              refine v_ladd hC dX4_digest_74 ?_
              refine w_ls1 hC dX4_digest_75 hN (by first | rfl | assumption) ?_
              refine v_ldc2 (n := 31) hC dX4_digest_76 kl_X4_266 rfl (ckL_ok rfl) ?_
              refine w_ll1 hC dX4_digest_79 ?_
              refine v_lmul hC dX4_digest_80 ?_
              refine w_al0 hC dX4_digest_81 ?_
              refine v_getR (off := 1) (j := 40) hC dX4_digest_82 fd_X4_7 rfl rfl rfl ?_
              refine v_bipush hC dX4_digest_85 (by decide) ?_
              refine w_il3 hC dX4_digest_87 ?_
              refine w_iadd hC dX4_digest_88 (ri_mk (by omega) (by omega)) ?_
              refine w_ialdk hC 127 (20 + q1) dX4_digest_89 rfl rfl (by omega) (by omega) ?_
              refine v_i2l hC dX4_digest_90 ?_
              refine v_ladd hC dX4_digest_91 ?_
              refine w_ls1 hC dX4_digest_92 hN (by first | rfl | assumption) ?_
              refine w_inc3 hC dX4_digest_93 hN (by first | rfl | assumption) (ri_mk (by omega) (by omega)) ?_
              refine v_goto (tgt := 33) hC dX4_digest_96 rfl ?_
              refine w_dr2 ?_
              exact ih33 _ (q1 + 1) (by omega) (by omega) (by rw [hz1]; rfl)
        exact lp33 (n3 + 1) _ 0 (by omega) (by omega) rfl
      · refine v_ldc2 (n := 31) hC dX4_digest_12 kl_X4_266 rfl (ckL_ok rfl) ?_
        refine w_ll1 hC dX4_digest_15 ?_
        refine v_lmul hC dX4_digest_16 ?_
        refine w_al0 hC dX4_digest_17 ?_
        refine w_il3 hC dX4_digest_18 ?_
        refine w_vi1 hC vi_X4_261 rfl dX4_digest_19 rfl hN (d_counted hA ⟨by omega, by omega⟩ ?_)
        refine v_i2l hC dX4_digest_22 ?_
        refine v_ladd hC dX4_digest_23 ?_
        refine w_ls1 hC dX4_digest_24 hN (by first | rfl | assumption) ?_
        refine w_inc3 hC dX4_digest_25 hN (by first | rfl | assumption) (ri_mk (by omega) (by omega)) ?_
        refine v_goto (tgt := 6) hC dX4_digest_28 rfl ?_
        refine w_dr2 ?_
        exact ih6 _ (q0 + 1) (by omega) (by omega) (hF_s hz0 rfl)
  exact lp6 (11 + 1) _ 0 (by omega) (by omega) rfl
