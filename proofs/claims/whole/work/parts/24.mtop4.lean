theorem d_emptyLine {d : Nat} {w : Wd} {Q : Option MV → Wd → Prop} (hA : AOK (w 40)) (hQ : Q (some (.inl (feL (w 40)))) w) : Call (d + 0) mX4_emptyLine [vR 39] w Q := by
  have am := hA.m
  have an := hA.n
  have af := hA.f
  have anc := hA.nc
  have amc := hA.mc
  have auc := hA.uc
  refine call_in (ls := [some (vR 39), none]) (by decide +kernel) rfl (Nat.le_of_ble_eq_true rfl) (fun κ hC hR hN => ?_)
  have hC : ctxB κ RX4 cX4_emptyLine (d + 0) := hC
  have hN : mlx κ 2 := hN
  refine w_ic hC dX4_emptyLine_0 rfl ?_
  refine w_is1 hC dX4_emptyLine_1 hN (by first | rfl | assumption) ?_
  have lp2 : ∀ (K : Nat) (j : Nat), ((w 40 1).toNat - j) < K → ((j : Int) ≤ w 40 1) → (∀ i : Nat, i < j → ¬ wOn (w 40) i = -1) → VV κ 2 [some (vR 39), some (vI (j : Int))] [] w := by
    intro K
    induction K with
    | zero => intros; omega
    | succ K ih2 =>
      intro j hm2 hj hi
      have hwo : (j : Int) < w 40 1 → wOn (w 40) j = w 40 (28 + j) := fun h => wOn_n h
      refine w_il1 hC dX4_emptyLine_2 ?_
      refine w_al0 hC dX4_emptyLine_3 ?_
      refine v_getR (off := 1) (j := 40) hC dX4_emptyLine_4 fd_X4_7 rfl rfl rfl ?_
      refine w_ic hC dX4_emptyLine_7 rfl ?_
      refine w_ialdk hC 127 (1) dX4_emptyLine_8 rfl rfl (by omega) (by omega) ?_
      refine v_ic_ge (tgt := 33) hC dX4_emptyLine_9 rfl (fun h9 => ?_) (fun h9 => ?_)
      · refine w_ic hC dX4_emptyLine_33 rfl ?_
        refine v_iret hC hR dX4_emptyLine_34 ?_
        exact qz (fstI_no (fun i h => hi i (by omega))) hQ
      · refine w_al0 hC dX4_emptyLine_12 ?_
        refine v_getR (off := 1) (j := 40) hC dX4_emptyLine_13 fd_X4_7 rfl rfl rfl ?_
        refine v_bipush hC dX4_emptyLine_16 (by decide) ?_
        refine w_il1 hC dX4_emptyLine_18 ?_
        refine w_iadd hC dX4_emptyLine_19 (ri_mk (by omega) (by omega)) ?_
        refine w_ialdk hC 127 (28 + j) dX4_emptyLine_20 rfl rfl (by omega) (by omega) ?_
        refine w_ic hC dX4_emptyLine_21 rfl ?_
        refine v_ic_ne (tgt := 27) hC dX4_emptyLine_22 rfl (fun h22 => ?_) (fun h22 => ?_)
        · refine w_inc1 hC dX4_emptyLine_27 hN (by first | rfl | assumption) (ri_mk (by omega) (by omega)) ?_
          refine v_goto (tgt := 2) hC dX4_emptyLine_30 rfl ?_
          exact ih2 (j + 1) (by omega) (by omega) (lt_s hi (by omega))
        · refine w_il1 hC dX4_emptyLine_25 ?_
          refine v_iret hC hR dX4_emptyLine_26 ?_
          exact qz (fstI_at (by omega) (by omega) hi) hQ
  exact lp2 ((w 40 1).toNat + 1) 0 (by omega) (by omega) (fun i h => by omega)

theorem d_gets {d : Nat} {w : Wd} {Q : Option MV → Wd → Prop} (hA : AOK (w 40)) {j o t : Int} (hj : 0 ≤ j ∧ j ≤ 5) (ho : 0 ≤ o ∧ o < w 40 3) (ht : 0 ≤ t ∧ t < w 40 3) (hQ : Q (some (.inl (gnV (w 40) j o t))) w) : Call (d + 4) mX4_gets [vR 39, vI j, vI o, vI t] w Q := by
  have am := hA.m
  have an := hA.n
  have af := hA.f
  have anc := hA.nc
  have amc := hA.mc
  have auc := hA.uc
  refine call_in (ls := [some (vR 39), some (vI j), some (vI o), some (vI t), none, none, none, none]) (by decide +kernel) rfl (Nat.le_of_ble_eq_true rfl) (fun κ hC hR hN => ?_)
  have hC : ctxB κ RX4 cX4_gets (d + 4) := hC
  have hN : mlx κ 8 := hN
  refine w_il2 hC dX4_gets_0 ?_
  refine w_il3 hC dX4_gets_1 ?_
  refine v_ic_ne (tgt := 7) hC dX4_gets_2 rfl (fun h2 => ?_) (fun h2 => ?_)
  · refine w_al0 hC dX4_gets_7 ?_
    refine w_al0 hC dX4_gets_8 ?_
    refine v_getR (off := 1) (j := 40) hC dX4_gets_9 fd_X4_7 rfl rfl rfl ?_
    refine w_ic hC dX4_gets_12 rfl ?_
    refine w_ialdk hC 127 (0) dX4_gets_13 rfl rfl (by omega) (by omega) ?_
    refine w_il2 hC dX4_gets_14 ?_
    refine w_il1 hC dX4_gets_15 ?_
    refine w_vi3 hC vi_X4_168 rfl dX4_gets_16 rfl hN (d_isFit hA ho hj (fun g1 => ?_) (fun g1 => ?_))
    · refine w_is4 hC dX4_gets_19 hN (by first | rfl | assumption) ?_
      refine w_al0 hC dX4_gets_21 ?_
      refine w_al0 hC dX4_gets_22 ?_
      refine v_getR (off := 1) (j := 40) hC dX4_gets_23 fd_X4_7 rfl rfl rfl ?_
      refine w_ic hC dX4_gets_26 rfl ?_
      refine w_ialdk hC 127 (0) dX4_gets_27 rfl rfl (by omega) (by omega) ?_
      refine w_il3 hC dX4_gets_28 ?_
      refine w_il1 hC dX4_gets_29 ?_
      refine w_vi3 hC vi_X4_168 rfl dX4_gets_30 rfl hN (d_isFit hA ht hj (fun g2 => ?_) (fun g2 => ?_))
      · refine w_is5 hC dX4_gets_33 hN (by first | rfl | assumption) ?_
        refine w_al0 hC dX4_gets_35 ?_
        refine w_il3 hC dX4_gets_36 ?_
        refine w_il1 hC dX4_gets_37 ?_
        refine w_vi2 hC vi_X4_187 rfl dX4_gets_38 rfl hN (d_cost hA ht hj ?_)
        have r1 := csB_q hA ht hj
        have r2 := csB_q hA ho hj
        refine w_al0 hC dX4_gets_41 ?_
        refine w_il2 hC dX4_gets_42 ?_
        refine w_il1 hC dX4_gets_43 ?_
        refine w_vi2 hC vi_X4_187 rfl dX4_gets_44 rfl hN (d_cost hA ho hj ?_)
        refine w_isub hC dX4_gets_47 (ri_mk (by omega) (by omega)) ?_
        refine w_is6 hC dX4_gets_48 hN (by first | rfl | assumption) ?_
        refine w_il4 hC dX4_gets_50 ?_
        refine v_if_eq (tgt := 79) hC dX4_gets_52 rfl (fun h => absurd h (by decide)) (fun _ => ?_)
        refine w_il5 hC dX4_gets_55 ?_
        refine v_if_eq (tgt := 75) hC dX4_gets_57 rfl (fun h => absurd h (by decide)) (fun _ => ?_)
        refine w_il6 hC dX4_gets_60 ?_
        refine v_if_gt (tgt := 75) hC dX4_gets_62 rfl (fun h62 => ?_) (fun h62 => ?_)
        · refine w_ic hC dX4_gets_75 rfl ?_
          refine v_goto (tgt := 80) hC dX4_gets_76 rfl ?_
          refine w_is7 hC dX4_gets_80 hN (by first | rfl | assumption) ?_
          refine w_il7 hC dX4_gets_82 ?_
          refine v_if_eq (tgt := 99) hC dX4_gets_84 rfl (fun h => absurd h (by decide)) (fun _ => ?_)
          refine v_bipush hC dX4_gets_87 (by decide) ?_
          refine w_al0 hC dX4_gets_89 ?_
          refine w_il2 hC dX4_gets_90 ?_
          refine w_il1 hC dX4_gets_91 ?_
          refine w_vi2 hC vi_X4_187 rfl dX4_gets_92 rfl hN (d_cost hA ho hj ?_)
          refine w_isub hC dX4_gets_95 (ri_mk (by omega) (by omega)) ?_
          refine v_goto (tgt := 100) hC dX4_gets_96 rfl ?_
          refine v_iret hC hR dX4_gets_100 ?_
          first | exact qz (gnV_1 h2) hQ | exact qz (gnV_2 h2 g1) hQ | exact qz (gnV_3 h2 g1 (by omega)) hQ | exact qz (gnV_4 h2 g1 g2) hQ | exact qz (gnV_5 h2 g2 (by omega)) hQ
        · refine w_il6 hC dX4_gets_65 ?_
          refine v_if_ne (tgt := 79) hC dX4_gets_67 rfl (fun h67 => ?_) (fun h67 => ?_)
          · refine w_ic hC dX4_gets_79 rfl ?_
            refine w_is7 hC dX4_gets_80 hN (by first | rfl | assumption) ?_
            refine w_il7 hC dX4_gets_82 ?_
            refine v_if_eq (tgt := 99) hC dX4_gets_84 rfl (fun _ => ?_) (fun h => absurd h (by decide))
            refine w_ic hC dX4_gets_99 rfl ?_
            refine v_iret hC hR dX4_gets_100 ?_
            first | exact qz (gnV_1 h2) hQ | exact qz (gnV_2 h2 g1) hQ | exact qz (gnV_3 h2 g1 (by omega)) hQ | exact qz (gnV_4 h2 g1 g2) hQ | exact qz (gnV_5 h2 g2 (by omega)) hQ
          · refine w_il2 hC dX4_gets_70 ?_
            refine w_il3 hC dX4_gets_71 ?_
            refine v_ic_ge (tgt := 79) hC dX4_gets_72 rfl (fun h72 => ?_) (fun h72 => ?_)
            · refine w_ic hC dX4_gets_79 rfl ?_
              refine w_is7 hC dX4_gets_80 hN (by first | rfl | assumption) ?_
              refine w_il7 hC dX4_gets_82 ?_
              refine v_if_eq (tgt := 99) hC dX4_gets_84 rfl (fun _ => ?_) (fun h => absurd h (by decide))
              refine w_ic hC dX4_gets_99 rfl ?_
              refine v_iret hC hR dX4_gets_100 ?_
              first | exact qz (gnV_1 h2) hQ | exact qz (gnV_2 h2 g1) hQ | exact qz (gnV_3 h2 g1 (by omega)) hQ | exact qz (gnV_4 h2 g1 g2) hQ | exact qz (gnV_5 h2 g2 (by omega)) hQ
            · refine w_ic hC dX4_gets_75 rfl ?_
              refine v_goto (tgt := 80) hC dX4_gets_76 rfl ?_
              refine w_is7 hC dX4_gets_80 hN (by first | rfl | assumption) ?_
              refine w_il7 hC dX4_gets_82 ?_
              refine v_if_eq (tgt := 99) hC dX4_gets_84 rfl (fun h => absurd h (by decide)) (fun _ => ?_)
              refine v_bipush hC dX4_gets_87 (by decide) ?_
              refine w_al0 hC dX4_gets_89 ?_
              refine w_il2 hC dX4_gets_90 ?_
              refine w_il1 hC dX4_gets_91 ?_
              refine w_vi2 hC vi_X4_187 rfl dX4_gets_92 rfl hN (d_cost hA ho hj ?_)
              refine w_isub hC dX4_gets_95 (ri_mk (by omega) (by omega)) ?_
              refine v_goto (tgt := 100) hC dX4_gets_96 rfl ?_
              refine v_iret hC hR dX4_gets_100 ?_
              first | exact qz (gnV_1 h2) hQ | exact qz (gnV_2 h2 g1) hQ | exact qz (gnV_3 h2 g1 (by omega)) hQ | exact qz (gnV_4 h2 g1 g2) hQ | exact qz (gnV_5 h2 g2 (by omega)) hQ
      · refine w_is5 hC dX4_gets_33 hN (by first | rfl | assumption) ?_
        refine w_al0 hC dX4_gets_35 ?_
        refine w_il3 hC dX4_gets_36 ?_
        refine w_il1 hC dX4_gets_37 ?_
        refine w_vi2 hC vi_X4_187 rfl dX4_gets_38 rfl hN (d_cost hA ht hj ?_)
        have r1 := csB_q hA ht hj
        have r2 := csB_q hA ho hj
        refine w_al0 hC dX4_gets_41 ?_
        refine w_il2 hC dX4_gets_42 ?_
        refine w_il1 hC dX4_gets_43 ?_
        refine w_vi2 hC vi_X4_187 rfl dX4_gets_44 rfl hN (d_cost hA ho hj ?_)
        refine w_isub hC dX4_gets_47 (ri_mk (by omega) (by omega)) ?_
        refine w_is6 hC dX4_gets_48 hN (by first | rfl | assumption) ?_
        refine w_il4 hC dX4_gets_50 ?_
        refine v_if_eq (tgt := 79) hC dX4_gets_52 rfl (fun h => absurd h (by decide)) (fun _ => ?_)
        refine w_il5 hC dX4_gets_55 ?_
        refine v_if_eq (tgt := 75) hC dX4_gets_57 rfl (fun _ => ?_) (fun h => absurd h (by decide))
        refine w_ic hC dX4_gets_75 rfl ?_
        refine v_goto (tgt := 80) hC dX4_gets_76 rfl ?_
        refine w_is7 hC dX4_gets_80 hN (by first | rfl | assumption) ?_
        refine w_il7 hC dX4_gets_82 ?_
        refine v_if_eq (tgt := 99) hC dX4_gets_84 rfl (fun h => absurd h (by decide)) (fun _ => ?_)
        refine v_bipush hC dX4_gets_87 (by decide) ?_
        refine w_al0 hC dX4_gets_89 ?_
        refine w_il2 hC dX4_gets_90 ?_
        refine w_il1 hC dX4_gets_91 ?_
        refine w_vi2 hC vi_X4_187 rfl dX4_gets_92 rfl hN (d_cost hA ho hj ?_)
        refine w_isub hC dX4_gets_95 (ri_mk (by omega) (by omega)) ?_
        refine v_goto (tgt := 100) hC dX4_gets_96 rfl ?_
        refine v_iret hC hR dX4_gets_100 ?_
        first | exact qz (gnV_1 h2) hQ | exact qz (gnV_2 h2 g1) hQ | exact qz (gnV_3 h2 g1 (by omega)) hQ | exact qz (gnV_4 h2 g1 g2) hQ | exact qz (gnV_5 h2 g2 (by omega)) hQ
    · refine w_is4 hC dX4_gets_19 hN (by first | rfl | assumption) ?_
      refine w_al0 hC dX4_gets_21 ?_
      refine w_al0 hC dX4_gets_22 ?_
      refine v_getR (off := 1) (j := 40) hC dX4_gets_23 fd_X4_7 rfl rfl rfl ?_
      refine w_ic hC dX4_gets_26 rfl ?_
      refine w_ialdk hC 127 (0) dX4_gets_27 rfl rfl (by omega) (by omega) ?_
      refine w_il3 hC dX4_gets_28 ?_
      refine w_il1 hC dX4_gets_29 ?_
      refine w_vi3 hC vi_X4_168 rfl dX4_gets_30 rfl hN (d_isFit hA ht hj (fun g2 => ?_) (fun g2 => ?_))
      · refine w_is5 hC dX4_gets_33 hN (by first | rfl | assumption) ?_
        refine w_al0 hC dX4_gets_35 ?_
        refine w_il3 hC dX4_gets_36 ?_
        refine w_il1 hC dX4_gets_37 ?_
        refine w_vi2 hC vi_X4_187 rfl dX4_gets_38 rfl hN (d_cost hA ht hj ?_)
        have r1 := csB_q hA ht hj
        have r2 := csB_q hA ho hj
        refine w_al0 hC dX4_gets_41 ?_
        refine w_il2 hC dX4_gets_42 ?_
        refine w_il1 hC dX4_gets_43 ?_
        refine w_vi2 hC vi_X4_187 rfl dX4_gets_44 rfl hN (d_cost hA ho hj ?_)
        refine w_isub hC dX4_gets_47 (ri_mk (by omega) (by omega)) ?_
        refine w_is6 hC dX4_gets_48 hN (by first | rfl | assumption) ?_
        refine w_il4 hC dX4_gets_50 ?_
        refine v_if_eq (tgt := 79) hC dX4_gets_52 rfl (fun _ => ?_) (fun h => absurd h (by decide))
        refine w_ic hC dX4_gets_79 rfl ?_
        refine w_is7 hC dX4_gets_80 hN (by first | rfl | assumption) ?_
        refine w_il7 hC dX4_gets_82 ?_
        refine v_if_eq (tgt := 99) hC dX4_gets_84 rfl (fun _ => ?_) (fun h => absurd h (by decide))
        refine w_ic hC dX4_gets_99 rfl ?_
        refine v_iret hC hR dX4_gets_100 ?_
        first | exact qz (gnV_1 h2) hQ | exact qz (gnV_2 h2 g1) hQ | exact qz (gnV_3 h2 g1 (by omega)) hQ | exact qz (gnV_4 h2 g1 g2) hQ | exact qz (gnV_5 h2 g2 (by omega)) hQ
      · refine w_is5 hC dX4_gets_33 hN (by first | rfl | assumption) ?_
        refine w_al0 hC dX4_gets_35 ?_
        refine w_il3 hC dX4_gets_36 ?_
        refine w_il1 hC dX4_gets_37 ?_
        refine w_vi2 hC vi_X4_187 rfl dX4_gets_38 rfl hN (d_cost hA ht hj ?_)
        have r1 := csB_q hA ht hj
        have r2 := csB_q hA ho hj
        refine w_al0 hC dX4_gets_41 ?_
        refine w_il2 hC dX4_gets_42 ?_
        refine w_il1 hC dX4_gets_43 ?_
        refine w_vi2 hC vi_X4_187 rfl dX4_gets_44 rfl hN (d_cost hA ho hj ?_)
        refine w_isub hC dX4_gets_47 (ri_mk (by omega) (by omega)) ?_
        refine w_is6 hC dX4_gets_48 hN (by first | rfl | assumption) ?_
        refine w_il4 hC dX4_gets_50 ?_
        refine v_if_eq (tgt := 79) hC dX4_gets_52 rfl (fun _ => ?_) (fun h => absurd h (by decide))
        refine w_ic hC dX4_gets_79 rfl ?_
        refine w_is7 hC dX4_gets_80 hN (by first | rfl | assumption) ?_
        refine w_il7 hC dX4_gets_82 ?_
        refine v_if_eq (tgt := 99) hC dX4_gets_84 rfl (fun _ => ?_) (fun h => absurd h (by decide))
        refine w_ic hC dX4_gets_99 rfl ?_
        refine v_iret hC hR dX4_gets_100 ?_
        first | exact qz (gnV_1 h2) hQ | exact qz (gnV_2 h2 g1) hQ | exact qz (gnV_3 h2 g1 (by omega)) hQ | exact qz (gnV_4 h2 g1 g2) hQ | exact qz (gnV_5 h2 g2 (by omega)) hQ
  · refine w_ic hC dX4_gets_5 rfl ?_
    refine v_iret hC hR dX4_gets_6 ?_
    first | exact qz (gnV_1 h2) hQ | exact qz (gnV_2 h2 g1) hQ | exact qz (gnV_3 h2 g1 (by omega)) hQ | exact qz (gnV_4 h2 g1 g2) hQ | exact qz (gnV_5 h2 g2 (by omega)) hQ

theorem d_isRest {d : Nat} {w : Wd} {Q : Option MV → Wd → Prop} (hA : AOK (w 40)) {l o t : Int} (hl : 0 ≤ l ∧ l ≤ 5) (ho : 0 ≤ o ∧ o < w 40 3) (ht : 0 ≤ t ∧ t < w 40 3) (hy : (∀ k : Nat, (k : Int) < w 40 3 → lnOf (w 40) k = -1 → gnV (w 40) l k t ≤ gnV (w 40) l o t) → Q (some (.inl 1)) w) (hn : ¬ (∀ k : Nat, (k : Int) < w 40 3 → lnOf (w 40) k = -1 → gnV (w 40) l k t ≤ gnV (w 40) l o t) → Q (some (.inl 0)) w) : Call (d + 5) mX4_isRest [vR 39, vI l, vI o, vI t] w Q := by
  have am := hA.m
  have an := hA.n
  have af := hA.f
  have anc := hA.nc
  have amc := hA.mc
  have auc := hA.uc
  refine call_in (ls := [some (vR 39), some (vI l), some (vI o), some (vI t), none, none]) (by decide +kernel) rfl (Nat.le_of_ble_eq_true rfl) (fun κ hC hR hN => ?_)
  have hC : ctxB κ RX4 cX4_isRest (d + 5) := hC
  have hN : mlx κ 6 := hN
  refine w_ic hC dX4_isRest_0 rfl ?_
  refine w_is4 hC dX4_isRest_1 hN (by first | rfl | assumption) ?_
  refine w_ic hC dX4_isRest_3 rfl ?_
  refine w_is5 hC dX4_isRest_4 hN (by first | rfl | assumption) ?_
  have lp6 : ∀ (K : Nat) (z : Int) (k : Nat), ((w 40 3).toNat - k) < K → ((k : Int) ≤ w 40 3) → (AGZ (fun k : Nat => lnOf (w 40) k = -1 → gnV (w 40) l k t ≤ gnV (w 40) l o t) z k) → VV κ 6 [some (vR 39), some (vI l), some (vI o), some (vI t), some (vI z), some (vI (k : Int))] [] w := by
    intro K
    induction K with
    | zero => intros; omega
    | succ K ih6 =>
      intro z k hm6 hk hz
      refine w_il5 hC dX4_isRest_6 ?_
      refine w_al0 hC dX4_isRest_8 ?_
      refine v_getR (off := 1) (j := 40) hC dX4_isRest_9 fd_X4_7 rfl rfl rfl ?_
      refine w_ic hC dX4_isRest_12 rfl ?_
      refine w_ialdk hC 127 (3) dX4_isRest_13 rfl rfl (by omega) (by omega) ?_
      refine v_ic_ge (tgt := 66) hC dX4_isRest_14 rfl (fun h14 => ?_) (fun h14 => ?_)
      · have hag := agz_e (R := ∀ k : Nat, (k : Int) < w 40 3 → lnOf (w 40) k = -1 → gnV (w 40) l k t ≤ gnV (w 40) l o t) hz ⟨fun q i hi => q i (by omega), fun q i hi => q i (by omega)⟩
        refine w_il4 hC dX4_isRest_66 ?_
        refine v_zret hC hR dX4_isRest_68 (by rcases hag with q | q <;> omega) ?_
        rcases hag with ⟨rfl, q⟩ | ⟨rfl, q⟩
        · exact hy q
        · exact hn q
      · refine w_il4 hC dX4_isRest_17 ?_
        refine v_if_eq (tgt := 57) hC dX4_isRest_19 rfl (fun h19 => ?_) (fun h19 => ?_)
        · refine w_ic hC dX4_isRest_57 rfl ?_
          refine w_is4 hC dX4_isRest_58 hN (by first | rfl | assumption) ?_
          refine w_inc5 hC dX4_isRest_60 hN (by first | rfl | assumption) (ri_mk (by omega) (by omega)) ?_
          refine v_goto (tgt := 6) hC dX4_isRest_63 rfl ?_
          first | exact ih6 1 (k + 1) (by omega) (by omega) (agz_t hz h19 (fun q => absurd q h32)) | exact ih6 1 (k + 1) (by omega) (by omega) (agz_t hz h19 (fun _ => by omega)) | exact ih6 0 (k + 1) (by omega) (by omega) (agz_f hz h19) | exact ih6 0 (k + 1) (by omega) (by omega) (agz_n (P := fun k : Nat => lnOf (w 40) k = -1 → gnV (w 40) l k t ≤ gnV (w 40) l o t) (fun q => by have := q (by omega); omega))
        · refine w_al0 hC dX4_isRest_22 ?_
          refine v_getR (off := 1) (j := 40) hC dX4_isRest_23 fd_X4_7 rfl rfl rfl ?_
          refine w_il5 hC dX4_isRest_26 ?_
          refine w_st2 hC st_X4_114 dX4_isRest_28 rfl hN (d_lineOf rfl rfl am ?_)
          rw [lnL_eq hA (show 0 ≤ (k : Int) by omega)]
          refine w_ic hC dX4_isRest_31 rfl ?_
          refine v_ic_ne (tgt := 53) hC dX4_isRest_32 rfl (fun h32 => ?_) (fun h32 => ?_)
          · refine w_ic hC dX4_isRest_53 rfl ?_
            refine v_goto (tgt := 58) hC dX4_isRest_54 rfl ?_
            refine w_is4 hC dX4_isRest_58 hN (by first | rfl | assumption) ?_
            refine w_inc5 hC dX4_isRest_60 hN (by first | rfl | assumption) (ri_mk (by omega) (by omega)) ?_
            refine v_goto (tgt := 6) hC dX4_isRest_63 rfl ?_
            first | exact ih6 1 (k + 1) (by omega) (by omega) (agz_t hz h19 (fun q => absurd q h32)) | exact ih6 1 (k + 1) (by omega) (by omega) (agz_t hz h19 (fun _ => by omega)) | exact ih6 0 (k + 1) (by omega) (by omega) (agz_f hz h19) | exact ih6 0 (k + 1) (by omega) (by omega) (agz_n (P := fun k : Nat => lnOf (w 40) k = -1 → gnV (w 40) l k t ≤ gnV (w 40) l o t) (fun q => by have := q (by omega); omega))
          · refine w_al0 hC dX4_isRest_35 ?_
            refine w_il1 hC dX4_isRest_36 ?_
            refine w_il5 hC dX4_isRest_37 ?_
            refine w_il3 hC dX4_isRest_39 ?_
            refine w_vi3 hC vi_X4_225 rfl dX4_isRest_40 rfl hN (d_gets hA hl ⟨by omega, by omega⟩ ht ?_)
            refine w_al0 hC dX4_isRest_43 ?_
            refine w_il1 hC dX4_isRest_44 ?_
            refine w_il2 hC dX4_isRest_45 ?_
            refine w_il3 hC dX4_isRest_46 ?_
            refine w_vi3 hC vi_X4_225 rfl dX4_isRest_47 rfl hN (d_gets hA hl ho ht ?_)
            refine v_ic_gt (tgt := 57) hC dX4_isRest_50 rfl (fun h50 => ?_) (fun h50 => ?_)
            · refine w_ic hC dX4_isRest_57 rfl ?_
              refine w_is4 hC dX4_isRest_58 hN (by first | rfl | assumption) ?_
              refine w_inc5 hC dX4_isRest_60 hN (by first | rfl | assumption) (ri_mk (by omega) (by omega)) ?_
              refine v_goto (tgt := 6) hC dX4_isRest_63 rfl ?_
              first | exact ih6 1 (k + 1) (by omega) (by omega) (agz_t hz h19 (fun q => absurd q h32)) | exact ih6 1 (k + 1) (by omega) (by omega) (agz_t hz h19 (fun _ => by omega)) | exact ih6 0 (k + 1) (by omega) (by omega) (agz_f hz h19) | exact ih6 0 (k + 1) (by omega) (by omega) (agz_n (P := fun k : Nat => lnOf (w 40) k = -1 → gnV (w 40) l k t ≤ gnV (w 40) l o t) (fun q => by have := q (by omega); omega))
            · refine w_ic hC dX4_isRest_53 rfl ?_
              refine v_goto (tgt := 58) hC dX4_isRest_54 rfl ?_
              refine w_is4 hC dX4_isRest_58 hN (by first | rfl | assumption) ?_
              refine w_inc5 hC dX4_isRest_60 hN (by first | rfl | assumption) (ri_mk (by omega) (by omega)) ?_
              refine v_goto (tgt := 6) hC dX4_isRest_63 rfl ?_
              first | exact ih6 1 (k + 1) (by omega) (by omega) (agz_t hz h19 (fun q => absurd q h32)) | exact ih6 1 (k + 1) (by omega) (by omega) (agz_t hz h19 (fun _ => by omega)) | exact ih6 0 (k + 1) (by omega) (by omega) (agz_f hz h19) | exact ih6 0 (k + 1) (by omega) (by omega) (agz_n (P := fun k : Nat => lnOf (w 40) k = -1 → gnV (w 40) l k t ≤ gnV (w 40) l o t) (fun q => by have := q (by omega); omega))
  exact lp6 ((w 40 3).toNat + 1) 1 0 (by omega) (by omega) (agz_0 _)

theorem d_poets {d : Nat} {w : Wd} {Q : Option MV → Wd → Prop} (hA : AOK (w 40)) {k : Int} (hb0 : k < -1 → Q (some (.inl (-10))) (cI w 44 0)) (hk1 : -1 ≤ k → feL (w 40) ≠ -1 → ∀ e : Nat, e < 78 → poP (w 40) (feL (w 40)) e → (cnP (poP (w 40) (feL (w 40))) e : Int) = k → Q (some (.inl (e : Int))) w) (hk0 : -1 ≤ k → feL (w 40) ≠ -1 → (∀ e : Nat, e < 78 → poP (w 40) (feL (w 40)) e → ¬ (cnP (poP (w 40) (feL (w 40))) e : Int) = k) → Q (some (.inl (if k = -1 then (cnP (poP (w 40) (feL (w 40))) 78 : Int) else -5))) w) (hkn : -1 ≤ k → feL (w 40) = -1 → Q (some (.inl (if k = -1 then 0 else -5))) w) : Call (d + 6) mX4_poets [vR 39, vI k] w Q := by
  have am := hA.m
  have an := hA.n
  have af := hA.f
  have anc := hA.nc
  have amc := hA.mc
  have auc := hA.uc
  refine call_in (ls := [some (vR 39), some (vI k), none, none, none, none, none, none]) (by decide +kernel) rfl (Nat.le_of_ble_eq_true rfl) (fun κ hC hR hN => ?_)
  have hC : ctxB κ RX4 cX4_poets (d + 6) := hC
  have hN : mlx κ 8 := hN
  refine w_il1 hC dX4_poets_0 ?_
  refine w_ic hC dX4_poets_1 rfl ?_
  refine v_ic_ge (tgt := 12) hC dX4_poets_2 rfl (fun h2 => ?_) (fun h2 => ?_)
  · refine w_al0 hC dX4_poets_12 ?_
    refine w_vi0 hC vi_X4_228 rfl dX4_poets_13 rfl hN (d_emptyLine hA ?_)
    have hfe := feL_r hA
    refine w_is2 hC dX4_poets_16 hN (by first | rfl | assumption) ?_
    refine w_ic hC dX4_poets_17 rfl ?_
    refine w_is3 hC dX4_poets_18 hN (by first | rfl | assumption) ?_
    refine w_ic hC dX4_poets_19 rfl ?_
    refine w_is4 hC dX4_poets_20 hN (by first | rfl | assumption) ?_
    refine w_dr5 ?_
    refine w_dr6 ?_
    refine w_dr7 ?_
    have lp22 : ∀ (K : Nat) (r : Int) (c : Nat), (78 - c) < K → (c ≤ 78) → (feL (w 40) ≠ -1 → r = (cnP (poP (w 40) (feL (w 40))) c : Int)) → (feL (w 40) = -1 → r = 0 ∧ c = 0) → (∀ e : Nat, e < c → poP (w 40) (feL (w 40)) e → ¬ (cnP (poP (w 40) (feL (w 40))) e : Int) = k) → VV κ 22 [some (vR 39), some (vI k), some (vI (feL (w 40))), some (vI r), some (vI (c : Int)), none, none, none] [] w := by
      intro K
      induction K with
      | zero => intros; omega
      | succ K ih22 =>
        intro r c hm22 hc hr hr0 hx
        have hcl := cnP_le (poP (w 40) (feL (w 40))) c
        have hrr : 0 ≤ r ∧ r ≤ 78 := by
          by_cases q : feL (w 40) = -1
          · have := hr0 q; omega
          · have := hr q; omega
        refine w_il4 hC dX4_poets_22 ?_
        refine v_bipush hC dX4_poets_24 (by decide) ?_
        refine v_ic_ge (tgt := 145) hC dX4_poets_26 rfl (fun h26 => ?_) (fun h26 => ?_)
        · refine w_il1 hC dX4_poets_145 ?_
          refine w_ic hC dX4_poets_146 rfl ?_
          refine v_ic_ne (tgt := 154) hC dX4_poets_147 rfl (fun h147 => ?_) (fun h147 => ?_)
          · refine v_bipush hC dX4_poets_154 (by decide) ?_
            refine v_iret hC hR dX4_poets_156 ?_
            by_cases q0 : feL (w 40) = -1
            · obtain ⟨rfl, -⟩ := hr0 q0
              first | exact qz (if_pos (by omega)) (hkn (by omega) q0) | exact qz (if_neg (by omega)) (hkn (by omega) q0)
            · have hc78 : c = 78 := by omega
              subst hc78
              have hk2 := hk0 (by omega) q0 hx
              have hr9 := hr q0
              first | exact qz (by rw [if_pos (by omega)]; omega) hk2 | exact qz (if_neg (by omega)) hk2
          · refine w_il3 hC dX4_poets_150 ?_
            refine v_goto (tgt := 156) hC dX4_poets_151 rfl ?_
            refine v_iret hC hR dX4_poets_156 ?_
            by_cases q0 : feL (w 40) = -1
            · obtain ⟨rfl, -⟩ := hr0 q0
              first | exact qz (if_pos (by omega)) (hkn (by omega) q0) | exact qz (if_neg (by omega)) (hkn (by omega) q0)
            · have hc78 : c = 78 := by omega
              subst hc78
              have hk2 := hk0 (by omega) q0 hx
              have hr9 := hr q0
              first | exact qz (by rw [if_pos (by omega)]; omega) hk2 | exact qz (if_neg (by omega)) hk2
        · refine w_il2 hC dX4_poets_29 ?_
          refine w_ic hC dX4_poets_30 rfl ?_
          refine v_ic_eq (tgt := 145) hC dX4_poets_31 rfl (fun h31 => ?_) (fun h31 => ?_)
          · refine w_il1 hC dX4_poets_145 ?_
            refine w_ic hC dX4_poets_146 rfl ?_
            refine v_ic_ne (tgt := 154) hC dX4_poets_147 rfl (fun h147 => ?_) (fun h147 => ?_)
            · refine v_bipush hC dX4_poets_154 (by decide) ?_
              refine v_iret hC hR dX4_poets_156 ?_
              by_cases q0 : feL (w 40) = -1
              · obtain ⟨rfl, -⟩ := hr0 q0
                first | exact qz (if_pos (by omega)) (hkn (by omega) q0) | exact qz (if_neg (by omega)) (hkn (by omega) q0)
              · have hc78 : c = 78 := by omega
                subst hc78
                have hk2 := hk0 (by omega) q0 hx
                have hr9 := hr q0
                first | exact qz (by rw [if_pos (by omega)]; omega) hk2 | exact qz (if_neg (by omega)) hk2
            · refine w_il3 hC dX4_poets_150 ?_
              refine v_goto (tgt := 156) hC dX4_poets_151 rfl ?_
              refine v_iret hC hR dX4_poets_156 ?_
              by_cases q0 : feL (w 40) = -1
              · obtain ⟨rfl, -⟩ := hr0 q0
                first | exact qz (if_pos (by omega)) (hkn (by omega) q0) | exact qz (if_neg (by omega)) (hkn (by omega) q0)
              · have hc78 : c = 78 := by omega
                subst hc78
                have hk2 := hk0 (by omega) q0 hx
                have hr9 := hr q0
                first | exact qz (by rw [if_pos (by omega)]; omega) hk2 | exact qz (if_neg (by omega)) hk2
          · refine w_il4 hC dX4_poets_34 ?_
            refine v_bipush hC dX4_poets_36 (by decide) ?_
            refine v_idiv_n hC (by omega) (by omega) dX4_poets_38 ?_
            rw [show (c : Int) / 10 = ((c / 10 : Nat) : Int) by omega]
            refine w_is5 hC dX4_poets_39 hN (by first | rfl | assumption) ?_
            refine w_il4 hC dX4_poets_41 ?_
            refine v_bipush hC dX4_poets_43 (by decide) ?_
            refine v_irem_n hC (by omega) (by omega) dX4_poets_45 ?_
            rw [show (c : Int) % 10 = ((c % 10 : Nat) : Int) by omega]
            refine w_is6 hC dX4_poets_46 hN (by first | rfl | assumption) ?_
            refine w_al0 hC dX4_poets_48 ?_
            refine w_il5 hC dX4_poets_49 ?_
            refine w_vi1 hC vi_X4_178 rfl dX4_poets_51 rfl hN (d_isWord hA (fun g1 => ?_) (fun g1 => ?_))
            · refine v_if_eq (tgt := 96) hC dX4_poets_54 rfl (fun h => absurd h (by decide)) (fun _ => ?_)
              refine w_al0 hC dX4_poets_57 ?_
              refine w_il6 hC dX4_poets_58 ?_
              refine w_vi1 hC vi_X4_178 rfl dX4_poets_60 rfl hN (d_isWord hA (fun g2 => ?_) (fun g2 => ?_))
              · refine v_if_eq (tgt := 96) hC dX4_poets_63 rfl (fun h => absurd h (by decide)) (fun _ => ?_)
                refine w_al0 hC dX4_poets_66 ?_
                refine v_getR (off := 1) (j := 40) hC dX4_poets_67 fd_X4_7 rfl rfl rfl ?_
                refine w_il5 hC dX4_poets_70 ?_
                refine w_st2 hC st_X4_114 dX4_poets_72 rfl hN (d_lineOf rfl rfl am ?_)
                rw [lnL_eq hA g1.1]
                refine w_ic hC dX4_poets_75 rfl ?_
                refine v_ic_ne (tgt := 96) hC dX4_poets_76 rfl (fun h76 => ?_) (fun h76 => ?_)
                · refine w_ic hC dX4_poets_96 rfl ?_
                  refine w_is7 hC dX4_poets_97 hN (by first | rfl | assumption) ?_
                  refine w_il7 hC dX4_poets_99 ?_
                  refine v_if_eq (tgt := 139) hC dX4_poets_101 rfl (fun _ => ?_) (fun h => absurd h (by decide))
                  first
                  | (have hno : ¬ poP (w 40) (feL (w 40)) c := fun z => g4 (fun q hq hq2 => (z.2.2 q hq hq2).2))
                  | (have hno : ¬ poP (w 40) (feL (w 40)) c := fun z => g3 (fun q hq hq2 => (z.2.2 q hq hq2).1))
                  | (have hno : ¬ poP (w 40) (feL (w 40)) c := fun z => h89 z.2.1.2)
                  | (have hno : ¬ poP (w 40) (feL (w 40)) c := fun z => h76 z.2.1.1)
                  | (have hno : ¬ poP (w 40) (feL (w 40)) c := fun z => g2 ⟨by omega, z.1.2⟩)
                  | (have hno : ¬ poP (w 40) (feL (w 40)) c := fun z => g1 ⟨by omega, z.1.1⟩)
                  | skip
                  refine w_inc4 hC dX4_poets_139 hN (by first | rfl | assumption) (ri_mk (by omega) (by omega)) ?_
                  refine v_goto (tgt := 22) hC dX4_poets_142 rfl ?_
                  refine w_dr5 ?_
                  refine w_dr6 ?_
                  refine w_dr7 ?_
                  first
                    | exact ih22 _ (c + 1) (by omega) (by omega) (fun q => by rw [cnP_t hpo]; have := hr q; omega) (fun q => absurd q (by omega)) (lt_s hx (fun _ => hnk))
                    | exact ih22 _ (c + 1) (by omega) (by omega) (fun q => by rw [cnP_f hno]; exact hr q) (fun q => absurd q (by omega)) (lt_s hx (fun q => absurd q hno))
                · refine w_al0 hC dX4_poets_79 ?_
                  refine v_getR (off := 1) (j := 40) hC dX4_poets_80 fd_X4_7 rfl rfl rfl ?_
                  refine w_il6 hC dX4_poets_83 ?_
                  refine w_st2 hC st_X4_114 dX4_poets_85 rfl hN (d_lineOf rfl rfl am ?_)
                  rw [lnL_eq hA g2.1]
                  refine w_ic hC dX4_poets_88 rfl ?_
                  refine v_ic_ne (tgt := 96) hC dX4_poets_89 rfl (fun h89 => ?_) (fun h89 => ?_)
                  · refine w_ic hC dX4_poets_96 rfl ?_
                    refine w_is7 hC dX4_poets_97 hN (by first | rfl | assumption) ?_
                    refine w_il7 hC dX4_poets_99 ?_
                    refine v_if_eq (tgt := 139) hC dX4_poets_101 rfl (fun _ => ?_) (fun h => absurd h (by decide))
                    first
                    | (have hno : ¬ poP (w 40) (feL (w 40)) c := fun z => g4 (fun q hq hq2 => (z.2.2 q hq hq2).2))
                    | (have hno : ¬ poP (w 40) (feL (w 40)) c := fun z => g3 (fun q hq hq2 => (z.2.2 q hq hq2).1))
                    | (have hno : ¬ poP (w 40) (feL (w 40)) c := fun z => h89 z.2.1.2)
                    | (have hno : ¬ poP (w 40) (feL (w 40)) c := fun z => h76 z.2.1.1)
                    | (have hno : ¬ poP (w 40) (feL (w 40)) c := fun z => g2 ⟨by omega, z.1.2⟩)
                    | (have hno : ¬ poP (w 40) (feL (w 40)) c := fun z => g1 ⟨by omega, z.1.1⟩)
                    | skip
                    refine w_inc4 hC dX4_poets_139 hN (by first | rfl | assumption) (ri_mk (by omega) (by omega)) ?_
                    refine v_goto (tgt := 22) hC dX4_poets_142 rfl ?_
                    refine w_dr5 ?_
                    refine w_dr6 ?_
                    refine w_dr7 ?_
                    first
                      | exact ih22 _ (c + 1) (by omega) (by omega) (fun q => by rw [cnP_t hpo]; have := hr q; omega) (fun q => absurd q (by omega)) (lt_s hx (fun _ => hnk))
                      | exact ih22 _ (c + 1) (by omega) (by omega) (fun q => by rw [cnP_f hno]; exact hr q) (fun q => absurd q (by omega)) (lt_s hx (fun q => absurd q hno))
                  · refine w_ic hC dX4_poets_92 rfl ?_
                    refine v_goto (tgt := 97) hC dX4_poets_93 rfl ?_
                    refine w_is7 hC dX4_poets_97 hN (by first | rfl | assumption) ?_
                    refine w_il7 hC dX4_poets_99 ?_
                    refine v_if_eq (tgt := 139) hC dX4_poets_101 rfl (fun h => absurd h (by decide)) (fun _ => ?_)
                    refine w_al0 hC dX4_poets_104 ?_
                    refine w_il2 hC dX4_poets_105 ?_
                    refine w_il5 hC dX4_poets_106 ?_
                    refine w_il6 hC dX4_poets_108 ?_
                    refine w_vi3 hC vi_X4_231 rfl dX4_poets_110 rfl hN (d_isRest hA ⟨by omega, by omega⟩ g1 g2 (fun g3 => ?_) (fun g3 => ?_))
                    · refine v_if_eq (tgt := 139) hC dX4_poets_113 rfl (fun h => absurd h (by decide)) (fun _ => ?_)
                      refine w_al0 hC dX4_poets_116 ?_
                      refine w_il2 hC dX4_poets_117 ?_
                      refine w_il6 hC dX4_poets_118 ?_
                      refine w_il5 hC dX4_poets_120 ?_
                      refine w_vi3 hC vi_X4_231 rfl dX4_poets_122 rfl hN (d_isRest hA ⟨by omega, by omega⟩ g2 g1 (fun g4 => ?_) (fun g4 => ?_))
                      · refine v_if_eq (tgt := 139) hC dX4_poets_125 rfl (fun h => absurd h (by decide)) (fun _ => ?_)
                        have hpo : poP (w 40) (feL (w 40)) c := ⟨⟨g1.2, g2.2⟩, ⟨by omega, by omega⟩, fun q hq hq2 => ⟨g3 q hq hq2, g4 q hq hq2⟩⟩
                        have hrq := hr (by omega)
                        refine w_il3 hC dX4_poets_128 ?_
                        refine w_il1 hC dX4_poets_129 ?_
                        refine v_ic_ne (tgt := 136) hC dX4_poets_130 rfl (fun h130 => ?_) (fun h130 => ?_)
                        · have hnk : ¬ (cnP (poP (w 40) (feL (w 40))) c : Int) = k := by omega
                          refine w_inc3 hC dX4_poets_136 hN (by first | rfl | assumption) (ri_mk (by omega) (by omega)) ?_
                          first
                          | (have hno : ¬ poP (w 40) (feL (w 40)) c := fun z => g4 (fun q hq hq2 => (z.2.2 q hq hq2).2))
                          | (have hno : ¬ poP (w 40) (feL (w 40)) c := fun z => g3 (fun q hq hq2 => (z.2.2 q hq hq2).1))
                          | (have hno : ¬ poP (w 40) (feL (w 40)) c := fun z => h89 z.2.1.2)
                          | (have hno : ¬ poP (w 40) (feL (w 40)) c := fun z => h76 z.2.1.1)
                          | (have hno : ¬ poP (w 40) (feL (w 40)) c := fun z => g2 ⟨by omega, z.1.2⟩)
                          | (have hno : ¬ poP (w 40) (feL (w 40)) c := fun z => g1 ⟨by omega, z.1.1⟩)
                          | skip
                          refine w_inc4 hC dX4_poets_139 hN (by first | rfl | assumption) (ri_mk (by omega) (by omega)) ?_
                          refine v_goto (tgt := 22) hC dX4_poets_142 rfl ?_
                          refine w_dr5 ?_
                          refine w_dr6 ?_
                          refine w_dr7 ?_
                          first
                            | exact ih22 _ (c + 1) (by omega) (by omega) (fun q => by rw [cnP_t hpo]; have := hr q; omega) (fun q => absurd q (by omega)) (lt_s hx (fun _ => hnk))
                            | exact ih22 _ (c + 1) (by omega) (by omega) (fun q => by rw [cnP_f hno]; exact hr q) (fun q => absurd q (by omega)) (lt_s hx (fun q => absurd q hno))
                        · refine w_il4 hC dX4_poets_133 ?_
                          refine v_iret hC hR dX4_poets_135 ?_
                          exact hk1 (by omega) (by omega) c (by omega) hpo (by omega)
                      · refine v_if_eq (tgt := 139) hC dX4_poets_125 rfl (fun _ => ?_) (fun h => absurd h (by decide))
                        first
                        | (have hno : ¬ poP (w 40) (feL (w 40)) c := fun z => g4 (fun q hq hq2 => (z.2.2 q hq hq2).2))
                        | (have hno : ¬ poP (w 40) (feL (w 40)) c := fun z => g3 (fun q hq hq2 => (z.2.2 q hq hq2).1))
                        | (have hno : ¬ poP (w 40) (feL (w 40)) c := fun z => h89 z.2.1.2)
                        | (have hno : ¬ poP (w 40) (feL (w 40)) c := fun z => h76 z.2.1.1)
                        | (have hno : ¬ poP (w 40) (feL (w 40)) c := fun z => g2 ⟨by omega, z.1.2⟩)
                        | (have hno : ¬ poP (w 40) (feL (w 40)) c := fun z => g1 ⟨by omega, z.1.1⟩)
                        | skip
                        refine w_inc4 hC dX4_poets_139 hN (by first | rfl | assumption) (ri_mk (by omega) (by omega)) ?_
                        refine v_goto (tgt := 22) hC dX4_poets_142 rfl ?_
                        refine w_dr5 ?_
                        refine w_dr6 ?_
                        refine w_dr7 ?_
                        first
                          | exact ih22 _ (c + 1) (by omega) (by omega) (fun q => by rw [cnP_t hpo]; have := hr q; omega) (fun q => absurd q (by omega)) (lt_s hx (fun _ => hnk))
                          | exact ih22 _ (c + 1) (by omega) (by omega) (fun q => by rw [cnP_f hno]; exact hr q) (fun q => absurd q (by omega)) (lt_s hx (fun q => absurd q hno))
                    · refine v_if_eq (tgt := 139) hC dX4_poets_113 rfl (fun _ => ?_) (fun h => absurd h (by decide))
                      first
                      | (have hno : ¬ poP (w 40) (feL (w 40)) c := fun z => g4 (fun q hq hq2 => (z.2.2 q hq hq2).2))
                      | (have hno : ¬ poP (w 40) (feL (w 40)) c := fun z => g3 (fun q hq hq2 => (z.2.2 q hq hq2).1))
                      | (have hno : ¬ poP (w 40) (feL (w 40)) c := fun z => h89 z.2.1.2)
                      | (have hno : ¬ poP (w 40) (feL (w 40)) c := fun z => h76 z.2.1.1)
                      | (have hno : ¬ poP (w 40) (feL (w 40)) c := fun z => g2 ⟨by omega, z.1.2⟩)
                      | (have hno : ¬ poP (w 40) (feL (w 40)) c := fun z => g1 ⟨by omega, z.1.1⟩)
                      | skip
                      refine w_inc4 hC dX4_poets_139 hN (by first | rfl | assumption) (ri_mk (by omega) (by omega)) ?_
                      refine v_goto (tgt := 22) hC dX4_poets_142 rfl ?_
                      refine w_dr5 ?_
                      refine w_dr6 ?_
                      refine w_dr7 ?_
                      first
                        | exact ih22 _ (c + 1) (by omega) (by omega) (fun q => by rw [cnP_t hpo]; have := hr q; omega) (fun q => absurd q (by omega)) (lt_s hx (fun _ => hnk))
                        | exact ih22 _ (c + 1) (by omega) (by omega) (fun q => by rw [cnP_f hno]; exact hr q) (fun q => absurd q (by omega)) (lt_s hx (fun q => absurd q hno))
              · refine v_if_eq (tgt := 96) hC dX4_poets_63 rfl (fun _ => ?_) (fun h => absurd h (by decide))
                refine w_ic hC dX4_poets_96 rfl ?_
                refine w_is7 hC dX4_poets_97 hN (by first | rfl | assumption) ?_
                refine w_il7 hC dX4_poets_99 ?_
                refine v_if_eq (tgt := 139) hC dX4_poets_101 rfl (fun _ => ?_) (fun h => absurd h (by decide))
                first
                | (have hno : ¬ poP (w 40) (feL (w 40)) c := fun z => g4 (fun q hq hq2 => (z.2.2 q hq hq2).2))
                | (have hno : ¬ poP (w 40) (feL (w 40)) c := fun z => g3 (fun q hq hq2 => (z.2.2 q hq hq2).1))
                | (have hno : ¬ poP (w 40) (feL (w 40)) c := fun z => h89 z.2.1.2)
                | (have hno : ¬ poP (w 40) (feL (w 40)) c := fun z => h76 z.2.1.1)
                | (have hno : ¬ poP (w 40) (feL (w 40)) c := fun z => g2 ⟨by omega, z.1.2⟩)
                | (have hno : ¬ poP (w 40) (feL (w 40)) c := fun z => g1 ⟨by omega, z.1.1⟩)
                | skip
                refine w_inc4 hC dX4_poets_139 hN (by first | rfl | assumption) (ri_mk (by omega) (by omega)) ?_
                refine v_goto (tgt := 22) hC dX4_poets_142 rfl ?_
                refine w_dr5 ?_
                refine w_dr6 ?_
                refine w_dr7 ?_
                first
                  | exact ih22 _ (c + 1) (by omega) (by omega) (fun q => by rw [cnP_t hpo]; have := hr q; omega) (fun q => absurd q (by omega)) (lt_s hx (fun _ => hnk))
                  | exact ih22 _ (c + 1) (by omega) (by omega) (fun q => by rw [cnP_f hno]; exact hr q) (fun q => absurd q (by omega)) (lt_s hx (fun q => absurd q hno))
            · refine v_if_eq (tgt := 96) hC dX4_poets_54 rfl (fun _ => ?_) (fun h => absurd h (by decide))
              refine w_ic hC dX4_poets_96 rfl ?_
              refine w_is7 hC dX4_poets_97 hN (by first | rfl | assumption) ?_
              refine w_il7 hC dX4_poets_99 ?_
              refine v_if_eq (tgt := 139) hC dX4_poets_101 rfl (fun _ => ?_) (fun h => absurd h (by decide))
              first
              | (have hno : ¬ poP (w 40) (feL (w 40)) c := fun z => g4 (fun q hq hq2 => (z.2.2 q hq hq2).2))
              | (have hno : ¬ poP (w 40) (feL (w 40)) c := fun z => g3 (fun q hq hq2 => (z.2.2 q hq hq2).1))
              | (have hno : ¬ poP (w 40) (feL (w 40)) c := fun z => h89 z.2.1.2)
              | (have hno : ¬ poP (w 40) (feL (w 40)) c := fun z => h76 z.2.1.1)
              | (have hno : ¬ poP (w 40) (feL (w 40)) c := fun z => g2 ⟨by omega, z.1.2⟩)
              | (have hno : ¬ poP (w 40) (feL (w 40)) c := fun z => g1 ⟨by omega, z.1.1⟩)
              | skip
              refine w_inc4 hC dX4_poets_139 hN (by first | rfl | assumption) (ri_mk (by omega) (by omega)) ?_
              refine v_goto (tgt := 22) hC dX4_poets_142 rfl ?_
              refine w_dr5 ?_
              refine w_dr6 ?_
              refine w_dr7 ?_
              first
                | exact ih22 _ (c + 1) (by omega) (by omega) (fun q => by rw [cnP_t hpo]; have := hr q; omega) (fun q => absurd q (by omega)) (lt_s hx (fun _ => hnk))
                | exact ih22 _ (c + 1) (by omega) (by omega) (fun q => by rw [cnP_f hno]; exact hr q) (fun q => absurd q (by omega)) (lt_s hx (fun q => absurd q hno))
    exact lp22 79 0 0 (by omega) (by omega) (fun _ => rfl) (fun _ => ⟨rfl, rfl⟩) (fun e h => by omega)
  · refine w_al0 hC dX4_poets_5 ?_
    refine v_bipush hC dX4_poets_6 (by decide) ?_
    refine w_vi1 hC vi_X4_49 rfl dX4_poets_8 rfl hN (d_badBy ?_)
    refine v_iret hC hR dX4_poets_11 ?_
    exact hb0 (by omega)

theorem d_tells {d : Nat} {w : Wd} {Q : Option MV → Wd → Prop} {x y : Nat} (hx : x < 2147483648) (hy : y < 2147483648) (hg : 0 < Nat.gcd x y) (hQ : Q (some (.inl 1)) (up (up w 39 5 ((x / Nat.gcd x y : Nat) : Int)) 39 6 ((y / Nat.gcd x y : Nat) : Int))) : Call (d + 0) mX4_tells [vR 39, vL (x : Int), vL (y : Int)] w Q := by
  refine call_in (ls := [some (vR 39), some (vL (x : Int)), none, some (vL (y : Int)), none, none, none, none, none, none, none]) (by decide +kernel) rfl (Nat.le_of_ble_eq_true rfl) (fun κ hC hR hN => ?_)
  have hC : ctxB κ RX4 cX4_tells (d + 0) := hC
  have hN : mlx κ 11 := hN
  refine w_ll1 hC dX4_tells_0 ?_
  refine w_ls5 hC dX4_tells_1 hN (by first | rfl | assumption) ?_
  refine w_ll3 hC dX4_tells_3 ?_
  refine w_ls7 hC dX4_tells_4 hN (by first | rfl | assumption) ?_
  refine w_dr2 ?_
  refine w_dr4 ?_
  refine w_dr6 ?_
  refine w_dr8 ?_
  refine w_dr9 ?_
  refine w_dr10 ?_
  have lp6 : ∀ (K : Nat) (p q : Nat), q < K → (Nat.gcd p q = Nat.gcd x y) → VV κ 6 [some (vR 39), some (vL (x : Int)), none, some (vL (y : Int)), none, some (vL (p : Int)), none, some (vL (q : Int)), none, none, none] [] w := by
    intro K
    induction K with
    | zero => intros; omega
    | succ K ih6 =>
      intro p q hm6 hgc
      refine w_ll7 hC dX4_tells_6 ?_
      refine v_lconst (z := 0) hC dX4_tells_8 rfl ?_
      refine v_lcmp hC dX4_tells_9 ?_
      refine v_if_le (tgt := 31) hC dX4_tells_10 rfl (fun h10 => ?_) (fun h10 => ?_)
      · have hq0 := cz_le h10
        obtain rfl : q = 0 := by omega
        rw [Nat.gcd_zero_right] at hgc
        subst hgc
        refine w_al0 hC dX4_tells_31 ?_
        refine w_ll1 hC dX4_tells_32 ?_
        refine w_ll5 hC dX4_tells_33 ?_
        refine v_ldiv_n hC (by omega) (by omega) dX4_tells_35 ?_
        rw [show ((x : Nat) : Int) / ((Nat.gcd x y : Nat) : Int) = ((x / Nat.gcd x y : Nat) : Int) from rfl]
        refine v_putL hC dX4_tells_36 fp_X4_234 rfl rfl ?_
        refine w_al0 hC dX4_tells_39 ?_
        refine w_ll3 hC dX4_tells_40 ?_
        refine w_ll5 hC dX4_tells_41 ?_
        refine v_ldiv_n hC (by omega) (by omega) dX4_tells_43 ?_
        rw [show ((y : Nat) : Int) / ((Nat.gcd x y : Nat) : Int) = ((y / Nat.gcd x y : Nat) : Int) from rfl]
        refine v_putL hC dX4_tells_44 fp_X4_26 rfl rfl ?_
        refine w_ic hC dX4_tells_47 rfl ?_
        refine v_iret hC hR dX4_tells_48 ?_
        exact hQ
      · refine w_ll5 hC dX4_tells_13 ?_
        refine w_ll7 hC dX4_tells_15 ?_
        have hq0 := cz_gt h10
        refine v_lrem_n hC (by omega) (by omega) dX4_tells_17 ?_
        refine w_ls9 hC dX4_tells_18 hN (by first | rfl | assumption) ?_
        refine w_ll7 hC dX4_tells_20 ?_
        refine w_ls5 hC dX4_tells_22 hN (by first | rfl | assumption) ?_
        refine w_ll9 hC dX4_tells_24 ?_
        refine w_ls7 hC dX4_tells_26 hN (by first | rfl | assumption) ?_
        refine v_goto (tgt := 6) hC dX4_tells_28 rfl ?_
        refine w_dr2 ?_
        refine w_dr4 ?_
        refine w_dr6 ?_
        refine w_dr8 ?_
        refine w_dr9 ?_
        refine w_dr10 ?_
        rw [show ((p : Nat) : Int) % ((q : Nat) : Int) = ((p % q : Nat) : Int) from rfl]
        exact ih6 q (p % q) (by have := Nat.mod_lt p (show 0 < q by omega); omega) (by rw [← hgc, Nat.gcd_comm p q, Nat.gcd_rec q p, Nat.gcd_comm])
  exact lp6 (y + 1) x y (by omega) rfl
