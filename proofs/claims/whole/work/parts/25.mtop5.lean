theorem rt_S {a g : Nat → Int} (hA : AOK a) (hg : LOK (a 1) (a 3) g) : rtG a g = rtL (lnS a g) := by
  have am := hA.m
  have an := hA.n
  have e1 : lnS a g 1 = a 1 := lnS_o (by omega)
  unfold rtG rtL
  rw [e1]
  apply sumN_congr
  intro j hj
  have e : isGb a g j = isRb (lnS a g) j := by
    unfold isGb isRb
    rw [wOn_S hA (by omega)]
    unfold lBy tgL
    rw [lnS_o (i := 0) (by omega), e1, lnS_o (i := 2) (by omega)]
    have hgj := hg.1 j (by omega)
    by_cases q : g j = -1
    · rw [decide_eq_false (fun z => z q), Bool.false_and, Bool.false_and]
    · by_cases q2 : 0 ≤ g j ∧ g j < 8
      · rw [lnS_o (i := 20 + (g j).toNat) (by omega), lnS_o (i := 12 + (g j).toNat) (by omega)]
      · rw [lnS_o (i := 20 + (g j).toNat) (by omega), lnS_o (i := 12 + (g j).toNat) (by omega)]
  rw [e]
theorem ONZ_t {P : Nat → Prop} {k : Nat} (h : P k) : ∃ i, i < k + 1 ∧ P i := ⟨k, by omega, h⟩

theorem d_isOnEvening {d : Nat} {w : Wd} {Q : Option MV → Wd → Prop} (hA : AOK (w 40)) {g : Nat → Int} {wd : Int} (hg : ∀ j, j < 6 → w 49 j = g j) (ht : onE (w 40) g wd → Q (some (.inl 1)) w) (hf : ¬ onE (w 40) g wd → Q (some (.inl 0)) w) : Call (d + 0) mX4_isOnEvening [vR 39, vI wd] w Q := by
  have am := hA.m
  have an := hA.n
  have af := hA.f
  have anc := hA.nc
  have amc := hA.mc
  have auc := hA.uc
  refine call_in (ls := [some (vR 39), some (vI wd), none, none]) (by decide +kernel) rfl (Nat.le_of_ble_eq_true rfl) (fun κ hC hR hN => ?_)
  have hC : ctxB κ RX4 cX4_isOnEvening (d + 0) := hC
  have hN : mlx κ 4 := hN
  refine w_ic hC dX4_isOnEvening_0 rfl ?_
  refine w_is2 hC dX4_isOnEvening_1 hN (by first | rfl | assumption) ?_
  refine w_ic hC dX4_isOnEvening_2 rfl ?_
  refine w_is3 hC dX4_isOnEvening_3 hN (by first | rfl | assumption) ?_
  have lp4 : ∀ (K : Nat) (z : Int) (j : Nat), ((w 40 1).toNat - j) < K → ((j : Int) ≤ w 40 1) → (AGZ (fun j : Nat => ¬ g j = wd) (1 - z) j) → VV κ 4 [some (vR 39), some (vI wd), some (vI z), some (vI (j : Int))] [] w := by
    intro K
    induction K with
    | zero => intros; omega
    | succ K ih4 =>
      intro z j hm4 hj hz
      have hgj : (j : Int) < w 40 1 → w 49 j = g j := fun h => hg j (by omega)
      have z01 : z = 0 ∨ z = 1 := hz.elim (fun q => Or.inl (by have := q.1; omega)) (fun q => Or.inr (by have := q.1; omega))
      refine w_il3 hC dX4_isOnEvening_4 ?_
      refine w_al0 hC dX4_isOnEvening_5 ?_
      refine v_getR (off := 1) (j := 40) hC dX4_isOnEvening_6 fd_X4_7 rfl rfl rfl ?_
      refine w_ic hC dX4_isOnEvening_9 rfl ?_
      refine w_ialdk hC 127 (1) dX4_isOnEvening_10 rfl rfl (by omega) (by omega) ?_
      refine v_ic_ge (tgt := 40) hC dX4_isOnEvening_11 rfl (fun h11 => ?_) (fun h11 => ?_)
      · have hag := agz_e (R := ¬ onE (w 40) g wd) hz ⟨fun q ⟨i, h1, h2⟩ => q i (by omega) h2, fun q i hi h2 => q ⟨i, by omega, h2⟩⟩
        refine w_il2 hC dX4_isOnEvening_40 ?_
        refine v_zret hC hR dX4_isOnEvening_41 (by rcases hag with q | q <;> omega) ?_
        rcases hag with ⟨q1, q⟩ | ⟨q1, q⟩
        · rw [show z = 0 by omega]; exact hf q
        · rw [show z = 1 by omega]; exact ht (Classical.byContradiction (fun y => q y))
      · refine w_il2 hC dX4_isOnEvening_14 ?_
        refine v_if_ne (tgt := 28) hC dX4_isOnEvening_15 rfl (fun h15 => ?_) (fun h15 => ?_)
        · refine w_ic hC dX4_isOnEvening_28 rfl ?_
          refine v_goto (tgt := 33) hC dX4_isOnEvening_29 rfl ?_
          refine w_is2 hC dX4_isOnEvening_33 hN (by first | rfl | assumption) ?_
          refine w_inc3 hC dX4_isOnEvening_34 hN (by first | rfl | assumption) (ri_mk (by omega) (by omega)) ?_
          refine v_goto (tgt := 4) hC dX4_isOnEvening_37 rfl ?_
          first | exact ih4 1 (j + 1) (by omega) (by omega) (agz_f hz (by omega)) | exact ih4 1 (j + 1) (by omega) (by omega) (agz_n (P := fun j : Nat => ¬ g j = wd) (fun q => q (by omega))) | exact ih4 0 (j + 1) (by omega) (by omega) (agz_t hz (by omega) (by omega))
        · refine w_al0 hC dX4_isOnEvening_18 ?_
          refine v_getR (off := 10) (j := 49) hC dX4_isOnEvening_19 fd_X4_42 rfl rfl rfl ?_
          refine w_il3 hC dX4_isOnEvening_22 ?_
          refine w_ialdk hC 6 (j) dX4_isOnEvening_23 rfl rfl (by omega) (by omega) ?_
          refine w_il1 hC dX4_isOnEvening_24 ?_
          refine v_ic_ne (tgt := 32) hC dX4_isOnEvening_25 rfl (fun h25 => ?_) (fun h25 => ?_)
          · refine w_ic hC dX4_isOnEvening_32 rfl ?_
            refine w_is2 hC dX4_isOnEvening_33 hN (by first | rfl | assumption) ?_
            refine w_inc3 hC dX4_isOnEvening_34 hN (by first | rfl | assumption) (ri_mk (by omega) (by omega)) ?_
            refine v_goto (tgt := 4) hC dX4_isOnEvening_37 rfl ?_
            first | exact ih4 1 (j + 1) (by omega) (by omega) (agz_f hz (by omega)) | exact ih4 1 (j + 1) (by omega) (by omega) (agz_n (P := fun j : Nat => ¬ g j = wd) (fun q => q (by omega))) | exact ih4 0 (j + 1) (by omega) (by omega) (agz_t hz (by omega) (by omega))
          · refine w_ic hC dX4_isOnEvening_28 rfl ?_
            refine v_goto (tgt := 33) hC dX4_isOnEvening_29 rfl ?_
            refine w_is2 hC dX4_isOnEvening_33 hN (by first | rfl | assumption) ?_
            refine w_inc3 hC dX4_isOnEvening_34 hN (by first | rfl | assumption) (ri_mk (by omega) (by omega)) ?_
            refine v_goto (tgt := 4) hC dX4_isOnEvening_37 rfl ?_
            first | exact ih4 1 (j + 1) (by omega) (by omega) (agz_f hz (by omega)) | exact ih4 1 (j + 1) (by omega) (by omega) (agz_n (P := fun j : Nat => ¬ g j = wd) (fun q => q (by omega))) | exact ih4 0 (j + 1) (by omega) (by omega) (agz_t hz (by omega) (by omega))
  exact lp4 ((w 40 1).toNat + 1) 0 0 (by omega) (by omega) (agz_0 _)

theorem rt_congr {a g g2 : Nat → Int} (hA : AOK a) (h : ∀ j, j < 6 → g j = g2 j) : rtG a g = rtG a g2 := by
  have am := hA.m
  unfold rtG
  apply sumN_congr
  intro j hj
  have e : isGb a g j = isGb a g2 j := by unfold isGb; rw [h j (by omega)]
  rw [e]

theorem d_evenings {d : Nat} {w : Wd} {Q : Option MV → Wd → Prop} (hA : AOK (w 40)) {s n : Int} (hb0 : ¬ ((0 ≤ s ∧ s ≤ 999999) ∧ 0 ≤ n ∧ n ≤ 60) → Q (some (.inl (-2))) (cI w 44 0)) (hk : (0 ≤ s ∧ s ≤ 999999) ∧ 0 ≤ n ∧ n ≤ 60 → ∀ w2, (∀ i k : Nat, i ≠ 49 → w2 i k = w i k) → Q (some (.inl (evC (w 40) s n.toNat))) w2) : Call (d + 6) mX4_evenings [vR 39, vI s, vI n] w Q := by
  have am := hA.m
  have an := hA.n
  have af := hA.f
  have anc := hA.nc
  have amc := hA.mc
  have auc := hA.uc
  refine call_in (ls := [some (vR 39), some (vI s), some (vI n), none, none, none, none, none, none]) (by decide +kernel) rfl (Nat.le_of_ble_eq_true rfl) (fun κ hC hR hN => ?_)
  have hC : ctxB κ RX4 cX4_evenings (d + 6) := hC
  have hN : mlx κ 9 := hN
  refine w_il1 hC dX4_evenings_0 ?_
  refine w_ic hC dX4_evenings_1 rfl ?_
  refine v_ldc (n := 999999) hC dX4_evenings_2 ki_X4_241 rfl (ckI_ok rfl) ?_
  refine w_st3 hC st_X4_53 dX4_evenings_4 rfl hN (d_in (fun g1 => ?_) (fun g1 => ?_))
  · refine v_if_eq (tgt := 20) hC dX4_evenings_7 rfl (fun h => absurd h (by decide)) (fun _ => ?_)
    refine w_il2 hC dX4_evenings_10 ?_
    refine w_ic hC dX4_evenings_11 rfl ?_
    refine v_bipush hC dX4_evenings_12 (by decide) ?_
    refine w_st3 hC st_X4_53 dX4_evenings_14 rfl hN (d_in (fun g2 => ?_) (fun g2 => ?_))
    · refine v_if_ne (tgt := 25) hC dX4_evenings_17 rfl (fun _ => ?_) (fun h => absurd h (by decide))
      refine w_ic hC dX4_evenings_25 rfl ?_
      refine w_is3 hC dX4_evenings_26 hN (by first | rfl | assumption) ?_
      refine w_dr4 ?_
      refine w_dr5 ?_
      refine w_dr6 ?_
      refine w_dr7 ?_
      refine w_dr8 ?_
      have lp27 : ∀ (K : Nat) (w2 : Wd) (j : Nat), (6 - j) < K → (j ≤ 6) → (∀ q, q < j → w2 49 q = -1) → (∀ i k : Nat, i ≠ 49 → w2 i k = w i k) → VV κ 27 [some (vR 39), some (vI s), some (vI n), some (vI (j : Int)), none, none, none, none, none] [] w2 := by
        intro K
        induction K with
        | zero => intros; omega
        | succ K ih27 =>
          intro w2 j hm27 hj e2 o2
          refine w_il3 hC dX4_evenings_27 ?_
          refine v_bipush hC dX4_evenings_28 (by decide) ?_
          refine v_ic_ge (tgt := 46) hC dX4_evenings_30 rfl (fun h30 => ?_) (fun h30 => ?_)
          · refine w_il1 hC dX4_evenings_46 ?_
            refine v_i2l hC dX4_evenings_47 ?_
            refine w_ls3 hC dX4_evenings_48 hN (by first | rfl | assumption) ?_
            refine w_ic hC dX4_evenings_49 rfl ?_
            refine w_is5 hC dX4_evenings_50 hN (by first | rfl | assumption) ?_
            refine w_ic hC dX4_evenings_52 rfl ?_
            refine w_is6 hC dX4_evenings_53 hN (by first | rfl | assumption) ?_
            refine w_dr4 ?_
            refine w_dr7 ?_
            refine w_dr8 ?_
            have lp55 : ∀ (K2 : Nat) (w3 : Wd) (k : Nat), (n.toNat - k) < K2 → ((k : Int) ≤ n) → (∀ q, q < 6 → w3 49 q = evG (w 40) s k q) → (∀ i k : Nat, i ≠ 49 → w3 i k = w i k) → VV κ 55 [some (vR 39), some (vI s), some (vI n), some (vL (evXs s k)), none, some (vI (evC (w 40) s k)), some (vI (k : Int)), none, none] [] w3 := by
              intro K2
              induction K2 with
              | zero => intros; omega
              | succ K2 ih55 =>
                intro w3 k hm55 hk2 e3 o3
                have hxr := evXs_r g1 k
                have hcr := sumN_r (f := fun k => if rtL (lnS (w 40) (evG (w 40) s (k + 1))) = w 40 1 then 1 else 0) (c := 1) k (fun i _ => by split <;> omega)
                have hcr2 : 0 ≤ evC (w 40) s k ∧ evC (w 40) s k ≤ k := by unfold evC; omega
                have e40 : w3 40 = w 40 := funext (fun q => o3 40 q (by decide))
                have hA3 : AOK (w3 40) := by rw [e40]; exact hA
                have hge := evG_ok hA s k
                refine w_il6 hC dX4_evenings_55 ?_
                refine w_il2 hC dX4_evenings_57 ?_
                refine v_ic_ge (tgt := 186) hC dX4_evenings_58 rfl (fun h58 => ?_) (fun h58 => ?_)
                · refine w_il5 hC dX4_evenings_186 ?_
                  refine v_iret hC hR dX4_evenings_188 ?_
                  rw [show k = n.toNat by omega]
                  exact hk ⟨g1, g2⟩ _ o3
                · refine w_ll3 hC dX4_evenings_61 ?_
                  refine v_ldc2 (n := 1103515245) hC dX4_evenings_62 kl_X4_242 rfl (ckL_ok rfl) ?_
                  refine w_lmul hC dX4_evenings_65 (ri_mkL (by omega) (by omega)) ?_
                  refine v_ldc2 (n := 12345) hC dX4_evenings_66 kl_X4_244 rfl (ckL_ok rfl) ?_
                  refine w_ladd hC dX4_evenings_69 (ri_mkL (by omega) (by omega)) ?_
                  refine v_ldc2 (n := 2147483648) hC dX4_evenings_70 kl_X4_246 rfl (ckL_ok rfl) ?_
                  refine v_lrem_n hC (by omega) (by omega) dX4_evenings_73 ?_
                  rw [show (evXs s k * 1103515245 + 12345) % 2147483648 = evXs s (k + 1) from rfl]
                  have hxr2 := evXs_r g1 (k + 1)
                  have hjr := evJ_r hA (evXs s (k + 1))
                  have hwr := evW_r (evXs s (k + 1))
                  obtain ⟨jn, hjn⟩ := Int.eq_ofNat_of_zero_le hjr.1
                  obtain ⟨wn, hwn⟩ := Int.eq_ofNat_of_zero_le hwr.1
                  have hds : 0 ≤ evXs s (k + 1) / 65536 := by omega
                  refine w_ls3 hC dX4_evenings_74 hN (by first | rfl | assumption) ?_
                  refine w_ll3 hC dX4_evenings_75 ?_
                  refine v_ldc2 (n := 65536) hC dX4_evenings_76 kl_X4_248 rfl (ckL_ok rfl) ?_
                  refine v_ldiv_n hC (by omega) (by omega) dX4_evenings_79 ?_
                  refine w_al0 hC dX4_evenings_80 ?_
                  refine v_getR (off := 1) (j := 40) hC dX4_evenings_81 fd_X4_7 rfl rfl rfl ?_
                  refine w_ic hC dX4_evenings_84 rfl ?_
                  refine w_ialdk hC 127 (1) dX4_evenings_85 rfl rfl (by omega) (by omega) ?_
                  rw [o3 40 1 (by decide)]
                  refine v_i2l hC dX4_evenings_86 ?_
                  refine v_lrem_n hC (by omega) (by omega) dX4_evenings_87 ?_
                  refine v_l2i hC dX4_evenings_88 ?_
                  rw [show wr (evXs s (k + 1) / 65536 % w 40 1) = evJ (w 40) (evXs s (k + 1)) from wr_id (ri_mk (by show -2147483648 ≤ evJ (w 40) (evXs s (k + 1)); omega) (by show evJ (w 40) (evXs s (k + 1)) < 2147483648; omega)), hjn]
                  refine w_is7 hC dX4_evenings_89 hN (by first | rfl | assumption) ?_
                  have tl152 : ∀ (w5 : Wd), (∀ q, q < 6 → w5 49 q = evG (w 40) s (k + 1) q) → (∀ i k : Nat, i ≠ 49 → w5 i k = w i k) → VV κ 152 [some (vR 39), some (vI s), some (vI n), some (vL (evXs s (k + 1))), none, some (vI (evC (w 40) s k)), some (vI (k : Int)), some (vI (jn : Int)), none] [] w5 := by
                    intro w5 e5 o5
                    have f40 : w5 40 = w 40 := funext (fun q => o5 40 q (by decide))
                    have hA5 : AOK (w5 40) := by rw [f40]; exact hA
                    have hge5 := evG_ok hA s (k + 1)
                    refine w_il5 hC dX4_evenings_152 ?_
                    refine w_al0 hC dX4_evenings_154 ?_
                    refine w_al0 hC dX4_evenings_155 ?_
                    refine v_getR (off := 10) (j := 49) hC dX4_evenings_156 fd_X4_42 rfl rfl rfl ?_
                    refine w_ic hC dX4_evenings_159 rfl ?_
                    refine w_vi2 hC vi_X4_184 rfl dX4_evenings_160 rfl hN (d_rightOnes hA5 (r := 49) (f := 0) rfl (by decide) (fun j9 h9 => by
                        rw [f40] at h9 ⊢
                        rw [Nat.zero_add, e5 j9 (by omega)]
                        have h8 := hge5.1 j9 (by omega)
                        exact ⟨h8.1, h8.2.1⟩) ?_)
                    rw [f40, rt_congr (a := w 40) (g2 := evG (w 40) s (k + 1)) hA (fun j9 h9 => by rw [Nat.zero_add]; exact e5 j9 h9), rt_S hA hge5]
                    refine w_al0 hC dX4_evenings_163 ?_
                    refine v_getR (off := 1) (j := 40) hC dX4_evenings_164 fd_X4_7 rfl rfl rfl ?_
                    refine w_ic hC dX4_evenings_167 rfl ?_
                    refine w_ialdk hC 127 (1) dX4_evenings_168 rfl rfl (by omega) (by omega) ?_
                    rw [o5 40 1 (by decide)]
                    refine v_ic_ne (tgt := 176) hC dX4_evenings_169 rfl (fun h169 => ?_) (fun h169 => ?_)
                    · refine w_ic hC dX4_evenings_176 rfl ?_
                      refine w_iadd hC dX4_evenings_177 (ri_mk (by omega) (by omega)) ?_
                      first | rw [show evC (w 40) s k + 1 = evC (w 40) s (k + 1) from (sumN_s rfl (if_pos h169))] | rw [show evC (w 40) s k + 0 = evC (w 40) s (k + 1) from (sumN_s rfl (if_neg h169))]
                      refine w_is5 hC dX4_evenings_178 hN (by first | rfl | assumption) ?_
                      refine w_inc6 hC dX4_evenings_180 hN (by first | rfl | assumption) (ri_mk (by omega) (by omega)) ?_
                      refine v_goto (tgt := 55) hC dX4_evenings_183 rfl ?_
                      refine w_dr4 ?_
                      refine w_dr7 ?_
                      refine w_dr8 ?_
                      exact ih55 _ (k + 1) (by omega) (by omega) e5 o5
                    · refine w_ic hC dX4_evenings_172 rfl ?_
                      refine v_goto (tgt := 177) hC dX4_evenings_173 rfl ?_
                      refine w_iadd hC dX4_evenings_177 (ri_mk (by omega) (by omega)) ?_
                      first | rw [show evC (w 40) s k + 1 = evC (w 40) s (k + 1) from (sumN_s rfl (if_pos h169))] | rw [show evC (w 40) s k + 0 = evC (w 40) s (k + 1) from (sumN_s rfl (if_neg h169))]
                      refine w_is5 hC dX4_evenings_178 hN (by first | rfl | assumption) ?_
                      refine w_inc6 hC dX4_evenings_180 hN (by first | rfl | assumption) (ri_mk (by omega) (by omega)) ?_
                      refine v_goto (tgt := 55) hC dX4_evenings_183 rfl ?_
                      refine w_dr4 ?_
                      refine w_dr7 ?_
                      refine w_dr8 ?_
                      exact ih55 _ (k + 1) (by omega) (by omega) e5 o5
                  refine w_ll3 hC dX4_evenings_91 ?_
                  refine v_ldc2 (n := 1048576) hC dX4_evenings_92 kl_X4_250 rfl (ckL_ok rfl) ?_
                  refine v_ldiv_n hC (by omega) (by omega) dX4_evenings_95 ?_
                  refine v_ldc2 (n := 8) hC dX4_evenings_96 kl_X4_252 rfl (ckL_ok rfl) ?_
                  refine v_lrem_n hC (by omega) (by omega) dX4_evenings_99 ?_
                  refine v_l2i hC dX4_evenings_100 ?_
                  rw [show wr (evXs s (k + 1) / 1048576 % 8) = evW (evXs s (k + 1)) from wr_id (ri_mk (by show -2147483648 ≤ evW (evXs s (k + 1)); omega) (by show evW (evXs s (k + 1)) < 2147483648; omega)), hwn]
                  refine w_is8 hC dX4_evenings_101 hN (by first | rfl | assumption) ?_
                  refine w_al0 hC dX4_evenings_103 ?_
                  refine v_getR (off := 10) (j := 49) hC dX4_evenings_104 fd_X4_42 rfl rfl rfl ?_
                  refine w_il7 hC dX4_evenings_107 ?_
                  refine w_ialdk hC 6 (jn) dX4_evenings_109 rfl rfl (by omega) (by omega) ?_
                  rw [e3 jn (by omega)]
                  refine w_ic hC dX4_evenings_110 rfl ?_
                  refine v_ic_eq (tgt := 125) hC dX4_evenings_111 rfl (fun h111 => ?_) (fun h111 => ?_)
                  · refine w_al0 hC dX4_evenings_125 ?_
                    refine w_il8 hC dX4_evenings_126 ?_
                    refine w_vi1 hC vi_X4_178 rfl dX4_evenings_128 rfl hN (d_isWord hA3 (fun g4 => ?_) (fun g4 => ?_))
                    · refine v_if_eq (tgt := 152) hC dX4_evenings_131 rfl (fun h => absurd h (by decide)) (fun _ => ?_)
                      refine w_al0 hC dX4_evenings_134 ?_
                      refine w_il8 hC dX4_evenings_135 ?_
                      refine w_vi1 hC vi_X4_254 rfl dX4_evenings_137 rfl hN (d_isOnEvening hA3 e3 (fun g5 => ?_) (fun g5 => ?_))
                      · refine v_if_ne (tgt := 152) hC dX4_evenings_140 rfl (fun _ => ?_) (fun h => absurd h (by decide))
                        have ev : evG (w 40) s (k + 1) = evS (w 40) (evG (w 40) s k) (evXs s (k + 1)) := rfl
                        refine w_dr8 ?_
                        first
                        | (refine tl152 _ (fun q hq => ?_) (fun i q h => by rw [up_id _ _ h]; exact o3 i q h)
                           rw [ev, evS_1 (by rw [hjn]; exact h111), hjn, show ((jn : Nat) : Int).toNat = jn from rfl]
                           unfold ua
                           by_cases z : q = jn
                           · rw [z, up_same, if_pos rfl]
                           · rw [up_pl _ _ z, if_neg z, e3 q hq])
                        | (refine tl152 _ (fun q hq => ?_) (fun i q h => by rw [up_id _ _ h]; exact o3 i q h)
                           rw [ev, evS_2 (by rw [hjn]; exact fun z => z h111) (by rw [hwn]; rw [e40] at g4 g5; exact ⟨g4.2, g5⟩), hjn, hwn, show ((jn : Nat) : Int).toNat = jn from rfl]
                           unfold ua
                           by_cases z : q = jn
                           · rw [z, up_same, if_pos rfl]
                           · rw [up_pl _ _ z, if_neg z, e3 q hq])
                        | (refine tl152 w3 (fun q hq => ?_) o3
                           rw [ev, evS_3 (by rw [hjn]; exact fun z => z h111) (by rw [hwn]; rw [e40] at g4; exact fun z => g4 ⟨by omega, z.1⟩)]
                           exact e3 q hq)
                        | (refine tl152 w3 (fun q hq => ?_) o3
                           rw [ev, evS_3 (by rw [hjn]; exact fun z => z h111) (by rw [hwn]; rw [e40] at g5; exact fun z => z.2 g5)]
                           exact e3 q hq)
                      · refine v_if_ne (tgt := 152) hC dX4_evenings_140 rfl (fun h => absurd h (by decide)) (fun _ => ?_)
                        refine w_al0 hC dX4_evenings_143 ?_
                        refine v_getR (off := 10) (j := 49) hC dX4_evenings_144 fd_X4_42 rfl rfl rfl ?_
                        refine w_il7 hC dX4_evenings_147 ?_
                        refine w_il8 hC dX4_evenings_149 ?_
                        refine w_iastk hC 6 (jn) dX4_evenings_151 rfl rfl (by omega) (by omega) ?_
                        have ev : evG (w 40) s (k + 1) = evS (w 40) (evG (w 40) s k) (evXs s (k + 1)) := rfl
                        refine w_dr8 ?_
                        first
                        | (refine tl152 _ (fun q hq => ?_) (fun i q h => by rw [up_id _ _ h]; exact o3 i q h)
                           rw [ev, evS_1 (by rw [hjn]; exact h111), hjn, show ((jn : Nat) : Int).toNat = jn from rfl]
                           unfold ua
                           by_cases z : q = jn
                           · rw [z, up_same, if_pos rfl]
                           · rw [up_pl _ _ z, if_neg z, e3 q hq])
                        | (refine tl152 _ (fun q hq => ?_) (fun i q h => by rw [up_id _ _ h]; exact o3 i q h)
                           rw [ev, evS_2 (by rw [hjn]; exact fun z => z h111) (by rw [hwn]; rw [e40] at g4 g5; exact ⟨g4.2, g5⟩), hjn, hwn, show ((jn : Nat) : Int).toNat = jn from rfl]
                           unfold ua
                           by_cases z : q = jn
                           · rw [z, up_same, if_pos rfl]
                           · rw [up_pl _ _ z, if_neg z, e3 q hq])
                        | (refine tl152 w3 (fun q hq => ?_) o3
                           rw [ev, evS_3 (by rw [hjn]; exact fun z => z h111) (by rw [hwn]; rw [e40] at g4; exact fun z => g4 ⟨by omega, z.1⟩)]
                           exact e3 q hq)
                        | (refine tl152 w3 (fun q hq => ?_) o3
                           rw [ev, evS_3 (by rw [hjn]; exact fun z => z h111) (by rw [hwn]; rw [e40] at g5; exact fun z => z.2 g5)]
                           exact e3 q hq)
                    · refine v_if_eq (tgt := 152) hC dX4_evenings_131 rfl (fun _ => ?_) (fun h => absurd h (by decide))
                      have ev : evG (w 40) s (k + 1) = evS (w 40) (evG (w 40) s k) (evXs s (k + 1)) := rfl
                      refine w_dr8 ?_
                      first
                      | (refine tl152 _ (fun q hq => ?_) (fun i q h => by rw [up_id _ _ h]; exact o3 i q h)
                         rw [ev, evS_1 (by rw [hjn]; exact h111), hjn, show ((jn : Nat) : Int).toNat = jn from rfl]
                         unfold ua
                         by_cases z : q = jn
                         · rw [z, up_same, if_pos rfl]
                         · rw [up_pl _ _ z, if_neg z, e3 q hq])
                      | (refine tl152 _ (fun q hq => ?_) (fun i q h => by rw [up_id _ _ h]; exact o3 i q h)
                         rw [ev, evS_2 (by rw [hjn]; exact fun z => z h111) (by rw [hwn]; rw [e40] at g4 g5; exact ⟨g4.2, g5⟩), hjn, hwn, show ((jn : Nat) : Int).toNat = jn from rfl]
                         unfold ua
                         by_cases z : q = jn
                         · rw [z, up_same, if_pos rfl]
                         · rw [up_pl _ _ z, if_neg z, e3 q hq])
                      | (refine tl152 w3 (fun q hq => ?_) o3
                         rw [ev, evS_3 (by rw [hjn]; exact fun z => z h111) (by rw [hwn]; rw [e40] at g4; exact fun z => g4 ⟨by omega, z.1⟩)]
                         exact e3 q hq)
                      | (refine tl152 w3 (fun q hq => ?_) o3
                         rw [ev, evS_3 (by rw [hjn]; exact fun z => z h111) (by rw [hwn]; rw [e40] at g5; exact fun z => z.2 g5)]
                         exact e3 q hq)
                  · refine w_al0 hC dX4_evenings_114 ?_
                    refine v_getR (off := 10) (j := 49) hC dX4_evenings_115 fd_X4_42 rfl rfl rfl ?_
                    refine w_il7 hC dX4_evenings_118 ?_
                    refine w_ic hC dX4_evenings_120 rfl ?_
                    refine w_iastk hC 6 (jn) dX4_evenings_121 rfl rfl (by omega) (by omega) ?_
                    refine v_goto (tgt := 152) hC dX4_evenings_122 rfl ?_
                    have ev : evG (w 40) s (k + 1) = evS (w 40) (evG (w 40) s k) (evXs s (k + 1)) := rfl
                    refine w_dr8 ?_
                    first
                    | (refine tl152 _ (fun q hq => ?_) (fun i q h => by rw [up_id _ _ h]; exact o3 i q h)
                       rw [ev, evS_1 (by rw [hjn]; exact h111), hjn, show ((jn : Nat) : Int).toNat = jn from rfl]
                       unfold ua
                       by_cases z : q = jn
                       · rw [z, up_same, if_pos rfl]
                       · rw [up_pl _ _ z, if_neg z, e3 q hq])
                    | (refine tl152 _ (fun q hq => ?_) (fun i q h => by rw [up_id _ _ h]; exact o3 i q h)
                       rw [ev, evS_2 (by rw [hjn]; exact fun z => z h111) (by rw [hwn]; rw [e40] at g4 g5; exact ⟨g4.2, g5⟩), hjn, hwn, show ((jn : Nat) : Int).toNat = jn from rfl]
                       unfold ua
                       by_cases z : q = jn
                       · rw [z, up_same, if_pos rfl]
                       · rw [up_pl _ _ z, if_neg z, e3 q hq])
                    | (refine tl152 w3 (fun q hq => ?_) o3
                       rw [ev, evS_3 (by rw [hjn]; exact fun z => z h111) (by rw [hwn]; rw [e40] at g4; exact fun z => g4 ⟨by omega, z.1⟩)]
                       exact e3 q hq)
                    | (refine tl152 w3 (fun q hq => ?_) o3
                       rw [ev, evS_3 (by rw [hjn]; exact fun z => z h111) (by rw [hwn]; rw [e40] at g5; exact fun z => z.2 g5)]
                       exact e3 q hq)
            exact lp55 (n.toNat + 1) w2 0 (by omega) (by omega) (fun q hq => e2 q (by omega)) o2
          · refine w_al0 hC dX4_evenings_33 ?_
            refine v_getR (off := 10) (j := 49) hC dX4_evenings_34 fd_X4_42 rfl rfl rfl ?_
            refine w_il3 hC dX4_evenings_37 ?_
            refine w_ic hC dX4_evenings_38 rfl ?_
            refine w_iastk hC 6 (j) dX4_evenings_39 rfl rfl (by omega) (by omega) ?_
            refine w_inc3 hC dX4_evenings_40 hN (by first | rfl | assumption) (ri_mk (by omega) (by omega)) ?_
            refine v_goto (tgt := 27) hC dX4_evenings_43 rfl ?_
            refine w_dr4 ?_
            refine w_dr5 ?_
            refine w_dr6 ?_
            refine w_dr7 ?_
            refine w_dr8 ?_
            exact ih27 _ (j + 1) (by omega) (by omega) (lt_s (fun q hq => by rw [up_pl _ _ (by omega)]; exact e2 q hq) (up_same _ _ _ _)) (fun i k h => by rw [up_id _ _ h]; exact o2 i k h)
      exact lp27 7 w 0 (by omega) (by omega) (fun q h => by omega) (fun _ _ _ => rfl)
    · refine v_if_ne (tgt := 25) hC dX4_evenings_17 rfl (fun h => absurd h (by decide)) (fun _ => ?_)
      refine w_al0 hC dX4_evenings_20 ?_
      refine w_vi0 hC vi_X4_60 rfl dX4_evenings_21 rfl hN (d_bad ?_)
      refine v_iret hC hR dX4_evenings_24 ?_
      exact hb0 (by omega)
  · refine v_if_eq (tgt := 20) hC dX4_evenings_7 rfl (fun _ => ?_) (fun h => absurd h (by decide))
    refine w_al0 hC dX4_evenings_20 ?_
    refine w_vi0 hC vi_X4_60 rfl dX4_evenings_21 rfl hN (d_bad ?_)
    refine v_iret hC hR dX4_evenings_24 ?_
    exact hb0 (by omega)

theorem d_part {d : Nat} {w : Wd} {Q : Option MV → Wd → Prop} {x : Int} (hb0 : ¬ (0 ≤ x ∧ x ≤ 1) → Q (some (.inr (.inl (-2)))) (cI w 44 0)) (hk0 : x = 0 → Q (some (.inr (.inl (w 39 5)))) w) (hk1 : x = 1 → Q (some (.inr (.inl (w 39 6)))) w) : Call (d + 2) mX4_part [vR 39, vI x] w Q := by
  refine call_in (ls := [some (vR 39), some (vI x)]) (by decide +kernel) rfl (Nat.le_of_ble_eq_true rfl) (fun κ hC hR hN => ?_)
  have hC : ctxB κ RX4 cX4_part (d + 2) := hC
  have hN : mlx κ 2 := hN
  refine w_il1 hC dX4_part_0 ?_
  refine v_if_ne (tgt := 11) hC dX4_part_1 rfl (fun h1 => ?_) (fun h1 => ?_)
  · refine w_il1 hC dX4_part_11 ?_
    refine w_ic hC dX4_part_12 rfl ?_
    refine v_ic_ne (tgt := 23) hC dX4_part_13 rfl (fun h13 => ?_) (fun h13 => ?_)
    · refine w_al0 hC dX4_part_23 ?_
      refine w_vi0 hC vi_X4_60 rfl dX4_part_24 rfl hN (d_bad ?_)
      refine v_i2l hC dX4_part_27 ?_
      refine v_lret hC hR dX4_part_28 ?_
      first | exact hk0 (by omega) | exact hk1 (by omega) | exact hb0 (by omega)
    · refine w_al0 hC dX4_part_16 ?_
      refine v_getL hC dX4_part_17 fd_X4_26 rfl rfl ?_
      refine v_goto (tgt := 28) hC dX4_part_20 rfl ?_
      refine v_lret hC hR dX4_part_28 ?_
      first | exact hk0 (by omega) | exact hk1 (by omega) | exact hb0 (by omega)
  · refine w_al0 hC dX4_part_4 ?_
    refine v_getL hC dX4_part_5 fd_X4_234 rfl rfl ?_
    refine v_goto (tgt := 28) hC dX4_part_8 rfl ?_
    refine v_lret hC hR dX4_part_28 ?_
    first | exact hk0 (by omega) | exact hk1 (by omega) | exact hb0 (by omega)

theorem d_image {d : Nat} {w : Wd} {Q : Option MV → Wd → Prop} {x : Int} (hb0 : ¬ (0 ≤ x ∧ x ≤ 1) → Q (some (.inl (-2))) (cI w 44 0)) (hk : ∀ i : Nat, x = (i : Int) → i ≤ 1 → ∀ w2, (∀ q, q < 127 → w2 42 (127 * i + q) = w 40 q) → w2 43 i = 1 → (∀ a b : Nat, ¬ (a = 42 ∧ 127 * i ≤ b ∧ b < 127 * i + 127) → ¬ (a = 43 ∧ b = i) → w2 a b = w a b) → Q (some (.inl 1)) w2) : Call (d + 2) mX4_image [vR 39, vI x] w Q := by
  refine call_in (ls := [some (vR 39), some (vI x)]) (by decide +kernel) rfl (Nat.le_of_ble_eq_true rfl) (fun κ hC hR hN => ?_)
  have hC : ctxB κ RX4 cX4_image (d + 2) := hC
  have hN : mlx κ 2 := hN
  refine w_il1 hC dX4_image_0 ?_
  refine w_ic hC dX4_image_1 rfl ?_
  refine w_ic hC dX4_image_2 rfl ?_
  refine w_st3 hC st_X4_53 dX4_image_3 rfl hN (d_in (fun g1 => ?_) (fun g1 => ?_))
  · refine v_if_ne (tgt := 14) hC dX4_image_6 rfl (fun _ => ?_) (fun h => absurd h (by decide))
    obtain ⟨i, rfl⟩ := Int.eq_ofNat_of_zero_le g1.1
    refine w_al0 hC dX4_image_14 ?_
    refine v_getR (off := 1) (j := 40) hC dX4_image_15 fd_X4_7 rfl rfl rfl ?_
    refine w_ic hC dX4_image_18 rfl ?_
    refine w_al0 hC dX4_image_19 ?_
    refine v_getR (off := 3) (j := 42) hC dX4_image_20 fd_X4_16 rfl rfl rfl ?_
    refine v_bipush hC dX4_image_23 (by decide) ?_
    refine w_il1 hC dX4_image_25 ?_
    refine w_imul hC dX4_image_26 (ri_mk (by omega) (by omega)) ?_
    rw [show (127 : Int) * ((i : Nat) : Int) = ((127 * i : Nat) : Int) by omega]
    refine v_bipush hC dX4_image_27 (by decide) ?_
    refine w_st5 hC st_X4_148 dX4_image_29 rfl hN (d_bring (x := 40) (y := 42) (i := 0) (j := 127 * i) (n := 127) rfl rfl (by decide) (show 127 * i + 127 ≤ 254 by omega) (Or.inl (by decide)) (fun w2 b2 o2 => ?_))
    refine w_al0 hC dX4_image_32 ?_
    refine v_getR (off := 4) (j := 43) hC dX4_image_33 fd_X4_19 rfl rfl rfl ?_
    refine w_il1 hC dX4_image_36 ?_
    refine w_ic hC dX4_image_37 rfl ?_
    refine w_zast hC 2 dX4_image_38 rfl rfl (by omega) (by omega) (by decide) ?_
    refine w_ic hC dX4_image_39 rfl ?_
    refine v_iret hC hR dX4_image_40 ?_
    rw [show ((i : Nat) : Int).toNat = i from rfl]
    refine hk i rfl (by omega) _ (fun q hq => ?_) (up_same _ _ _ _) (fun a b h1 h2 => by rw [up_ne _ _ h2]; exact o2 a b h1)
    rw [up_id _ _ (by decide), b2 q hq, Nat.zero_add]
  · refine v_if_ne (tgt := 14) hC dX4_image_6 rfl (fun h => absurd h (by decide)) (fun _ => ?_)
    refine w_al0 hC dX4_image_9 ?_
    refine w_vi0 hC vi_X4_60 rfl dX4_image_10 rfl hN (d_bad ?_)
    refine v_iret hC hR dX4_image_13 ?_
    exact hb0 g1

theorem d_from {d : Nat} {w : Wd} {Q : Option MV → Wd → Prop} {x : Int} (hb0 : ¬ (0 ≤ x ∧ x ≤ 1) → Q (some (.inl (-2))) (cI w 44 0)) (hn0 : ∀ i : Nat, x = (i : Int) → i ≤ 1 → w 43 i = 0 → Q (some (.inl (-3))) (cI w 44 1)) (hk : ∀ i : Nat, x = (i : Int) → i ≤ 1 → w 43 i ≠ 0 → ∀ w2, (∀ q, q < 127 → w2 40 q = w 42 (127 * i + q)) → smN w w2 → Q (some (.inl 1)) w2) : Call (d + 2) mX4_from [vR 39, vI x] w Q := by
  refine call_in (ls := [some (vR 39), some (vI x)]) (by decide +kernel) rfl (Nat.le_of_ble_eq_true rfl) (fun κ hC hR hN => ?_)
  have hC : ctxB κ RX4 cX4_from (d + 2) := hC
  have hN : mlx κ 2 := hN
  refine w_il1 hC dX4_from_0 ?_
  refine w_ic hC dX4_from_1 rfl ?_
  refine w_ic hC dX4_from_2 rfl ?_
  refine w_st3 hC st_X4_53 dX4_from_3 rfl hN (d_in (fun g1 => ?_) (fun g1 => ?_))
  · refine v_if_ne (tgt := 14) hC dX4_from_6 rfl (fun _ => ?_) (fun h => absurd h (by decide))
    obtain ⟨i, rfl⟩ := Int.eq_ofNat_of_zero_le g1.1
    refine w_al0 hC dX4_from_14 ?_
    refine v_getR (off := 4) (j := 43) hC dX4_from_15 fd_X4_19 rfl rfl rfl ?_
    refine w_il1 hC dX4_from_18 ?_
    refine w_zald hC 2 dX4_from_19 rfl rfl (by omega) (by omega) ?_
    rw [show ((i : Nat) : Int).toNat = i from rfl]
    refine v_if_ne (tgt := 28) hC dX4_from_20 rfl (fun h20 => ?_) (fun h20 => ?_)
    · refine w_al0 hC dX4_from_28 ?_
      refine v_getR (off := 3) (j := 42) hC dX4_from_29 fd_X4_16 rfl rfl rfl ?_
      refine v_bipush hC dX4_from_32 (by decide) ?_
      refine w_il1 hC dX4_from_34 ?_
      refine w_imul hC dX4_from_35 (ri_mk (by omega) (by omega)) ?_
      rw [show (127 : Int) * ((i : Nat) : Int) = ((127 * i : Nat) : Int) by omega]
      refine w_al0 hC dX4_from_36 ?_
      refine v_getR (off := 1) (j := 40) hC dX4_from_37 fd_X4_7 rfl rfl rfl ?_
      refine w_ic hC dX4_from_40 rfl ?_
      refine v_bipush hC dX4_from_41 (by decide) ?_
      refine w_st5 hC st_X4_148 dX4_from_43 rfl hN (d_bring (x := 42) (y := 40) (i := 127 * i) (j := 0) (n := 127) rfl rfl (show 127 * i + 127 ≤ 254 by omega) (by decide) (Or.inl (by decide)) (fun w2 b2 o2 => ?_))
      refine w_ic hC dX4_from_46 rfl ?_
      refine v_iret hC hR dX4_from_47 ?_
      exact hk i rfl (by omega) (by omega) _ (fun q hq => by have := b2 q hq; rw [Nat.zero_add] at this; exact this) (fun a b h => o2 a b (by omega))
    · refine w_al0 hC dX4_from_23 ?_
      refine w_vi0 hC vi_X4_68 rfl dX4_from_24 rfl hN (d_no ?_)
      refine v_iret hC hR dX4_from_27 ?_
      exact hn0 i rfl (by omega) (by omega)
  · refine v_if_ne (tgt := 14) hC dX4_from_6 rfl (fun h => absurd h (by decide)) (fun _ => ?_)
    refine w_al0 hC dX4_from_9 ?_
    refine w_vi0 hC vi_X4_60 rfl dX4_from_10 rfl hN (d_bad ?_)
    refine v_iret hC hR dX4_from_13 ?_
    exact hb0 g1

theorem d_status {d : Nat} {w : Wd} {Q : Option MV → Wd → Prop} {x : Int} (hb0 : ¬ (0 ≤ x ∧ x ≤ 2) → Q (some (.inl (-1))) (cI w 44 0)) (hk : 0 ≤ x ∧ x ≤ 2 → Q (some (.inl (w 44 x.toNat))) w) : Call (d + 1) mX4_status [vR 39, vI x] w Q := by
  refine call_in (ls := [some (vR 39), some (vI x)]) (by decide +kernel) rfl (Nat.le_of_ble_eq_true rfl) (fun κ hC hR hN => ?_)
  have hC : ctxB κ RX4 cX4_status (d + 1) := hC
  have hN : mlx κ 2 := hN
  refine w_il1 hC dX4_status_0 ?_
  refine w_ic hC dX4_status_1 rfl ?_
  refine w_ic hC dX4_status_2 rfl ?_
  refine w_st3 hC st_X4_53 dX4_status_3 rfl hN (d_in (fun g1 => ?_) (fun g1 => ?_))
  · refine v_if_eq (tgt := 18) hC dX4_status_6 rfl (fun h => absurd h (by decide)) (fun _ => ?_)
    refine w_al0 hC dX4_status_9 ?_
    refine v_getR (off := 5) (j := 44) hC dX4_status_10 fd_X4_23 rfl rfl rfl ?_
    refine w_il1 hC dX4_status_13 ?_
    refine w_ialdk hC 3 (x.toNat) dX4_status_14 rfl rfl (by omega) (by omega) ?_
    refine v_goto (tgt := 23) hC dX4_status_15 rfl ?_
    refine v_iret hC hR dX4_status_23 ?_
    first | exact hk g1 | exact hb0 g1
  · refine v_if_eq (tgt := 18) hC dX4_status_6 rfl (fun _ => ?_) (fun h => absurd h (by decide))
    refine w_al0 hC dX4_status_18 ?_
    refine w_ic hC dX4_status_19 rfl ?_
    refine w_vi1 hC vi_X4_49 rfl dX4_status_20 rfl hN (d_badBy ?_)
    refine v_iret hC hR dX4_status_23 ?_
    first | exact hk g1 | exact hb0 g1
