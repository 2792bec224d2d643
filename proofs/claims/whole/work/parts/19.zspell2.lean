/-! least costs -/
def BL (w : Wd) (F : Nat → Nat → Bool) (C : Nat → Nat → Int) (n m : Nat) (u : Nat) : Prop := ∀ q, u ≤ q → q < 2 ^ n → w 37 q = bsL F C n m q

theorem c_costWith {d : Nat} {w : Wd} {Q : Option MV → Wd → Prop} {a : Nat → Int} {n m : Nat} (hv : VX w 1 a) (hA : AOK a) (h3 : a 3 = n) (h1 : a 1 = m) {c z : Int} {u k : Nat} (hu : u < 2 ^ n) (hk : k < n) (hj : pcN u < m) (hz : w 37 (u ||| 2 ^ k) = z) (hzr : 0 ≤ z ∧ z ≤ 1000000) (hQ : Q (some (.inl (coF a c k (pcN u) + z))) w) : Call (d + 3) mX0_costWith [vR 35, vR 1, vI c, vI (u : Int), vI (k : Int)] w Q := by
  have hb := vb1
  have am := hA.m
  have an := hA.n
  rw [h3] at an
  rw [h1] at am
  have h256 := n2_le (n := n) (by omega)
  have x1 : w 1 1 = m := by rw [hv.1.2.1, h1]
  have x3 : w 1 3 = n := by rw [hv.1.2.2.2.1, h3]
  refine call_in (ls := [some (vR 35), some (vR 1), some (vI c), some (vI (u : Int)), some (vI (k : Int)), none]) (by decide +kernel) rfl (Nat.le_of_ble_eq_true rfl) (fun κ hC hR hN => ?_)
  have hC : ctxB κ RX0 cX0_costWith (d + 3) := hC
  have hN : mlx κ 6 := hN
  have tl18 : ∀ (o : Int), (o = coF a c k (pcN u)) → VV κ 18 [some (vR 35), some (vR 1), some (vI c), some (vI (u : Int)), some (vI (k : Int)), none] [vI o] w := by
    intro o ho
    have hcr := coF_r hA h3 h1 c hk hj
    rw [ho]
    refine w_is5 hC dX0_costWith_18 hN (by first | rfl | assumption) ?_
    refine w_il5 hC dX0_costWith_20 ?_
    refine w_al0 hC dX0_costWith_22 ?_
    refine v_getR (off := 2) (j := 37) hC dX0_costWith_23 fd_X0_15 rfl rfl rfl ?_
    refine w_il3 hC dX0_costWith_26 ?_
    refine w_ic hC dX0_costWith_27 rfl ?_
    refine w_il4 hC dX0_costWith_28 ?_
    refine v_ishl hC dX0_costWith_30 ?_
    rw [bShl_1 (by omega)]
    refine v_ior hC dX0_costWith_31 ?_
    rw [bOr_n (by omega) (by have := two_lt hk; omega)]
    have hob := or2_lt hu hk
    refine w_sn2 hC sn_X0_42 dX0_costWith_32 rfl hN (c_at rfl ?_)
    rw [atV_n w (show u ||| 2 ^ k < 256 by omega), hz]
    refine w_iadd hC dX0_costWith_35 (ri_mk (by omega) (by omega)) ?_
    refine v_iret hC hR dX0_costWith_36 ?_
    exact hQ
  refine w_il2 hC dX0_costWith_0 ?_
  refine v_if_eq (tgt := 17) hC dX0_costWith_1 rfl (fun h1 => ?_) (fun h1 => ?_)
  · refine w_ic hC dX0_costWith_17 rfl ?_
    exact tl18 _ (by unfold coF; first | rw [if_pos (by omega)] | rw [if_neg (by omega)])
  · refine w_al1 hC dX0_costWith_4 ?_
    refine w_il4 hC dX0_costWith_5 ?_
    refine w_il3 hC dX0_costWith_7 ?_
    refine w_st1 hC st_X0_46 dX0_costWith_8 rfl hN (c_bitCount (by omega) ?_)
    refine w_vi2 hC vi_X0_66 rfl dX0_costWith_11 rfl hN (c_costBy hb hv hA ⟨by omega, by omega⟩ ⟨by omega, by omega⟩ ?_)
    refine v_goto (tgt := 18) hC dX0_costWith_14 rfl ?_
    exact tl18 _ (by unfold coF; first | rw [if_pos (by omega)] | rw [if_neg (by omega)])

theorem bf_ne {b : Bool} (h : b = false) : ¬ b = true := fun z => by rw [h] at z; exact absurd z (by decide)

theorem c_leastCost {d : Nat} {w : Wd} {Q : Option MV → Wd → Prop} {a : Nat → Int} {n m : Nat} (hv : VX w 1 a) (hA : AOK a) (h3 : a 3 = n) (h1 : a 1 = m) {F : Nat → Nat → Bool} {c : Int} (hF : FT w n m F) (hQ : ∀ w2, BL w2 F (coF a c) n m 0 → smO w w2 (fun i => i ≠ 37) → Q (some (.inl (if 1000000 ≤ lsN F (coF a c) n m m 0 then -6 else lsN F (coF a c) n m m 0))) w2) : Call (d + 4) mX0_leastCost [vR 35, vR 1, vI c] w Q := by
  have hb := vb1
  have am := hA.m
  have an := hA.n
  rw [h3] at an
  rw [h1] at am
  have h256 := n2_le (n := n) (by omega)
  have x1 : w 1 1 = m := by rw [hv.1.2.1, h1]
  have x3 : w 1 3 = n := by rw [hv.1.2.2.2.1, h3]
  refine call_in (ls := [some (vR 35), some (vR 1), some (vI c), none, none, none, none, none]) (by decide +kernel) rfl (Nat.le_of_ble_eq_true rfl) (fun κ hC hR hN => ?_)
  have hC : ctxB κ RX0 cX0_leastCost (d + 4) := hC
  have hN : mlx κ 8 := hN
  refine w_ic hC dX0_leastCost_0 rfl ?_
  refine w_al1 hC dX0_leastCost_1 ?_
  refine v_getI hC dX0_leastCost_2 fd_X0_27 rfl rfl ?_
  rw [x3]
  refine v_ishl hC dX0_leastCost_5 ?_
  rw [bShl_1 (by omega)]
  have hp2 : 0 < 2 ^ n := Nat.pow_pos (by decide)
  have hCr : ∀ k j, k < n → j < m → 0 ≤ coF a c k j := fun k j p q => (coF_r hA h3 h1 c p q).1
  refine w_ic hC dX0_leastCost_6 rfl ?_
  refine w_isub hC dX0_leastCost_7 (ri_mk (by omega) (by omega)) ?_
  refine w_is3 hC dX0_leastCost_8 hN (by first | rfl | assumption) ?_
  refine w_dr4 ?_
  refine w_dr5 ?_
  refine w_dr6 ?_
  refine w_dr7 ?_
  have lp9 : ∀ (K : Nat) (w2 : Wd) (t : Nat), t < K → (t ≤ 2 ^ n) → (BL w2 F (coF a c) n m t) → (smO w w2 (fun i => i ≠ 37)) → VV κ 9 [some (vR 35), some (vR 1), some (vI c), some (vI ((t : Int) - 1)), none, none, none, none] [] w2 := by
    intro K
    induction K with
    | zero => intros; omega
    | succ K ih9 =>
      intro w2 t hm9 ht g1 g2
      have hv2 : VX w2 1 a := hv.fr (fun i k p q => g2 i k (show i ≠ 37 by omega))
      have y1 : w2 1 1 = m := by rw [g2 1 1 (by decide), x1]
      have y3 : w2 1 3 = n := by rw [g2 1 3 (by decide), x3]
      refine w_il3 hC dX0_leastCost_9 ?_
      refine v_if_lt (tgt := 129) hC dX0_leastCost_10 rfl (fun h10 => ?_) (fun h10 => ?_)
      · refine w_al0 hC dX0_leastCost_129 ?_
        refine v_getR (off := 2) (j := 37) hC dX0_leastCost_130 fd_X0_15 rfl rfl rfl ?_
        refine w_ic hC dX0_leastCost_133 rfl ?_
        have g10 : w2 37 0 = lsN F (coF a c) n m m 0 := by rw [g1 0 (by omega) (by omega)]; exact if_pos (Nat.zero_le m)
        have h000 : BL w2 F (coF a c) n m 0 := fun q _ h => g1 q (by omega) h
        have hk0 := hQ w2 h000 g2
        refine w_sn2 hC sn_X0_42 dX0_leastCost_134 rfl hN (c_at rfl ?_)
        rw [show atV w2 37 0 = w2 37 0 from atV_n (i := 0) w2 (by decide), g10]
        refine v_ldc (n := 1000000) hC dX0_leastCost_137 ki_X0_55 rfl (ckI_ok rfl) ?_
        refine v_ic_lt (tgt := 147) hC dX0_leastCost_139 rfl (fun h139 => ?_) (fun h139 => ?_)
        · refine w_al0 hC dX0_leastCost_147 ?_
          refine v_getR (off := 2) (j := 37) hC dX0_leastCost_148 fd_X0_15 rfl rfl rfl ?_
          refine w_ic hC dX0_leastCost_151 rfl ?_
          refine w_sn2 hC sn_X0_42 dX0_leastCost_152 rfl hN (c_at rfl ?_)
          rw [show atV w2 37 0 = w2 37 0 from atV_n (i := 0) w2 (by decide), g10]
          refine v_iret hC hR dX0_leastCost_155 ?_
          first | exact qz (if_pos (by omega)) hk0 | exact qz (if_neg (by omega)) hk0
        · refine v_bipush hC dX0_leastCost_142 (by decide) ?_
          refine v_goto (tgt := 155) hC dX0_leastCost_144 rfl ?_
          refine v_iret hC hR dX0_leastCost_155 ?_
          first | exact qz (if_pos (by omega)) hk0 | exact qz (if_neg (by omega)) hk0
      · obtain ⟨u, rfl⟩ : ∃ u, t = u + 1 := ⟨t - 1, by omega⟩
        rw [show (((u + 1 : Nat)) : Int) - 1 = (u : Int) by omega]
        refine w_il3 hC dX0_leastCost_13 ?_
        refine w_st1 hC st_X0_46 dX0_leastCost_14 rfl hN (c_bitCount (by omega) ?_)
        have hpl := pcN_le u
        refine w_is4 hC dX0_leastCost_17 hN (by first | rfl | assumption) ?_
        have tl62 : ∀ (s0 op : Int), (s0 = (if pcN u = m then 0 else 1000000)) → (op = ((opN F n m u : Nat) : Int)) → VV κ 62 [some (vR 35), some (vR 1), some (vI c), some (vI (u : Int)), some (vI ((pcN u : Nat) : Int)), some (vI s0), none, none] [vI op] w2 := by
          intro s0 op hs0 hop
          have hol := opN_lt F n m u
          have hs01 : 0 ≤ s0 ∧ s0 ≤ 1000000 := by rw [hs0]; split <;> omega
          rw [hop]
          refine w_is6 hC dX0_leastCost_62 hN (by first | rfl | assumption) ?_
          refine w_ic hC dX0_leastCost_64 rfl ?_
          refine w_is7 hC dX0_leastCost_65 hN (by first | rfl | assumption) ?_
          have lp67 : ∀ (K2 : Nat) (s : Int) (k : Nat), (n - k) < K2 → (k ≤ n) → (s = mnB (fun k => (opN F n m u).testBit k = true) (opL F (coF a c) n m u) s0 k) → VV κ 67 [some (vR 35), some (vR 1), some (vI c), some (vI (u : Int)), some (vI ((pcN u : Nat) : Int)), some (vI s), some (vI ((opN F n m u : Nat) : Int)), some (vI (k : Int))] [] w2 := by
            intro K2
            induction K2 with
            | zero => intros; omega
            | succ K2 ih67 =>
              intro s k hm67 hk hs
              refine w_il7 hC dX0_leastCost_67 ?_
              refine w_al1 hC dX0_leastCost_69 ?_
              refine v_getI hC dX0_leastCost_70 fd_X0_27 rfl rfl ?_
              rw [y3]
              refine v_ic_ge (tgt := 113) hC dX0_leastCost_73 rfl (fun h73 => ?_) (fun h73 => ?_)
              · have hs9 : s = bsL F (coF a c) n m u := by
                  rw [← bsL_step (by omega) (show u < 2 ^ n by omega), ← hs0, hs]
                  symm
                  refine mnB_stop hk (fun i h1 h2 => ?_)
                  first
                  | (exfalso; omega)
                  | (rw [show opN F n m u = 0 by omega]; simp)
                refine w_al0 hC dX0_leastCost_113 ?_
                refine v_getR (off := 2) (j := 37) hC dX0_leastCost_114 fd_X0_15 rfl rfl rfl ?_
                refine w_il3 hC dX0_leastCost_117 ?_
                refine w_il5 hC dX0_leastCost_118 ?_
                refine w_sn3 hC sn_X0_34 dX0_leastCost_120 rfl hN (c_set rfl ?_)
                rw [stV_n w2 (show u < 256 by omega)]
                refine w_inc3 hC dX0_leastCost_123 hN (by first | rfl | assumption) (ri_mk (by omega) (by omega)) ?_
                rw [show (u : Int) + -1 = (u : Int) - 1 by omega]
                refine v_goto (tgt := 9) hC dX0_leastCost_126 rfl ?_
                refine w_dr4 ?_
                refine w_dr5 ?_
                refine w_dr6 ?_
                refine w_dr7 ?_
                exact ih9 _ u (by omega) (by omega) (fun q h1 h2 => by
                  by_cases z : q = u
                  · subst z; rw [up_same]; exact hs9
                  · rw [up_pl _ _ z]; exact g1 q (by omega) h2) (fun i q hi => by rw [up_id _ _ hi]; exact g2 i q hi)
              · refine w_il6 hC dX0_leastCost_76 ?_
                refine v_if_eq (tgt := 113) hC dX0_leastCost_78 rfl (fun h78 => ?_) (fun h78 => ?_)
                · have hs9 : s = bsL F (coF a c) n m u := by
                    rw [← bsL_step (by omega) (show u < 2 ^ n by omega), ← hs0, hs]
                    symm
                    refine mnB_stop hk (fun i h1 h2 => ?_)
                    first
                    | (exfalso; omega)
                    | (rw [show opN F n m u = 0 by omega]; simp)
                  refine w_al0 hC dX0_leastCost_113 ?_
                  refine v_getR (off := 2) (j := 37) hC dX0_leastCost_114 fd_X0_15 rfl rfl rfl ?_
                  refine w_il3 hC dX0_leastCost_117 ?_
                  refine w_il5 hC dX0_leastCost_118 ?_
                  refine w_sn3 hC sn_X0_34 dX0_leastCost_120 rfl hN (c_set rfl ?_)
                  rw [stV_n w2 (show u < 256 by omega)]
                  refine w_inc3 hC dX0_leastCost_123 hN (by first | rfl | assumption) (ri_mk (by omega) (by omega)) ?_
                  rw [show (u : Int) + -1 = (u : Int) - 1 by omega]
                  refine v_goto (tgt := 9) hC dX0_leastCost_126 rfl ?_
                  refine w_dr4 ?_
                  refine w_dr5 ?_
                  refine w_dr6 ?_
                  refine w_dr7 ?_
                  exact ih9 _ u (by omega) (by omega) (fun q h1 h2 => by
                    by_cases z : q = u
                    · subst z; rw [up_same]; exact hs9
                    · rw [up_pl _ _ z]; exact g1 q (by omega) h2) (fun i q hi => by rw [up_id _ _ hi]; exact g2 i q hi)
                · refine w_il6 hC dX0_leastCost_81 ?_
                  refine w_il7 hC dX0_leastCost_83 ?_
                  refine w_sn2 hC sn_X0_51 dX0_leastCost_85 rfl hN (c_hasBit (by omega) (by omega) (fun g5 => ?_) (fun g5 => ?_))
                  · refine v_if_eq (tgt := 107) hC dX0_leastCost_88 rfl (fun h => absurd h (by decide)) (fun _ => ?_)
                    refine w_il5 hC dX0_leastCost_91 ?_
                    refine w_al0 hC dX0_leastCost_93 ?_
                    refine w_al1 hC dX0_leastCost_94 ?_
                    refine w_il2 hC dX0_leastCost_95 ?_
                    refine w_il3 hC dX0_leastCost_96 ?_
                    refine w_il7 hC dX0_leastCost_97 ?_
                    have gob := (opN_bit F n m u k).mp g5
                    refine w_vi4 hC vi_X0_56 rfl dX0_leastCost_99 rfl hN (c_costWith hv2 hA h3 h1 (by omega) (by omega) gob.1 (g1 _ (by have := or_gt gob.2.2.2; omega) (or2_lt (by omega) (by omega))) (bsL_r hCr _) ?_)
                    refine w_st2 hC st_X0_60 dX0_leastCost_102 rfl hN (c_min ?_)
                    refine w_is5 hC dX0_leastCost_105 hN (by first | rfl | assumption) ?_
                    refine w_inc7 hC dX0_leastCost_107 hN (by first | rfl | assumption) (ri_mk (by omega) (by omega)) ?_
                    refine v_goto (tgt := 67) hC dX0_leastCost_110 rfl ?_
                    first | exact ih67 _ (k + 1) (by omega) (by omega) (mnB_t (f := opL F (coF a c) n m u) hs g5 rfl) | exact ih67 _ (k + 1) (by omega) (by omega) (mnB_f hs (bf_ne g5))
                  · refine v_if_eq (tgt := 107) hC dX0_leastCost_88 rfl (fun _ => ?_) (fun h => absurd h (by decide))
                    refine w_inc7 hC dX0_leastCost_107 hN (by first | rfl | assumption) (ri_mk (by omega) (by omega)) ?_
                    refine v_goto (tgt := 67) hC dX0_leastCost_110 rfl ?_
                    first | exact ih67 _ (k + 1) (by omega) (by omega) (mnB_t (f := opL F (coF a c) n m u) hs g5 rfl) | exact ih67 _ (k + 1) (by omega) (by omega) (mnB_f hs (bf_ne g5))
          exact lp67 (n + 1) s0 0 (by omega) (by omega) rfl
        refine w_il4 hC dX0_leastCost_19 ?_
        refine w_al1 hC dX0_leastCost_21 ?_
        refine v_getI hC dX0_leastCost_22 fd_X0_21 rfl rfl ?_
        rw [y1]
        refine v_ic_ne (tgt := 32) hC dX0_leastCost_25 rfl (fun h25 => ?_) (fun h25 => ?_)
        · refine v_ldc (n := 1000000) hC dX0_leastCost_32 ki_X0_55 rfl (ckI_ok rfl) ?_
          refine w_is5 hC dX0_leastCost_34 hN (by first | rfl | assumption) ?_
          refine w_il4 hC dX0_leastCost_36 ?_
          refine w_al1 hC dX0_leastCost_38 ?_
          refine v_getI hC dX0_leastCost_39 fd_X0_21 rfl rfl ?_
          rw [y1]
          refine v_ic_ge (tgt := 61) hC dX0_leastCost_42 rfl (fun h42 => ?_) (fun h42 => ?_)
          · refine w_ic hC dX0_leastCost_61 rfl ?_
            first | (exfalso; omega) | exact tl62 _ _ (ite_t (by omega)) (op_0 (by omega)) | exact tl62 _ _ (ite_f (by omega)) (op_0 (by omega)) | exact tl62 _ _ (ite_f (by omega)) (op_1 (by omega))
          · refine w_al0 hC dX0_leastCost_45 ?_
            refine v_getR (off := 1) (j := 36) hC dX0_leastCost_46 fd_X0_9 rfl rfl rfl ?_
            refine w_il4 hC dX0_leastCost_49 ?_
            refine w_sn2 hC sn_X0_42 dX0_leastCost_51 rfl hN (c_at rfl ?_)
            rw [atV_n w2 (show pcN u < 6 by omega), g2 36 _ (by decide), hF _ (by omega)]
            refine w_il3 hC dX0_leastCost_54 ?_
            refine w_ic hC dX0_leastCost_55 rfl ?_
            refine v_ixor hC dX0_leastCost_56 ?_
            refine v_iand hC dX0_leastCost_57 ?_
            rw [bAnd_not (by have := ms_small (F := F) (n := n) (j := pcN u) (by omega); omega)]
            refine v_goto (tgt := 62) hC dX0_leastCost_58 rfl ?_
            first | (exfalso; omega) | exact tl62 _ _ (ite_t (by omega)) (op_0 (by omega)) | exact tl62 _ _ (ite_f (by omega)) (op_0 (by omega)) | exact tl62 _ _ (ite_f (by omega)) (op_1 (by omega))
        · refine w_ic hC dX0_leastCost_28 rfl ?_
          refine v_goto (tgt := 34) hC dX0_leastCost_29 rfl ?_
          refine w_is5 hC dX0_leastCost_34 hN (by first | rfl | assumption) ?_
          refine w_il4 hC dX0_leastCost_36 ?_
          refine w_al1 hC dX0_leastCost_38 ?_
          refine v_getI hC dX0_leastCost_39 fd_X0_21 rfl rfl ?_
          rw [y1]
          refine v_ic_ge (tgt := 61) hC dX0_leastCost_42 rfl (fun h42 => ?_) (fun h42 => ?_)
          · refine w_ic hC dX0_leastCost_61 rfl ?_
            first | (exfalso; omega) | exact tl62 _ _ (ite_t (by omega)) (op_0 (by omega)) | exact tl62 _ _ (ite_f (by omega)) (op_0 (by omega)) | exact tl62 _ _ (ite_f (by omega)) (op_1 (by omega))
          · refine w_al0 hC dX0_leastCost_45 ?_
            refine v_getR (off := 1) (j := 36) hC dX0_leastCost_46 fd_X0_9 rfl rfl rfl ?_
            refine w_il4 hC dX0_leastCost_49 ?_
            refine w_sn2 hC sn_X0_42 dX0_leastCost_51 rfl hN (c_at rfl ?_)
            rw [atV_n w2 (show pcN u < 6 by omega), g2 36 _ (by decide), hF _ (by omega)]
            refine w_il3 hC dX0_leastCost_54 ?_
            refine w_ic hC dX0_leastCost_55 rfl ?_
            refine v_ixor hC dX0_leastCost_56 ?_
            refine v_iand hC dX0_leastCost_57 ?_
            rw [bAnd_not (by have := ms_small (F := F) (n := n) (j := pcN u) (by omega); omega)]
            refine v_goto (tgt := 62) hC dX0_leastCost_58 rfl ?_
            first | (exfalso; omega) | exact tl62 _ _ (ite_t (by omega)) (op_0 (by omega)) | exact tl62 _ _ (ite_f (by omega)) (op_0 (by omega)) | exact tl62 _ _ (ite_f (by omega)) (op_1 (by omega))
  exact lp9 (2 ^ n + 1) w (2 ^ n) (by omega) (by omega) (fun q h1 h2 => by omega) (fun i k h => rfl)

def nxL (F : Nat → Nat → Bool) (C : Nat → Nat → Int) (n m u : Nat) : Int := fstI (fun k => (u.testBit k = false ∧ F k (pcN u) = true) ∧ C k (pcN u) + bsL F C n m (u ||| 2 ^ k) = bsL F C n m u) n
def uSL (F : Nat → Nat → Bool) (C : Nat → Nat → Int) (n m : Nat) : Nat → Nat
  | 0 => 0
  | i + 1 => uSL F C n m i ||| 2 ^ (nxL F C n m (uSL F C n m i)).toNat

theorem c_nextOfLeast {d : Nat} {w : Wd} {Q : Option MV → Wd → Prop} {a : Nat → Int} {n m : Nat} (hv : VX w 1 a) (hA : AOK a) (h3 : a 3 = n) (h1 : a 1 = m) {F : Nat → Nat → Bool} {c : Int} {u : Nat} (hF : FT w n m F) (hB : BL w F (coF a c) n m 0) (hu : u < 2 ^ n) (hj : pcN u < m) (hQ : Q (some (.inl (nxL F (coF a c) n m u))) w) : Call (d + 4) mX0_nextOfLeast [vR 35, vR 1, vI c, vI (u : Int)] w Q := by
  have hb := vb1
  have am := hA.m
  have an := hA.n
  rw [h3] at an
  rw [h1] at am
  have h256 := n2_le (n := n) (by omega)
  have x1 : w 1 1 = m := by rw [hv.1.2.1, h1]
  have x3 : w 1 3 = n := by rw [hv.1.2.2.2.1, h3]
  refine call_in (ls := [some (vR 35), some (vR 1), some (vI c), some (vI (u : Int)), none, none]) (by decide +kernel) rfl (Nat.le_of_ble_eq_true rfl) (fun κ hC hR hN => ?_)
  have hC : ctxB κ RX0 cX0_nextOfLeast (d + 4) := hC
  have hN : mlx κ 6 := hN
  refine w_al0 hC dX0_nextOfLeast_0 ?_
  refine v_getR (off := 1) (j := 36) hC dX0_nextOfLeast_1 fd_X0_9 rfl rfl rfl ?_
  refine w_il3 hC dX0_nextOfLeast_4 ?_
  refine w_st1 hC st_X0_46 dX0_nextOfLeast_5 rfl hN (c_bitCount (by omega) ?_)
  refine w_sn2 hC sn_X0_42 dX0_nextOfLeast_8 rfl hN (c_at rfl ?_)
  rw [atV_n w (show pcN u < 6 by omega), hF _ (by omega)]
  refine w_il3 hC dX0_nextOfLeast_11 ?_
  refine w_ic hC dX0_nextOfLeast_12 rfl ?_
  refine v_ixor hC dX0_nextOfLeast_13 ?_
  refine v_iand hC dX0_nextOfLeast_14 ?_
  rw [bAnd_not (by have := ms_small (F := F) (n := n) (j := pcN u) (by omega); omega), op_1 hj]
  have hol := opN_lt F n m u
  have hCr : ∀ k j, k < n → j < m → 0 ≤ coF a c k j := fun k j p q => (coF_r hA h3 h1 c p q).1
  refine w_is4 hC dX0_nextOfLeast_15 hN (by first | rfl | assumption) ?_
  refine w_ic hC dX0_nextOfLeast_17 rfl ?_
  refine w_is5 hC dX0_nextOfLeast_18 hN (by first | rfl | assumption) ?_
  have lp20 : ∀ (K : Nat) (k : Nat), (n - k) < K → (k ≤ n) → (∀ i, i < k → ¬ ((u.testBit i = false ∧ F i (pcN u) = true) ∧ coF a c i (pcN u) + bsL F (coF a c) n m (u ||| 2 ^ i) = bsL F (coF a c) n m u)) → VV κ 20 [some (vR 35), some (vR 1), some (vI c), some (vI (u : Int)), some (vI ((opN F n m u : Nat) : Int)), some (vI (k : Int))] [] w := by
    intro K
    induction K with
    | zero => intros; omega
    | succ K ih20 =>
      intro k hm20 hk hx
      refine w_il5 hC dX0_nextOfLeast_20 ?_
      refine w_al1 hC dX0_nextOfLeast_22 ?_
      refine v_getI hC dX0_nextOfLeast_23 fd_X0_27 rfl rfl ?_
      rw [x3]
      refine v_ic_ge (tgt := 68) hC dX0_nextOfLeast_26 rfl (fun h26 => ?_) (fun h26 => ?_)
      · refine w_ic hC dX0_nextOfLeast_68 rfl ?_
        refine v_iret hC hR dX0_nextOfLeast_69 ?_
        exact qz (fstI_no (fun i hi => hx i (by omega))) hQ
      · refine w_il4 hC dX0_nextOfLeast_29 ?_
        refine w_il5 hC dX0_nextOfLeast_31 ?_
        refine w_sn2 hC sn_X0_51 dX0_nextOfLeast_33 rfl hN (c_hasBit (by omega) (by omega) (fun g5 => ?_) (fun g5 => ?_))
        · refine v_if_eq (tgt := 62) hC dX0_nextOfLeast_36 rfl (fun h => absurd h (by decide)) (fun _ => ?_)
          refine w_al0 hC dX0_nextOfLeast_39 ?_
          refine w_al1 hC dX0_nextOfLeast_40 ?_
          refine w_il2 hC dX0_nextOfLeast_41 ?_
          refine w_il3 hC dX0_nextOfLeast_42 ?_
          refine w_il5 hC dX0_nextOfLeast_43 ?_
          refine w_vi4 hC vi_X0_56 rfl dX0_nextOfLeast_45 rfl hN (c_costWith hv hA h3 h1 hu (by omega) hj (hB _ (Nat.zero_le _) (or2_lt hu (by omega))) (bsL_r hCr _) ?_)
          refine w_al0 hC dX0_nextOfLeast_48 ?_
          refine v_getR (off := 2) (j := 37) hC dX0_nextOfLeast_49 fd_X0_15 rfl rfl rfl ?_
          refine w_il3 hC dX0_nextOfLeast_52 ?_
          refine w_sn2 hC sn_X0_42 dX0_nextOfLeast_53 rfl hN (c_at rfl ?_)
          rw [atV_n w (show u < 256 by omega), hB u (Nat.zero_le _) hu]
          refine v_ic_ne (tgt := 62) hC dX0_nextOfLeast_56 rfl (fun h56 => ?_) (fun h56 => ?_)
          · refine w_inc5 hC dX0_nextOfLeast_62 hN (by first | rfl | assumption) (ri_mk (by omega) (by omega)) ?_
            refine v_goto (tgt := 20) hC dX0_nextOfLeast_65 rfl ?_
            first | exact ih20 (k + 1) (by omega) (by omega) (lt_s hx (fun z => h56 z.2)) | exact ih20 (k + 1) (by omega) (by omega) (lt_s hx (fun z => bf_ne g5 ((opN_bit F n m u k).mpr ⟨hj, by omega, z.1.2, z.1.1⟩)))
          · refine w_il5 hC dX0_nextOfLeast_59 ?_
            refine v_iret hC hR dX0_nextOfLeast_61 ?_
            have gob := (opN_bit F n m u k).mp g5
            exact qz (fstI_at (by omega) ⟨⟨gob.2.2.2, gob.2.2.1⟩, h56⟩ hx) hQ
        · refine v_if_eq (tgt := 62) hC dX0_nextOfLeast_36 rfl (fun _ => ?_) (fun h => absurd h (by decide))
          refine w_inc5 hC dX0_nextOfLeast_62 hN (by first | rfl | assumption) (ri_mk (by omega) (by omega)) ?_
          refine v_goto (tgt := 20) hC dX0_nextOfLeast_65 rfl ?_
          first | exact ih20 (k + 1) (by omega) (by omega) (lt_s hx (fun z => h56 z.2)) | exact ih20 (k + 1) (by omega) (by omega) (lt_s hx (fun z => bf_ne g5 ((opN_bit F n m u k).mpr ⟨hj, by omega, z.1.2, z.1.1⟩)))
  exact lp20 (n + 1) 0 (by omega) (by omega) (fun i h => by omega)

/-- while there is a way, the next word of the least is there -/
theorem nxL_ok {F : Nat → Nat → Bool} {C : Nat → Nat → Int} {n m u : Nat} (hn : n ≤ 8) (hm : m ≤ 6) (hC : ∀ k j, k < n → j < m → 0 ≤ C k j ∧ C k j ≤ 12) (hu : u < 2 ^ n) (hj : pcN u < m) (hw : 0 < wyN F n m (m - pcN u) u) :
    ∃ k : Nat, nxL F C n m u = (k : Int) ∧ k < n ∧ u.testBit k = false ∧ pcN (u ||| 2 ^ k) = pcN u + 1 ∧ 0 < wyN F n m (m - pcN (u ||| 2 ^ k)) (u ||| 2 ^ k) := by
  have h256 := n2_le hn
  obtain ⟨r, hr⟩ : ∃ r, m - pcN u = r + 1 := ⟨m - pcN u - 1, by omega⟩
  have e : m - (r + 1) = pcN u := by omega
  have hb : bsL F C n m u = lsN F C n m (r + 1) u := by unfold bsL; rw [if_pos (by omega), hr]
  rw [hr] at hw
  have hlu := (ls_cm (F := F) hn hm hC (r + 1) u (by omega)).resolve_left (fun z => by omega)
  have key : ∃ k, k < n ∧ (u.testBit k = false ∧ F k (pcN u) = true) ∧ C k (pcN u) + bsL F C n m (u ||| 2 ^ k) = bsL F C n m u := by
    rcases mnB_or (c := fun k => u.testBit k = false ∧ F k (m - (r + 1)) = true) (f := fun k => C k (m - (r + 1)) + lsN F C n m r (u ||| 2 ^ k)) (s := 1000000) n with z | ⟨k, z1, z2, z3⟩
    · rw [← lsN_s] at z; omega
    · rw [← lsN_s] at z3
      rw [e] at z2 z3
      have hp := pcN_or u (by omega) k (by omega) z2.1
      refine ⟨k, z1, z2, ?_⟩
      rw [hb, z3]
      unfold bsL
      rw [if_pos (by omega), show m - pcN (u ||| 2 ^ k) = r by omega]
  rcases fstI_spec (fun k => (u.testBit k = false ∧ F k (pcN u) = true) ∧ C k (pcN u) + bsL F C n m (u ||| 2 ^ k) = bsL F C n m u) n with ⟨_, h2⟩ | ⟨k, k1, k2, k3, _⟩
  · obtain ⟨k, q1, q2, q3⟩ := key
    exact absurd ⟨q2, q3⟩ (h2 k q1)
  · have hp := pcN_or u (by omega) k (by omega) k3.1.1
    refine ⟨k, k2, k1, k3.1.1, hp, ?_⟩
    have q := k3.2
    rw [hb] at q
    unfold bsL at q
    rw [if_pos (by omega), show m - pcN (u ||| 2 ^ k) = r by omega] at q
    rw [show m - pcN (u ||| 2 ^ k) = r by omega]
    have hl := ls_cm (F := F) hn hm hC r (u ||| 2 ^ k) (by omega)
    have hCk := hC k (pcN u) k1 hj
    omega
theorem uSL_ok {F : Nat → Nat → Bool} {C : Nat → Nat → Int} {n m : Nat} (hn : n ≤ 8) (hm : m ≤ 6) (hC : ∀ k j, k < n → j < m → 0 ≤ C k j ∧ C k j ≤ 12) (hw : 0 < wyN F n m m 0) (i : Nat) (hi : i ≤ m) : uSL F C n m i < 2 ^ n ∧ pcN (uSL F C n m i) = i ∧ 0 < wyN F n m (m - pcN (uSL F C n m i)) (uSL F C n m i) := by
  induction i with
  | zero =>
    refine ⟨Nat.pow_pos (by decide), show pcN 0 = 0 from rfl, ?_⟩
    show 0 < wyN F n m (m - pcN 0) 0
    rw [show pcN 0 = 0 from rfl, Nat.sub_zero]
    exact hw
  | succ i ih =>
    obtain ⟨h1, h2, h3⟩ := ih (by omega)
    obtain ⟨k, k1, k2, k3, k4, k5⟩ := nxL_ok hn hm hC h1 (by omega) h3
    show uSL F C n m i ||| 2 ^ (nxL F C n m (uSL F C n m i)).toNat < 2 ^ n ∧ pcN (uSL F C n m i ||| 2 ^ (nxL F C n m (uSL F C n m i)).toNat) = i + 1 ∧ 0 < wyN F n m (m - pcN (uSL F C n m i ||| 2 ^ (nxL F C n m (uSL F C n m i)).toNat)) (uSL F C n m i ||| 2 ^ (nxL F C n m (uSL F C n m i)).toNat)
    rw [k1, show ((k : Nat) : Int).toNat = k from rfl]
    exact ⟨or2_lt h1 k2, by omega, k5⟩

theorem c_wordOfLeast {d : Nat} {w : Wd} {Q : Option MV → Wd → Prop} {a : Nat → Int} {n m : Nat} (hv : VX w 1 a) (hA : AOK a) (h3 : a 3 = n) (h1 : a 1 = m) {F : Nat → Nat → Bool} {c : Int} {j : Nat} (hF : FT w n m F) (hB : BL w F (coF a c) n m 0) (hw : 0 < wyN F n m m 0) (hj : j < m) (hQ : Q (some (.inl (nxL F (coF a c) n m (uSL F (coF a c) n m j)))) w) : Call (d + 5) mX0_wordOfLeast [vR 35, vR 1, vI c, vI (j : Int)] w Q := by
  have hb := vb1
  have am := hA.m
  have an := hA.n
  rw [h3] at an
  rw [h1] at am
  have h256 := n2_le (n := n) (by omega)
  have x1 : w 1 1 = m := by rw [hv.1.2.1, h1]
  have x3 : w 1 3 = n := by rw [hv.1.2.2.2.1, h3]
  refine call_in (ls := [some (vR 35), some (vR 1), some (vI c), some (vI (j : Int)), none, none, none]) (by decide +kernel) rfl (Nat.le_of_ble_eq_true rfl) (fun κ hC hR hN => ?_)
  have hC : ctxB κ RX0 cX0_wordOfLeast (d + 5) := hC
  have hN : mlx κ 7 := hN
  refine w_ic hC dX0_wordOfLeast_0 rfl ?_
  refine w_is4 hC dX0_wordOfLeast_1 hN (by first | rfl | assumption) ?_
  refine w_ic hC dX0_wordOfLeast_3 rfl ?_
  refine w_is5 hC dX0_wordOfLeast_4 hN (by first | rfl | assumption) ?_
  refine w_ic hC dX0_wordOfLeast_6 rfl ?_
  refine w_is6 hC dX0_wordOfLeast_7 hN (by first | rfl | assumption) ?_
  have lp9 : ∀ (K : Nat) (ch : Int) (i : Nat), (j + 1 - i) < K → (i ≤ j + 1) → (∀ q, i = q + 1 → ch = nxL F (coF a c) n m (uSL F (coF a c) n m q)) → VV κ 9 [some (vR 35), some (vR 1), some (vI c), some (vI (j : Int)), some (vI ((uSL F (coF a c) n m i : Nat) : Int)), some (vI ch), some (vI (i : Int))] [] w := by
    intro K
    induction K with
    | zero => intros; omega
    | succ K ih9 =>
      intro ch i hm9 hi hc
      refine w_il6 hC dX0_wordOfLeast_9 ?_
      refine w_il3 hC dX0_wordOfLeast_11 ?_
      refine v_ic_gt (tgt := 48) hC dX0_wordOfLeast_12 rfl (fun h12 => ?_) (fun h12 => ?_)
      · refine w_il5 hC dX0_wordOfLeast_48 ?_
        refine v_iret hC hR dX0_wordOfLeast_50 ?_
        exact qz (hc j (by omega)).symm hQ
      · refine w_al0 hC dX0_wordOfLeast_15 ?_
        refine w_al1 hC dX0_wordOfLeast_16 ?_
        refine w_il2 hC dX0_wordOfLeast_17 ?_
        refine w_il4 hC dX0_wordOfLeast_18 ?_
        obtain ⟨us1, us2, us3⟩ := uSL_ok (F := F) (C := coF a c) (by omega) (by omega) (fun k j p q => coF_r hA h3 h1 c p q) hw i (by omega)
        obtain ⟨k, hkk, k2, k3, k4, k5⟩ := nxL_ok (C := coF a c) (by omega) (by omega) (fun k j p q => coF_r hA h3 h1 c p q) us1 (by omega) us3
        refine w_vi3 hC vi_X0_69 rfl dX0_wordOfLeast_20 rfl hN (c_nextOfLeast hv hA h3 h1 hF hB us1 (by omega) ?_)
        rw [hkk]
        refine w_is5 hC dX0_wordOfLeast_23 hN (by first | rfl | assumption) ?_
        refine w_il5 hC dX0_wordOfLeast_25 ?_
        refine w_ic hC dX0_wordOfLeast_27 rfl ?_
        refine v_ic_ne (tgt := 33) hC dX0_wordOfLeast_28 rfl (fun h28 => ?_) (fun h28 => ?_)
        · refine w_il4 hC dX0_wordOfLeast_33 ?_
          refine w_ic hC dX0_wordOfLeast_35 rfl ?_
          refine w_il5 hC dX0_wordOfLeast_36 ?_
          refine v_ishl hC dX0_wordOfLeast_38 ?_
          rw [bShl_1 (by omega)]
          refine v_ior hC dX0_wordOfLeast_39 ?_
          rw [bOr_n (by omega) (by have := two_lt k2; omega)]
          rw [show uSL F (coF a c) n m i ||| 2 ^ k = uSL F (coF a c) n m (i + 1) by show _ = uSL F (coF a c) n m i ||| 2 ^ (nxL F (coF a c) n m (uSL F (coF a c) n m i)).toNat; rw [hkk]; rfl]
          refine w_is4 hC dX0_wordOfLeast_40 hN (by first | rfl | assumption) ?_
          refine w_inc6 hC dX0_wordOfLeast_42 hN (by first | rfl | assumption) (ri_mk (by omega) (by omega)) ?_
          refine v_goto (tgt := 9) hC dX0_wordOfLeast_45 rfl ?_
          exact ih9 _ (i + 1) (by omega) (by omega) (fun q hq => by rw [show q = i by omega]; exact hkk.symm)
        · exfalso; omega
  exact lp9 (j + 2) (-1) 0 (by omega) (by omega) (fun q hq => by omega)

/-! most lines -/
def RMk (w : Wd) (n : Nat) (P : Nat → Prop) (q : Nat) : Prop := (w 37 q = 1 ∧ P q) ∨ (w 37 q = 0 ∧ ¬ P q)
theorem an_lt {u k : Nat} (hu : u < 256) (hk : k < 8) (h : u.testBit k = true) : andN u (2 ^ k) < u ∧ andN u (2 ^ k) ||| 2 ^ k = u := pcN_sub u hu k hk h
theorem an_bit (u k : Nat) : (andN u (2 ^ k)).testBit k = false := by rw [andN_bit, Nat.testBit_two_pow, decide_eq_true rfl]; simp
theorem an_or {u k : Nat} (h : u.testBit k = false) : andN (u ||| 2 ^ k) (2 ^ k) = u := by
  apply Nat.eq_of_testBit_eq
  intro i
  rw [andN_bit, bit_or, Nat.testBit_two_pow]
  by_cases e : k = i
  · subst e; rw [h, decide_eq_true rfl]; rfl
  · rw [decide_eq_false e]; simp
/-- one line more -/
theorem re_iff {F : Nat → Nat → Bool} {n j u : Nat} (hn : n ≤ 8) (hu : u < 2 ^ n) : reN F n (j + 1) u ↔ reN F n j u ∨ ∃ k, k < n ∧ u.testBit k = true ∧ F k j = true ∧ reN F n j (andN u (2 ^ k)) := by
  have h256 := n2_le hn
  constructor
  · rintro (h | ⟨k, v, h1, h2, h3, h4, h5⟩)
    · exact Or.inl h
    · refine Or.inr ⟨k, h1, by rw [h3, bit_or, decide_eq_true rfl, Bool.or_true], h4, ?_⟩
      rw [h3, an_or h2]
      exact h5
  · rintro (h | ⟨k, h1, h2, h3, h4⟩)
    · exact Or.inl h
    · exact Or.inr ⟨k, andN u (2 ^ k), h1, an_bit u k, (an_lt (by omega) (by omega) h2).2.symm, h3, h4⟩
theorem re_0 {F : Nat → Nat → Bool} {n : Nat} (j : Nat) : reN F n j 0 := by
  induction j with
  | zero => exact rfl
  | succ j ih => exact Or.inl ih

theorem c_canEndWith {d : Nat} {w : Wd} {Q : Option MV → Wd → Prop} {a : Nat → Int} {n m : Nat} (hv : VX w 1 a) (hA : AOK a) (h3 : a 3 = n) (h1 : a 1 = m) {F : Nat → Nat → Bool} {P : Nat → Prop} {u j : Nat} (hF : FT w n m F) (hu : u < 2 ^ n) (hj : j < m) (hRm : ∀ q, q < u → RMk w n P q) (ht : (∃ k, k < n ∧ u.testBit k = true ∧ F k j = true ∧ P (andN u (2 ^ k))) → Q (some (.inl 1)) w) (hf : ¬ (∃ k, k < n ∧ u.testBit k = true ∧ F k j = true ∧ P (andN u (2 ^ k))) → Q (some (.inl 0)) w) : Call (d + 1) mX0_canEndWith [vR 35, vR 1, vI (u : Int), vI (j : Int)] w Q := by
  have hb := vb1
  have am := hA.m
  have an := hA.n
  rw [h3] at an
  rw [h1] at am
  have h256 := n2_le (n := n) (by omega)
  have x1 : w 1 1 = m := by rw [hv.1.2.1, h1]
  have x3 : w 1 3 = n := by rw [hv.1.2.2.2.1, h3]
  refine call_in (ls := [some (vR 35), some (vR 1), some (vI (u : Int)), some (vI (j : Int)), none, none]) (by decide +kernel) rfl (Nat.le_of_ble_eq_true rfl) (fun κ hC hR hN => ?_)
  have hC : ctxB κ RX0 cX0_canEndWith (d + 1) := hC
  have hN : mlx κ 6 := hN
  refine w_il2 hC dX0_canEndWith_0 ?_
  refine w_al0 hC dX0_canEndWith_1 ?_
  refine v_getR (off := 1) (j := 36) hC dX0_canEndWith_2 fd_X0_9 rfl rfl rfl ?_
  refine w_il3 hC dX0_canEndWith_5 ?_
  refine w_sn2 hC sn_X0_42 dX0_canEndWith_6 rfl hN (c_at rfl ?_)
  rw [atV_n w (show j < 6 by omega), hF j hj]
  refine v_iand hC dX0_canEndWith_9 ?_
  rw [bAnd_n (by omega)]
  have hlt : u &&& msN F n j < 256 := Nat.lt_of_le_of_lt Nat.and_le_left (by omega)
  have hbt : ∀ k, (u &&& msN F n j).testBit k = true ↔ u.testBit k = true ∧ k < n ∧ F k j = true := fun k => by rw [Nat.testBit_and, Bool.and_eq_true, msN_bit]
  refine w_is4 hC dX0_canEndWith_10 hN (by first | rfl | assumption) ?_
  refine w_ic hC dX0_canEndWith_12 rfl ?_
  refine w_is5 hC dX0_canEndWith_13 hN (by first | rfl | assumption) ?_
  have lp15 : ∀ (K : Nat) (k : Nat), (n - k) < K → (k ≤ n) → (∀ i, i < k → ¬ (u.testBit i = true ∧ F i j = true ∧ P (andN u (2 ^ i)))) → VV κ 15 [some (vR 35), some (vR 1), some (vI (u : Int)), some (vI (j : Int)), some (vI ((u &&& msN F n j : Nat) : Int)), some (vI (k : Int))] [] w := by
    intro K
    induction K with
    | zero => intros; omega
    | succ K ih15 =>
      intro k hm15 hk hx
      refine w_il5 hC dX0_canEndWith_15 ?_
      refine w_al1 hC dX0_canEndWith_17 ?_
      refine v_getI hC dX0_canEndWith_18 fd_X0_27 rfl rfl ?_
      rw [x3]
      refine v_ic_ge (tgt := 66) hC dX0_canEndWith_21 rfl (fun h21 => ?_) (fun h21 => ?_)
      · refine w_ic hC dX0_canEndWith_66 rfl ?_
        refine v_zret hC hR dX0_canEndWith_67 (by first | decide | omega) ?_
        refine hf (fun ⟨i, q1, q2, q3, q4⟩ => ?_)
        by_cases z : i < k
        · exact hx i z ⟨q2, q3, q4⟩
        · first
          | (exfalso; omega)
          | (have q5 := (hbt i).mpr ⟨q2, q1, q3⟩
             rw [show u &&& msN F n j = 0 by omega, Nat.zero_testBit] at q5
             exact absurd q5 (by decide))
      · refine w_il4 hC dX0_canEndWith_24 ?_
        refine v_if_eq (tgt := 66) hC dX0_canEndWith_26 rfl (fun h26 => ?_) (fun h26 => ?_)
        · refine w_ic hC dX0_canEndWith_66 rfl ?_
          refine v_zret hC hR dX0_canEndWith_67 (by first | decide | omega) ?_
          refine hf (fun ⟨i, q1, q2, q3, q4⟩ => ?_)
          by_cases z : i < k
          · exact hx i z ⟨q2, q3, q4⟩
          · first
            | (exfalso; omega)
            | (have q5 := (hbt i).mpr ⟨q2, q1, q3⟩
               rw [show u &&& msN F n j = 0 by omega, Nat.zero_testBit] at q5
               exact absurd q5 (by decide))
        · refine w_il4 hC dX0_canEndWith_29 ?_
          refine w_il5 hC dX0_canEndWith_31 ?_
          refine w_sn2 hC sn_X0_51 dX0_canEndWith_33 rfl hN (c_hasBit (by omega) (by omega) (fun g5 => ?_) (fun g5 => ?_))
          · refine v_if_eq (tgt := 60) hC dX0_canEndWith_36 rfl (fun h => absurd h (by decide)) (fun _ => ?_)
            refine w_al0 hC dX0_canEndWith_39 ?_
            refine v_getR (off := 2) (j := 37) hC dX0_canEndWith_40 fd_X0_15 rfl rfl rfl ?_
            refine w_il2 hC dX0_canEndWith_43 ?_
            refine w_ic hC dX0_canEndWith_44 rfl ?_
            refine w_il5 hC dX0_canEndWith_45 ?_
            refine v_ishl hC dX0_canEndWith_47 ?_
            rw [bShl_1 (by omega)]
            refine w_ic hC dX0_canEndWith_48 rfl ?_
            refine v_ixor hC dX0_canEndWith_49 ?_
            refine v_iand hC dX0_canEndWith_50 ?_
            rw [bAnd_not (by omega)]
            have g6 := (hbt k).mp g5
            have hal := an_lt (u := u) (k := k) (by omega) (by omega) g6.1
            refine w_sn2 hC sn_X0_42 dX0_canEndWith_51 rfl hN (c_at rfl ?_)
            rw [atV_n w (show andN u (2 ^ k) < 256 by omega)]
            have hrl := hRm _ hal.1
            refine w_ic hC dX0_canEndWith_54 rfl ?_
            refine v_ic_ne (tgt := 60) hC dX0_canEndWith_55 rfl (fun h55 => ?_) (fun h55 => ?_)
            · refine w_inc5 hC dX0_canEndWith_60 hN (by first | rfl | assumption) (ri_mk (by omega) (by omega)) ?_
              refine v_goto (tgt := 15) hC dX0_canEndWith_63 rfl ?_
              first | exact ih15 (k + 1) (by omega) (by omega) (lt_s hx (fun z => bf_ne g5 ((hbt k).mpr ⟨z.1, by omega, z.2.1⟩))) | exact ih15 (k + 1) (by omega) (by omega) (lt_s hx (fun z => by rcases hrl with q | q; omega; exact q.2 z.2.2))
            · refine w_ic hC dX0_canEndWith_58 rfl ?_
              refine v_zret hC hR dX0_canEndWith_59 (by first | decide | omega) ?_
              exact ht ⟨k, by omega, g6.1, g6.2.2, by rcases hrl with q | q; exact q.2; omega⟩
          · refine v_if_eq (tgt := 60) hC dX0_canEndWith_36 rfl (fun _ => ?_) (fun h => absurd h (by decide))
            refine w_inc5 hC dX0_canEndWith_60 hN (by first | rfl | assumption) (ri_mk (by omega) (by omega)) ?_
            refine v_goto (tgt := 15) hC dX0_canEndWith_63 rfl ?_
            first | exact ih15 (k + 1) (by omega) (by omega) (lt_s hx (fun z => bf_ne g5 ((hbt k).mpr ⟨z.1, by omega, z.2.1⟩))) | exact ih15 (k + 1) (by omega) (by omega) (lt_s hx (fun z => by rcases hrl with q | q; omega; exact q.2 z.2.2))
  exact lp15 (n + 1) 0 (by omega) (by omega) (fun i h => by omega)

theorem mx_ex {F : Nat → Nat → Bool} {n j u : Nat} {M : Int} (h : ∃ q, reN F n (j + 1) q ∧ (pcN q : Int) = M) (hu : reN F n (j + 1) u) : ∃ q, reN F n (j + 1) q ∧ (pcN q : Int) = max M (pcN u : Int) := by
  obtain ⟨q, q1, q2⟩ := h
  by_cases z : M ≤ (pcN u : Int)
  · exact ⟨u, hu, by omega⟩
  · exact ⟨q, q1, by omega⟩
theorem rl_set {w : Wd} {n u : Nat} {P : Nat → Prop} (h : ∀ q, u + 1 ≤ q → q < 2 ^ n → RMk w n P q) (hu : P u) : ∀ q, u ≤ q → q < 2 ^ n → RMk (up w 37 u 1) n P q := by
  intro q q1 q2
  by_cases z : q = u
  · subst z; exact Or.inl ⟨up_same _ _ _ _, hu⟩
  · unfold RMk; rw [up_pl _ _ z]; exact h q (by omega) q2
theorem rl_low {w : Wd} {n u : Nat} {P : Nat → Prop} (h : ∀ q, q < u + 1 → q < 2 ^ n → RMk w n P q) : ∀ q, q < u → q < 2 ^ n → RMk (up w 37 u 1) n P q := by
  intro q q1 q2
  unfold RMk; rw [up_pl _ _ (by omega)]; exact h q (by omega) q2
theorem rl_keep {w : Wd} {n u : Nat} {P : Nat → Prop} (h : ∀ q, u + 1 ≤ q → q < 2 ^ n → RMk w n P q) (hu : RMk w n P u) : ∀ q, u ≤ q → q < 2 ^ n → RMk w n P q := by
  intro q q1 q2
  by_cases z : q = u
  · subst z; exact hu
  · exact h q (by omega) q2
theorem mx_a {P : Nat → Prop} {u : Nat} {M : Int} (h : ∀ q, u + 1 ≤ q → P q → (pcN q : Int) ≤ M) : ∀ q, u ≤ q → P q → (pcN q : Int) ≤ max M (pcN u : Int) := by
  intro q q1 q2
  by_cases z : q = u
  · subst z; omega
  · have := h q (by omega) q2; omega
theorem mx_b {P : Nat → Prop} {u : Nat} {M : Int} (h : ∀ q, q < u + 1 → P q → (pcN q : Int) ≤ M) : ∀ q, q < u → P q → (pcN q : Int) ≤ max M (pcN u : Int) := by
  intro q q1 q2
  have := h q (by omega) q2; omega
theorem mx_c {P R : Nat → Prop} {u : Nat} {M : Int} (h : ∀ q, u + 1 ≤ q → P q → (pcN q : Int) ≤ M) (h2 : ∀ q, q < u + 1 → R q → (pcN q : Int) ≤ M) (hr : P u → R u) : ∀ q, u ≤ q → P q → (pcN q : Int) ≤ M := by
  intro q q1 q2
  by_cases z : q = u
  · subst z; exact h2 q (by omega) (hr q2)
  · exact h q (by omega) q2

theorem c_mostLines {d : Nat} {w : Wd} {Q : Option MV → Wd → Prop} {a : Nat → Int} {n m : Nat} (hv : VX w 1 a) (hA : AOK a) (h3 : a 3 = n) (h1 : a 1 = m) {F : Nat → Nat → Bool} (hF : FT w n m F) (hQ : ∀ w2, smO w w2 (fun i => i ≠ 37) → Q (some (.inl (hdN F n m m 0))) w2) : Call (d + 2) mX0_mostLines [vR 35, vR 1] w Q := by
  have hb := vb1
  have am := hA.m
  have an := hA.n
  rw [h3] at an
  rw [h1] at am
  have h256 := n2_le (n := n) (by omega)
  have x1 : w 1 1 = m := by rw [hv.1.2.1, h1]
  have x3 : w 1 3 = n := by rw [hv.1.2.2.2.1, h3]
  refine call_in (ls := [some (vR 35), some (vR 1), none, none, none]) (by decide +kernel) rfl (Nat.le_of_ble_eq_true rfl) (fun κ hC hR hN => ?_)
  have hC : ctxB κ RX0 cX0_mostLines (d + 2) := hC
  have hN : mlx κ 5 := hN
  refine w_al0 hC dX0_mostLines_0 ?_
  refine v_getR (off := 2) (j := 37) hC dX0_mostLines_1 fd_X0_15 rfl rfl rfl ?_
  refine w_ic hC dX0_mostLines_4 rfl ?_
  refine w_st2 hC st_X0_73 dX0_mostLines_5 rfl hN (c_fill rfl (fun w1 f1 o1 => ?_))
  refine w_al0 hC dX0_mostLines_8 ?_
  refine v_getR (off := 2) (j := 37) hC dX0_mostLines_9 fd_X0_15 rfl rfl rfl ?_
  refine w_ic hC dX0_mostLines_12 rfl ?_
  refine w_ic hC dX0_mostLines_13 rfl ?_
  refine w_sn3 hC sn_X0_34 dX0_mostLines_14 rfl hN (c_set rfl ?_)
  rw [show stV w1 37 0 1 = up w1 37 0 1 from stV_n (i := 0) w1 (by decide)]
  have hp2 : 0 < 2 ^ n := Nat.pow_pos (by decide)
  have b0 : ∀ q, q < 2 ^ n → RMk (up w1 37 0 1) n (reN F n 0) q := fun q hq => by
    by_cases z : q = 0
    · subst z; exact Or.inl ⟨up_same _ _ _ _, rfl⟩
    · exact Or.inr ⟨by rw [up_pl _ _ z]; exact f1 q (show q < 256 by omega), z⟩
  refine w_ic hC dX0_mostLines_17 rfl ?_
  refine w_is2 hC dX0_mostLines_18 hN (by first | rfl | assumption) ?_
  refine w_ic hC dX0_mostLines_19 rfl ?_
  refine w_is3 hC dX0_mostLines_20 hN (by first | rfl | assumption) ?_
  refine w_dr4 ?_
  have lp21 : ∀ (K : Nat) (w2 : Wd) (M : Int) (j : Nat), (m - j) < K → (j ≤ m) → (∀ q, q < 2 ^ n → RMk w2 n (reN F n j) q) → (smO w w2 (fun i => i ≠ 37)) → (∀ q, reN F n j q → (pcN q : Int) ≤ M) → (∃ q, reN F n j q ∧ (pcN q : Int) = M) → VV κ 21 [some (vR 35), some (vR 1), some (vI M), some (vI (j : Int)), none] [] w2 := by
    intro K
    induction K with
    | zero => intros; omega
    | succ K ih21 =>
      intro w2 M j hm21 hj g1 g2 hM1 hM2
      have y1 : w2 1 1 = m := by rw [g2 1 1 (by decide), x1]
      have y3 : w2 1 3 = n := by rw [g2 1 3 (by decide), x3]
      refine w_il3 hC dX0_mostLines_21 ?_
      refine w_al1 hC dX0_mostLines_22 ?_
      refine v_getI hC dX0_mostLines_23 fd_X0_21 rfl rfl ?_
      rw [y1]
      refine v_ic_ge (tgt := 99) hC dX0_mostLines_26 rfl (fun h26 => ?_) (fun h26 => ?_)
      · refine w_il2 hC dX0_mostLines_99 ?_
        refine v_iret hC hR dX0_mostLines_100 ?_
        have ejm : j = m := by omega
        rw [ejm] at hM1 hM2
        have e := held_eq (F := F) (n := n) (m := m) (by omega) hM1 hM2
        exact qz e.symm (hQ w2 g2)
      · refine w_ic hC dX0_mostLines_29 rfl ?_
        refine w_al1 hC dX0_mostLines_30 ?_
        refine v_getI hC dX0_mostLines_31 fd_X0_27 rfl rfl ?_
        rw [y3]
        refine v_ishl hC dX0_mostLines_34 ?_
        rw [bShl_1 (by omega)]
        refine w_ic hC dX0_mostLines_35 rfl ?_
        refine w_isub hC dX0_mostLines_36 (ri_mk (by omega) (by omega)) ?_
        refine w_is4 hC dX0_mostLines_37 hN (by first | rfl | assumption) ?_
        have lp39 : ∀ (K2 : Nat) (w3 : Wd) (M3 : Int) (t : Nat), t < K2 → (1 ≤ t ∧ t ≤ 2 ^ n) → (∀ q, t ≤ q → q < 2 ^ n → RMk w3 n (reN F n (j + 1)) q) → (∀ q, q < t → q < 2 ^ n → RMk w3 n (reN F n j) q) → (smO w w3 (fun i => i ≠ 37)) → (∀ q, t ≤ q → reN F n (j + 1) q → (pcN q : Int) ≤ M3) → (∀ q, q < t → reN F n j q → (pcN q : Int) ≤ M3) → (∃ q, reN F n (j + 1) q ∧ (pcN q : Int) = M3) → VV κ 39 [some (vR 35), some (vR 1), some (vI M3), some (vI (j : Int)), some (vI ((t : Int) - 1))] [] w3 := by
          intro K2
          induction K2 with
          | zero => intros; omega
          | succ K2 ih39 =>
            intro w3 M3 t hm39 ht k1 k3 k2 kM1 kM3 kM2
            have hv3 : VX w3 1 a := hv.fr (fun i k p q => k2 i k (show i ≠ 37 by omega))
            have hF3 : FT w3 n m F := fun i hi => by rw [k2 36 i (by decide)]; exact hF i hi
            refine w_il4 hC dX0_mostLines_39 ?_
            refine v_if_le (tgt := 93) hC dX0_mostLines_41 rfl (fun h41 => ?_) (fun h41 => ?_)
            · refine w_inc3 hC dX0_mostLines_93 hN (by first | rfl | assumption) (ri_mk (by omega) (by omega)) ?_
              refine v_goto (tgt := 21) hC dX0_mostLines_96 rfl ?_
              refine w_dr4 ?_
              refine ih21 _ _ (j + 1) (by omega) (by omega) (fun q hq => ?_) k2 (fun q hq => ?_) kM2
              · by_cases z : t ≤ q
                · exact k1 q z hq
                · rw [show q = 0 by omega]
                  rcases k3 0 (by omega) hp2 with z2 | z2
                  · exact Or.inl ⟨z2.1, re_0 _⟩
                  · exact absurd (re_0 j) z2.2
              · by_cases z : t ≤ q
                · exact kM1 q z hq
                · rw [show q = 0 by omega]
                  exact kM3 0 (by omega) (re_0 j)
            · obtain ⟨u, rfl⟩ : ∃ u, t = u + 1 := ⟨t - 1, by omega⟩
              rw [show (((u + 1 : Nat)) : Int) - 1 = (u : Int) by omega]
              have ru := k3 u (by omega) (by omega)
              have hre := re_iff (F := F) (j := j) (show n ≤ 8 by omega) (show u < 2 ^ n by omega)
              refine w_al0 hC dX0_mostLines_44 ?_
              refine v_getR (off := 2) (j := 37) hC dX0_mostLines_45 fd_X0_15 rfl rfl rfl ?_
              refine w_il4 hC dX0_mostLines_48 ?_
              refine w_sn2 hC sn_X0_42 dX0_mostLines_50 rfl hN (c_at rfl ?_)
              rw [atV_n w3 (show u < 256 by omega)]
              refine v_if_ne (tgt := 87) hC dX0_mostLines_53 rfl (fun h53 => ?_) (fun h53 => ?_)
              · have ru9 : RMk w3 n (reN F n (j + 1)) u ∨ w3 37 u = 0 := by
                  rcases ru with z | z
                  · exact Or.inl (Or.inl ⟨z.1, hre.mpr (Or.inl z.2)⟩)
                  · exact Or.inr z.1
                replace ru9 := ru9.resolve_right
                first
                  | (replace ru9 := ru9 (by omega)
                     have rb9 : reN F n (j + 1) u → reN F n j u := fun _ => (ru.resolve_right (fun z => by omega)).2)
                  | (replace ru9 : RMk w3 n (reN F n (j + 1)) u := Or.inr ⟨(ru.resolve_left (fun z => by omega)).1, fun q => (hre.mp q).elim (ru.resolve_left (fun z => by omega)).2 g5⟩
                     have rb9 : reN F n (j + 1) u → reN F n j u := fun q => (hre.mp q).elim id (fun q => absurd q g5))
                  | skip
                refine w_inc4 hC dX0_mostLines_87 hN (by first | rfl | assumption) (ri_mk (by omega) (by omega)) ?_
                refine v_goto (tgt := 39) hC dX0_mostLines_90 rfl ?_
                first
                  | exact ih39 _ _ u (by omega) (by omega) (rl_set k1 (hre.mpr (Or.inr g5))) (rl_low k3) (fun i q hi => by rw [up_id _ _ hi]; exact k2 i q hi) (mx_a kM1) (mx_b kM3) (mx_ex kM2 (hre.mpr (Or.inr g5)))
                  | exact ih39 _ _ u (by omega) (by omega) (rl_keep k1 ru9) (fun q q1 q2 => k3 q (by omega) q2) k2 (mx_c kM1 kM3 rb9) (fun q q1 q2 => kM3 q (by omega) q2) kM2
              · refine w_al0 hC dX0_mostLines_56 ?_
                refine w_al1 hC dX0_mostLines_57 ?_
                refine w_il4 hC dX0_mostLines_58 ?_
                refine w_il3 hC dX0_mostLines_60 ?_
                refine w_vi3 hC vi_X0_79 rfl dX0_mostLines_61 rfl hN (c_canEndWith hv3 hA h3 h1 hF3 (by omega) (by omega) (fun q hq => k3 q (by omega) (by omega)) (fun g5 => ?_) (fun g5 => ?_))
                · refine v_if_eq (tgt := 87) hC dX0_mostLines_64 rfl (fun h => absurd h (by decide)) (fun _ => ?_)
                  refine w_al0 hC dX0_mostLines_67 ?_
                  refine v_getR (off := 2) (j := 37) hC dX0_mostLines_68 fd_X0_15 rfl rfl rfl ?_
                  refine w_il4 hC dX0_mostLines_71 ?_
                  refine w_ic hC dX0_mostLines_73 rfl ?_
                  refine w_sn3 hC sn_X0_34 dX0_mostLines_74 rfl hN (c_set rfl ?_)
                  rw [stV_n w3 (show u < 256 by omega)]
                  refine w_il2 hC dX0_mostLines_77 ?_
                  refine w_il4 hC dX0_mostLines_78 ?_
                  refine w_st1 hC st_X0_46 dX0_mostLines_80 rfl hN (c_bitCount (by omega) ?_)
                  refine w_st2 hC st_X0_83 dX0_mostLines_83 rfl hN (c_max ?_)
                  refine w_is2 hC dX0_mostLines_86 hN (by first | rfl | assumption) ?_
                  have ru9 : RMk w3 n (reN F n (j + 1)) u ∨ w3 37 u = 0 := by
                    rcases ru with z | z
                    · exact Or.inl (Or.inl ⟨z.1, hre.mpr (Or.inl z.2)⟩)
                    · exact Or.inr z.1
                  replace ru9 := ru9.resolve_right
                  first
                    | (replace ru9 := ru9 (by omega)
                       have rb9 : reN F n (j + 1) u → reN F n j u := fun _ => (ru.resolve_right (fun z => by omega)).2)
                    | (replace ru9 : RMk w3 n (reN F n (j + 1)) u := Or.inr ⟨(ru.resolve_left (fun z => by omega)).1, fun q => (hre.mp q).elim (ru.resolve_left (fun z => by omega)).2 g5⟩
                       have rb9 : reN F n (j + 1) u → reN F n j u := fun q => (hre.mp q).elim id (fun q => absurd q g5))
                    | skip
                  refine w_inc4 hC dX0_mostLines_87 hN (by first | rfl | assumption) (ri_mk (by omega) (by omega)) ?_
                  refine v_goto (tgt := 39) hC dX0_mostLines_90 rfl ?_
                  first
                    | exact ih39 _ _ u (by omega) (by omega) (rl_set k1 (hre.mpr (Or.inr g5))) (rl_low k3) (fun i q hi => by rw [up_id _ _ hi]; exact k2 i q hi) (mx_a kM1) (mx_b kM3) (mx_ex kM2 (hre.mpr (Or.inr g5)))
                    | exact ih39 _ _ u (by omega) (by omega) (rl_keep k1 ru9) (fun q q1 q2 => k3 q (by omega) q2) k2 (mx_c kM1 kM3 rb9) (fun q q1 q2 => kM3 q (by omega) q2) kM2
                · refine v_if_eq (tgt := 87) hC dX0_mostLines_64 rfl (fun _ => ?_) (fun h => absurd h (by decide))
                  have ru9 : RMk w3 n (reN F n (j + 1)) u ∨ w3 37 u = 0 := by
                    rcases ru with z | z
                    · exact Or.inl (Or.inl ⟨z.1, hre.mpr (Or.inl z.2)⟩)
                    · exact Or.inr z.1
                  replace ru9 := ru9.resolve_right
                  first
                    | (replace ru9 := ru9 (by omega)
                       have rb9 : reN F n (j + 1) u → reN F n j u := fun _ => (ru.resolve_right (fun z => by omega)).2)
                    | (replace ru9 : RMk w3 n (reN F n (j + 1)) u := Or.inr ⟨(ru.resolve_left (fun z => by omega)).1, fun q => (hre.mp q).elim (ru.resolve_left (fun z => by omega)).2 g5⟩
                       have rb9 : reN F n (j + 1) u → reN F n j u := fun q => (hre.mp q).elim id (fun q => absurd q g5))
                    | skip
                  refine w_inc4 hC dX0_mostLines_87 hN (by first | rfl | assumption) (ri_mk (by omega) (by omega)) ?_
                  refine v_goto (tgt := 39) hC dX0_mostLines_90 rfl ?_
                  first
                    | exact ih39 _ _ u (by omega) (by omega) (rl_set k1 (hre.mpr (Or.inr g5))) (rl_low k3) (fun i q hi => by rw [up_id _ _ hi]; exact k2 i q hi) (mx_a kM1) (mx_b kM3) (mx_ex kM2 (hre.mpr (Or.inr g5)))
                    | exact ih39 _ _ u (by omega) (by omega) (rl_keep k1 ru9) (fun q q1 q2 => k3 q (by omega) q2) k2 (mx_c kM1 kM3 rb9) (fun q q1 q2 => kM3 q (by omega) q2) kM2
        exact lp39 (2 ^ n + 1) w2 M (2 ^ n) (by omega) (by omega) (fun q q1 q2 => by omega) (fun q _ q2 => g1 q q2) g2 (fun q q1 q2 => by have := reN_lt _ q q2; omega) (fun q _ q2 => hM1 q q2) (by obtain ⟨q, q1, q2⟩ := hM2; exact ⟨q, Or.inl q1, q2⟩)
  exact lp21 (m + 1) _ 0 0 (by omega) (by omega) b0 (fun i k h => by rw [up_id _ _ h]; exact o1 i k h) (fun q hq => by rw [show q = 0 from hq]; decide) ⟨0, rfl, rfl⟩

/-! rows -/
def laF (a : Nat → Int) : Nat → Nat → Int := fun k l => lBy a (a 0) k l
theorem laF_r {a : Nat → Int} {n : Nat} (hA : AOK a) (h3 : a 3 = n) {k l : Nat} (hk : k < n) : 0 ≤ laF a k l ∧ laF a k l ≤ 9 := ltN_r (hA.wd (k := (k : Int).toNat) (by omega)).2.2.1
def grB (T : Nat → Prop) (g : Int) : Prop := (∀ q, T q → (q : Int) ≤ g) ∧ (g = -1 ∨ ∃ q, T q ∧ (q : Int) = g)
def SEEN (w : Wd) (T : Nat → Prop) : Prop := (∀ i, i < 32 → w 38 i = wr ((mkM (fun b => T (32 * i + b)) 32 : Nat) : Int)) ∧ w 35 3 = (cnP T 1000 : Int) ∧ grB T (w 35 4) ∧ ∀ q, T q → q < 1000
def sfR (w w2 : Wd) : Prop := ∀ i k : Nat, i ≠ 38 → i ≠ 35 → w2 i k = w i k
theorem bShl_w : ∀ k, k < 32 → bShl 1 ((k : Nat) : Int) = wr ((2 ^ k : Nat) : Int) := by decide +kernel
theorem bAnd_w (x y : Nat) : bAnd (wr (x : Int)) (wr (y : Int)) = wr ((x &&& y : Nat) : Int) := by
  unfold bAnd
  rw [oi_wr, oi_wr, ← nI_oi, ← nI_oi, qx_and, nI_oi, oi_toInt]
theorem bOr_w (x y : Nat) : bOr (wr (x : Int)) (wr (y : Int)) = wr ((x ||| y : Nat) : Int) := by
  unfold bOr
  rw [oi_wr, oi_wr, ← nI_oi, ← nI_oi, qx_or, nI_oi, oi_toInt]
theorem and_two (x k : Nat) : x &&& 2 ^ k = if x.testBit k = true then 2 ^ k else 0 := by
  apply Nat.eq_of_testBit_eq
  intro i
  rw [Nat.testBit_and, Nat.testBit_two_pow]
  by_cases h : x.testBit k = true
  · rw [if_pos h, Nat.testBit_two_pow]
    by_cases e : k = i
    · subst e; rw [h]; rfl
    · rw [decide_eq_false e, Bool.and_false]
  · rw [if_neg h, Nat.zero_testBit]
    by_cases e : k = i
    · subst e
      cases hb : x.testBit k with
      | false => rfl
      | true => exact absurd hb h
    · rw [decide_eq_false e, Bool.and_false]
theorem wr_two : ∀ k, k < 32 → wr ((2 ^ k : Nat) : Int) ≠ 0 := by decide +kernel
theorem cnP_congr {P R : Nat → Prop} (n : Nat) (h : ∀ k, k < n → (P k ↔ R k)) : cnP P n = cnP R n := by
  induction n with
  | zero => rfl
  | succ n ih =>
    have ih := ih (fun k hk => h k (by omega))
    by_cases q : P n
    · rw [cnP_t q, cnP_t ((h n (by omega)).mp q), ih]
    · rw [cnP_f q, cnP_f (fun z => q ((h n (by omega)).mpr z)), ih]
theorem cnP_add {T : Nat → Prop} {c : Nat} (hc : ¬ T c) (n : Nat) : cnP (fun q => T q ∨ q = c) n = cnP T n + (if c < n then 1 else 0) := by
  induction n with
  | zero => rfl
  | succ n ih =>
    by_cases e : n = c
    · subst e
      rw [cnP_t (Or.inr rfl), cnP_f hc, ih, if_neg (by omega), if_pos (by omega)]
    · by_cases q : T n
      · rw [cnP_t (P := fun q => T q ∨ q = c) (Or.inl q), cnP_t q, ih]
        by_cases z : c < n
        · rw [if_pos z, if_pos (by omega)]
        · rw [if_neg z, if_neg (by omega)]
      · rw [cnP_f (P := fun q => T q ∨ q = c) (fun z => z.elim q e), cnP_f q, ih]
        by_cases z : c < n
        · rw [if_pos z, if_pos (by omega)]
        · rw [if_neg z, if_neg (by omega)]
theorem SEEN_congr {w : Wd} {T R : Nat → Prop} (h : ∀ q, T q ↔ R q) (hs : SEEN w T) : SEEN w R := by
  have e : T = R := funext (fun q => propext (h q))
  rw [← e]
  exact hs

theorem c_seeRow {d : Nat} {w : Wd} {Q : Option MV → Wd → Prop} {T : Nat → Prop} {c : Nat} (hS : SEEN w T) (hc : c < 1000) (hQ : ∀ w2, SEEN w2 (fun q => T q ∨ q = c) → sfR w w2 → Q none w2) : Call (d + 1) mX0_seeRow [vR 35, vI (c : Int)] w Q := by
  refine call_in (ls := [some (vR 35), some (vI (c : Int)), none, none]) (by decide +kernel) rfl (Nat.le_of_ble_eq_true rfl) (fun κ hC hR hN => ?_)
  have hC : ctxB κ RX0 cX0_seeRow (d + 1) := hC
  have hN : mlx κ 4 := hN
  refine w_il1 hC dX0_seeRow_0 ?_
  refine v_bipush hC dX0_seeRow_1 (by decide) ?_
  refine v_idiv_n hC (by omega) (by omega) dX0_seeRow_3 ?_
  rw [show ((c : Nat) : Int) / 32 = ((c / 32 : Nat) : Int) by omega]
  refine w_is2 hC dX0_seeRow_4 hN (by first | rfl | assumption) ?_
  refine w_ic hC dX0_seeRow_5 rfl ?_
  refine w_il1 hC dX0_seeRow_6 ?_
  refine v_bipush hC dX0_seeRow_7 (by decide) ?_
  refine v_irem_n hC (by omega) (by omega) dX0_seeRow_9 ?_
  rw [show ((c : Nat) : Int) % 32 = ((c % 32 : Nat) : Int) by omega]
  refine v_ishl hC dX0_seeRow_10 ?_
  rw [bShl_w _ (by omega)]
  refine w_is3 hC dX0_seeRow_11 hN (by first | rfl | assumption) ?_
  refine w_al0 hC dX0_seeRow_12 ?_
  refine v_getR (off := 3) (j := 38) hC dX0_seeRow_13 fd_X0_18 rfl rfl rfl ?_
  refine w_il2 hC dX0_seeRow_16 ?_
  refine w_sn2 hC sn_X0_42 dX0_seeRow_17 rfl hN (c_at rfl ?_)
  rw [atV_n w (show c / 32 < 32 by omega), hS.1 _ (by omega)]
  have hmb := mkM_bit (fun b => T (32 * (c / 32) + b)) 32 (c % 32)
  rw [show 32 * (c / 32) + c % 32 = c by omega] at hmb
  refine w_il3 hC dX0_seeRow_20 ?_
  refine v_iand hC dX0_seeRow_21 ?_
  rw [bAnd_w, and_two]
  refine v_if_ne (tgt := 65) hC dX0_seeRow_22 rfl (fun h22 => ?_) (fun h22 => ?_)
  · refine v_vret hC hR dX0_seeRow_65 ?_
    first
      | (refine hQ _ ⟨fun i hi => ?_, ?_, ?_, ?_⟩ (fun i k h1 h2 => by rw [up_id _ _ h2, up_id _ _ h2, up_id _ _ h1])
         · rw [up_id _ _ (by decide), up_id _ _ (by decide)]
           by_cases e : i = c / 32
           · subst e
             rw [up_same]
             refine congrArg (fun (z : Nat) => wr (z : Int)) ?_
             apply Nat.eq_of_testBit_eq
             intro k
             rw [Bool.eq_iff_iff, Nat.testBit_or, Bool.or_eq_true, mkM_bit, mkM_bit, Nat.testBit_two_pow]
             simp only [decide_eq_true_eq]
             constructor
             · rintro (⟨q1, q2⟩ | q1)
               · exact ⟨q1, Or.inl q2⟩
               · exact ⟨by omega, Or.inr (by omega)⟩
             · rintro ⟨q1, q2 | q2⟩
               · exact Or.inl ⟨q1, q2⟩
               · exact Or.inr (by omega)
           · rw [up_pl _ _ e, hS.1 i hi]
             refine congrArg (fun (z : Nat) => wr (z : Int)) ?_
             exact mkM_congr 32 (fun k hk => ⟨fun q => Or.inl q, fun q => q.elim id (fun q => by omega)⟩)
         · rw [up_pl _ _ (by decide), up_same, cnP_add hnt, if_pos hc]
           omega
         · rw [up_same]
           obtain ⟨g1, g2⟩ := hS.2.2.1
           refine ⟨fun q hq => ?_, ?_⟩
           · rcases hq with hq | hq
             · have := g1 q hq; omega
             · subst hq; omega
           · right
             by_cases z : w 35 4 ≤ (c : Int)
             · exact ⟨c, Or.inr rfl, by omega⟩
             · rcases g2 with g2 | ⟨q, q1, q2⟩
               · omega
               · exact ⟨q, Or.inl q1, by omega⟩
         · intro q hq
           rcases hq with hq | hq
           · exact hS.2.2.2 q hq
           · omega)
      | (have hT : T c := by
           rcases Bool.eq_false_or_eq_true ((mkM (fun b => T (32 * (c / 32) + b)) 32).testBit (c % 32)) with z | z
           · exact (hmb.mp z).2
           · exfalso
             rw [if_neg (by rw [z]; decide)] at h22
             exact h22 rfl
         exact hQ w (SEEN_congr (fun q => ⟨Or.inl, fun z => z.elim id (fun z => by rw [z]; exact hT)⟩) hS) (fun i k _ _ => rfl))
  · refine w_al0 hC dX0_seeRow_25 ?_
    refine v_getR (off := 3) (j := 38) hC dX0_seeRow_26 fd_X0_18 rfl rfl rfl ?_
    refine w_il2 hC dX0_seeRow_29 ?_
    refine w_al0 hC dX0_seeRow_30 ?_
    refine v_getR (off := 3) (j := 38) hC dX0_seeRow_31 fd_X0_18 rfl rfl rfl ?_
    refine w_il2 hC dX0_seeRow_34 ?_
    refine w_sn2 hC sn_X0_42 dX0_seeRow_35 rfl hN (c_at rfl ?_)
    rw [atV_n w (show c / 32 < 32 by omega), hS.1 _ (by omega)]
    refine w_il3 hC dX0_seeRow_38 ?_
    refine v_ior hC dX0_seeRow_39 ?_
    rw [bOr_w]
    refine w_sn3 hC sn_X0_34 dX0_seeRow_40 rfl hN (c_set rfl ?_)
    rw [stV_n w (show c / 32 < 32 by omega)]
    have hnt : ¬ T c := fun z => by
      have z2 := hmb.mpr ⟨by omega, z⟩
      rw [if_pos z2] at h22
      exact wr_two _ (by omega) h22
    have hcl := cnP_le T 1000
    have e35 : ∀ k, up w 38 (c / 32) (wr ((mkM (fun b => T (32 * (c / 32) + b)) 32 ||| 2 ^ (c % 32) : Nat) : Int)) 35 k = w 35 k := fun k => up_id _ _ (by decide)
    refine w_al0 hC dX0_seeRow_43 ?_
    refine v_dup hC dX0_seeRow_44 rfl ?_
    refine v_getI hC dX0_seeRow_45 fd_X0_86 rfl rfl ?_
    rw [e35, hS.2.1]
    refine w_ic hC dX0_seeRow_48 rfl ?_
    refine w_iadd hC dX0_seeRow_49 (ri_mk (by omega) (by omega)) ?_
    refine v_putI hC dX0_seeRow_50 fp_X0_86 rfl rfl ?_
    refine w_al0 hC dX0_seeRow_53 ?_
    refine w_al0 hC dX0_seeRow_54 ?_
    refine v_getI hC dX0_seeRow_55 fd_X0_89 rfl rfl ?_
    rw [up_pl _ _ (by decide), e35]
    refine w_il1 hC dX0_seeRow_58 ?_
    refine w_st2 hC st_X0_83 dX0_seeRow_59 rfl hN (c_max ?_)
    refine v_putI hC dX0_seeRow_62 fp_X0_89 rfl rfl ?_
    refine v_vret hC hR dX0_seeRow_65 ?_
    first
      | (refine hQ _ ⟨fun i hi => ?_, ?_, ?_, ?_⟩ (fun i k h1 h2 => by rw [up_id _ _ h2, up_id _ _ h2, up_id _ _ h1])
         · rw [up_id _ _ (by decide), up_id _ _ (by decide)]
           by_cases e : i = c / 32
           · subst e
             rw [up_same]
             refine congrArg (fun (z : Nat) => wr (z : Int)) ?_
             apply Nat.eq_of_testBit_eq
             intro k
             rw [Bool.eq_iff_iff, Nat.testBit_or, Bool.or_eq_true, mkM_bit, mkM_bit, Nat.testBit_two_pow]
             simp only [decide_eq_true_eq]
             constructor
             · rintro (⟨q1, q2⟩ | q1)
               · exact ⟨q1, Or.inl q2⟩
               · exact ⟨by omega, Or.inr (by omega)⟩
             · rintro ⟨q1, q2 | q2⟩
               · exact Or.inl ⟨q1, q2⟩
               · exact Or.inr (by omega)
           · rw [up_pl _ _ e, hS.1 i hi]
             refine congrArg (fun (z : Nat) => wr (z : Int)) ?_
             exact mkM_congr 32 (fun k hk => ⟨fun q => Or.inl q, fun q => q.elim id (fun q => by omega)⟩)
         · rw [up_pl _ _ (by decide), up_same, cnP_add hnt, if_pos hc]
           omega
         · rw [up_same]
           obtain ⟨g1, g2⟩ := hS.2.2.1
           refine ⟨fun q hq => ?_, ?_⟩
           · rcases hq with hq | hq
             · have := g1 q hq; omega
             · subst hq; omega
           · right
             by_cases z : w 35 4 ≤ (c : Int)
             · exact ⟨c, Or.inr rfl, by omega⟩
             · rcases g2 with g2 | ⟨q, q1, q2⟩
               · omega
               · exact ⟨q, Or.inl q1, by omega⟩
         · intro q hq
           rcases hq with hq | hq
           · exact hS.2.2.2 q hq
           · omega)
      | (have hT : T c := by
           rcases Bool.eq_false_or_eq_true ((mkM (fun b => T (32 * (c / 32) + b)) 32).testBit (c % 32)) with z | z
           · exact (hmb.mp z).2
           · exfalso
             rw [if_neg (by rw [z]; decide)] at h22
             exact h22 rfl
         exact hQ w (SEEN_congr (fun q => ⟨Or.inl, fun z => z.elim id (fun z => by rw [z]; exact hT)⟩) hS) (fun i k _ _ => rfl))

theorem ten3 : ∀ l, l ≤ 3 → 10 ^ l ≤ 1000 := by decide
theorem e8_3 : ∀ l, l ≤ 3 → 8 ^ l ≤ 512 := by decide
theorem e8_2 (l : Nat) : 2 ^ (3 * l) = 8 ^ l := Nat.pow_mul 2 3 l
theorem bAnd_7 {x : Nat} (hx : x < 2147483648) : bAnd (x : Int) 7 = ((x % 8 : Nat) : Int) := by
  rw [show (7 : Int) = ((7 : Nat) : Int) from rfl, bAnd_n hx]
  exact congrArg (fun (z : Nat) => (z : Int)) (Nat.and_two_pow_sub_one_eq_mod x 3)
theorem rb_no {T : Nat → Prop} {z : Int} (h : z = -1) (q : Nat) : T q ↔ (T q ∨ z = (q : Int)) := ⟨Or.inl, fun g => g.elim id (fun g => by omega)⟩
theorem rb_at {T : Nat → Prop} {z : Int} {c : Nat} (h : (c : Int) = z) (q : Nat) : (T q ∨ q = c) ↔ (T q ∨ z = (q : Int)) := by
  subst h
  constructor
  · rintro (g | g)
    · exact Or.inl g
    · exact Or.inr (by omega)
  · rintro (g | g)
    · exact Or.inl g
    · exact Or.inr (by omega)
theorem rb_up {f : Nat → Int} {R : Nat} (q : Nat) : ((∃ r, r < R ∧ f r = (q : Int)) ∨ f R = (q : Int)) ↔ ∃ r, r < R + 1 ∧ f r = (q : Int) := by
  constructor
  · rintro (⟨r, h1, h2⟩ | h)
    · exact ⟨r, by omega, h2⟩
    · exact ⟨R, by omega, h⟩
  · rintro ⟨r, h1, h2⟩
    by_cases e : r = R
    · subst e; exact Or.inr h2
    · exact Or.inl ⟨r, by omega, h2⟩

theorem c_spellRow {d : Nat} {w : Wd} {Q : Option MV → Wd → Prop} {a : Nat → Int} {n m : Nat} (hv : VX w 1 a) (hA : AOK a) (h3 : a 3 = n) (h1 : a 1 = m) {N R : Nat} {T : Nat → Prop} (hN3 : N ≤ 3 ∧ N ≤ m) (hRl : R < 8 ^ N) (hS : SEEN w T) (hQ : ∀ w2, SEEN w2 (fun q => T q ∨ rbN (laF a) n N 0 0 0 R = (q : Int)) → sfR w w2 → Q none w2) : Call (d + 2) mX0_spellRow [vR 35, vR 1, vI (N : Int), vI (R : Int)] w Q := by
  have hb := vb1
  have am := hA.m
  have an := hA.n
  rw [h3] at an
  rw [h1] at am
  have h256 := n2_le (n := n) (by omega)
  have x1 : w 1 1 = m := by rw [hv.1.2.1, h1]
  have x3 : w 1 3 = n := by rw [hv.1.2.2.2.1, h3]
  refine call_in (ls := [some (vR 35), some (vR 1), some (vI (N : Int)), some (vI (R : Int)), none, none, none, none]) (by decide +kernel) rfl (Nat.le_of_ble_eq_true rfl) (fun κ hC hR hN => ?_)
  have hC : ctxB κ RX0 cX0_spellRow (d + 2) := hC
  have hN : mlx κ 8 := hN
  refine w_ic hC dX0_spellRow_0 rfl ?_
  refine w_is4 hC dX0_spellRow_1 hN (by first | rfl | assumption) ?_
  refine w_ic hC dX0_spellRow_3 rfl ?_
  refine w_is5 hC dX0_spellRow_4 hN (by first | rfl | assumption) ?_
  refine w_ic hC dX0_spellRow_6 rfl ?_
  refine w_is6 hC dX0_spellRow_7 hN (by first | rfl | assumption) ?_
  refine w_dr7 ?_
  have lp9 : ∀ (K : Nat) (u l c : Nat), (N - l) < K → (l ≤ N) → (u < 2 ^ n) → (c < 10 ^ l) → (rbN (laF a) n (N - l) l u (c : Int) (R / 8 ^ l) = rbN (laF a) n N 0 0 0 R) → VV κ 9 [some (vR 35), some (vR 1), some (vI (N : Int)), some (vI (R : Int)), some (vI (u : Int)), some (vI (c : Int)), some (vI (l : Int)), none] [] w := by
    intro K
    induction K with
    | zero => intros; omega
    | succ K ih9 =>
      intro u l c hm9 hl hu hc he
      have hR5 := e8_3 N hN3.1
      have ht3 := ten3 l (by omega)
      refine w_il6 hC dX0_spellRow_9 ?_
      refine w_il2 hC dX0_spellRow_11 ?_
      refine v_ic_ge (tgt := 81) hC dX0_spellRow_12 rfl (fun h12 => ?_) (fun h12 => ?_)
      · refine w_al0 hC dX0_spellRow_81 ?_
        refine w_il5 hC dX0_spellRow_82 ?_
        have hcz : (c : Int) = rbN (laF a) n N 0 0 0 R := by rw [← he, show N - l = 0 by omega]; rfl
        refine w_vi1 hC vi_X0_107 rfl dX0_spellRow_84 rfl hN (c_seeRow hS (by omega) (fun w2 s2 o2 => ?_))
        refine v_vret hC hR dX0_spellRow_87 ?_
        exact hQ w2 (SEEN_congr (rb_at hcz) s2) o2
      · obtain ⟨k, hk⟩ : ∃ k, k = R / 8 ^ l % 8 := ⟨_, rfl⟩
        have hNl : N - l = (N - (l + 1)) + 1 := by omega
        have hdl := Nat.div_le_self R (8 ^ l)
        have ht4 := ten3 (l + 1) (by omega)
        rw [Nat.pow_succ] at ht4
        refine w_il3 hC dX0_spellRow_15 ?_
        refine w_ic hC dX0_spellRow_16 rfl ?_
        refine w_il6 hC dX0_spellRow_17 ?_
        refine w_imul hC dX0_spellRow_19 (ri_mk (by omega) (by omega)) ?_
        rw [show (3 : Int) * ((l : Nat) : Int) = ((3 * l : Nat) : Int) by omega]
        refine v_ishr hC dX0_spellRow_20 ?_
        rw [bShr_n (by omega) (by omega), e8_2]
        refine v_bipush hC dX0_spellRow_21 (by decide) ?_
        refine v_iand hC dX0_spellRow_23 ?_
        rw [bAnd_7 (by omega), ← hk]
        refine w_is7 hC dX0_spellRow_24 hN (by first | rfl | assumption) ?_
        refine w_al1 hC dX0_spellRow_26 ?_
        refine w_il7 hC dX0_spellRow_27 ?_
        refine w_vi1 hC vi_X0_96 rfl dX0_spellRow_29 rfl hN (c_hasWord hb hv hA (fun g4 => ?_) (fun g4 => ?_))
        · refine v_if_eq (tgt := 45) hC dX0_spellRow_32 rfl (fun h => absurd h (by decide)) (fun _ => ?_)
          refine w_il4 hC dX0_spellRow_35 ?_
          refine w_il7 hC dX0_spellRow_37 ?_
          refine w_sn2 hC sn_X0_51 dX0_spellRow_39 rfl hN (c_hasBit (by omega) (by omega) (fun g5 => ?_) (fun g5 => ?_))
          · refine v_if_eq (tgt := 46) hC dX0_spellRow_42 rfl (fun h => absurd h (by decide)) (fun _ => ?_)
            refine v_vret hC hR dX0_spellRow_45 ?_
            first
            | exact hQ w (SEEN_congr (rb_no (by rw [← he, hNl]; exact rb_1 (by rw [← hk]; omega))) hS) (fun _ _ _ _ => rfl)
            | exact hQ w (SEEN_congr (rb_no (by rw [← he, hNl]; exact rb_2 (by rw [← hk]; exact g5))) hS) (fun _ _ _ _ => rfl)
          · refine v_if_eq (tgt := 46) hC dX0_spellRow_42 rfl (fun _ => ?_) (fun h => absurd h (by decide))
            have hkn : k < n := by omega
            refine w_il4 hC dX0_spellRow_46 ?_
            refine w_ic hC dX0_spellRow_48 rfl ?_
            refine w_il7 hC dX0_spellRow_49 ?_
            refine v_ishl hC dX0_spellRow_51 ?_
            rw [bShl_1 (by omega)]
            refine v_ior hC dX0_spellRow_52 ?_
            rw [bOr_n (by omega) (by have := two_lt hkn; omega)]
            refine w_is4 hC dX0_spellRow_53 hN (by first | rfl | assumption) ?_
            refine v_bipush hC dX0_spellRow_55 (by decide) ?_
            refine w_il5 hC dX0_spellRow_57 ?_
            refine w_imul hC dX0_spellRow_59 (ri_mk (by omega) (by omega)) ?_
            refine w_al1 hC dX0_spellRow_60 ?_
            refine w_al1 hC dX0_spellRow_61 ?_
            refine v_getI hC dX0_spellRow_62 fd_X0_100 rfl rfl ?_
            rw [hv.1.1]
            refine w_il7 hC dX0_spellRow_65 ?_
            refine w_il6 hC dX0_spellRow_67 ?_
            refine w_vi3 hC vi_X0_103 rfl dX0_spellRow_69 rfl hN (c_letterBy hb hv hA ⟨by omega, by omega⟩ ⟨by omega, by omega⟩ ?_)
            have hlr := laF_r (l := l) hA h3 hkn
            obtain ⟨c2, hc2⟩ := Int.eq_ofNat_of_zero_le (show 0 ≤ 10 * (c : Int) + laF a k l by omega)
            have hla : lBy a (a 0) k l = laF a k l := rfl
            rw [hla]
            refine w_iadd hC dX0_spellRow_72 (ri_mk (by omega) (by omega)) ?_
            rw [hc2]
            refine w_is5 hC dX0_spellRow_73 hN (by first | rfl | assumption) ?_
            refine w_inc6 hC dX0_spellRow_75 hN (by first | rfl | assumption) (ri_mk (by omega) (by omega)) ?_
            refine v_goto (tgt := 9) hC dX0_spellRow_78 rfl ?_
            refine w_dr7 ?_
            exact ih9 (u ||| 2 ^ k) (l + 1) c2 (by omega) (by omega) (or2_lt hu hkn) (by rw [Nat.pow_succ]; omega) (by rw [← he, hNl, rb_3 (by rw [← hk]; exact hkn) (by rw [← hk]; exact g5), ← hk, hc2, Nat.pow_succ, Nat.div_div_eq_div_mul])
        · refine v_if_eq (tgt := 45) hC dX0_spellRow_32 rfl (fun _ => ?_) (fun h => absurd h (by decide))
          refine v_vret hC hR dX0_spellRow_45 ?_
          first
          | exact hQ w (SEEN_congr (rb_no (by rw [← he, hNl]; exact rb_1 (by rw [← hk]; omega))) hS) (fun _ _ _ _ => rfl)
          | exact hQ w (SEEN_congr (rb_no (by rw [← he, hNl]; exact rb_2 (by rw [← hk]; exact g5))) hS) (fun _ _ _ _ => rfl)
  exact lp9 (N + 1) 0 0 0 (by omega) (Nat.zero_le _) (Nat.pow_pos (by decide)) (by decide) (by rw [Nat.pow_zero, Nat.div_one]; rfl)

theorem c_spellRows {d : Nat} {w : Wd} {Q : Option MV → Wd → Prop} {a : Nat → Int} {n m : Nat} (hv : VX w 1 a) (hA : AOK a) (h3 : a 3 = n) (h1 : a 1 = m) {N : Nat} (hN3 : N ≤ 3 ∧ N ≤ m) (hQ : ∀ w2, SEEN w2 (fun q => roN (laF a) n N 0 0 0 q) → sfR w w2 → Q none w2) : Call (d + 3) mX0_spellRows [vR 35, vR 1, vI (N : Int)] w Q := by
  have hb := vb1
  have am := hA.m
  have an := hA.n
  rw [h3] at an
  rw [h1] at am
  have h256 := n2_le (n := n) (by omega)
  have x1 : w 1 1 = m := by rw [hv.1.2.1, h1]
  have x3 : w 1 3 = n := by rw [hv.1.2.2.2.1, h3]
  refine call_in (ls := [some (vR 35), some (vR 1), some (vI (N : Int)), none, none]) (by decide +kernel) rfl (Nat.le_of_ble_eq_true rfl) (fun κ hC hR hN => ?_)
  have hC : ctxB κ RX0 cX0_spellRows (d + 3) := hC
  have hN : mlx κ 5 := hN
  refine w_al0 hC dX0_spellRows_0 ?_
  refine v_getR (off := 3) (j := 38) hC dX0_spellRows_1 fd_X0_18 rfl rfl rfl ?_
  refine w_ic hC dX0_spellRows_4 rfl ?_
  refine w_st2 hC st_X0_73 dX0_spellRows_5 rfl hN (c_fill rfl (fun w1 f1 o1 => ?_))
  have h85 := e8_3 N hN3.1
  have h8p : 0 < 8 ^ N := Nat.pow_pos (by decide)
  refine w_al0 hC dX0_spellRows_8 ?_
  refine w_ic hC dX0_spellRows_9 rfl ?_
  refine v_putI hC dX0_spellRows_10 fp_X0_86 rfl rfl ?_
  refine w_al0 hC dX0_spellRows_13 ?_
  refine w_ic hC dX0_spellRows_14 rfl ?_
  refine v_putI hC dX0_spellRows_15 fp_X0_89 rfl rfl ?_
  refine w_ic hC dX0_spellRows_18 rfl ?_
  refine w_ic hC dX0_spellRows_19 rfl ?_
  refine w_ic hC dX0_spellRows_20 rfl ?_
  refine w_il2 hC dX0_spellRows_21 ?_
  refine w_ic hC dX0_spellRows_22 rfl ?_
  refine w_st2 hC st_X0_60 dX0_spellRows_23 rfl hN (c_min ?_)
  rw [show min ((N : Nat) : Int) 3 = (N : Int) by omega]
  refine w_st2 hC st_X0_83 dX0_spellRows_26 rfl hN (c_max ?_)
  rw [show max 0 ((N : Nat) : Int) = (N : Int) by omega]
  refine w_imul hC dX0_spellRows_29 (ri_mk (by omega) (by omega)) ?_
  rw [show (3 : Int) * ((N : Nat) : Int) = ((3 * N : Nat) : Int) by omega]
  refine v_ishl hC dX0_spellRows_30 ?_
  rw [bShl_1 (by omega), e8_2]
  refine w_is3 hC dX0_spellRows_31 hN (by first | rfl | assumption) ?_
  refine w_ic hC dX0_spellRows_32 rfl ?_
  refine w_is4 hC dX0_spellRows_33 hN (by first | rfl | assumption) ?_
  have lp35 : ∀ (K : Nat) (w2 : Wd) (R : Nat), (8 ^ N - R) < K → (R ≤ 8 ^ N) → (SEEN w2 (fun q => ∃ r, r < R ∧ rbN (laF a) n N 0 0 0 r = (q : Int))) → (sfR w w2) → VV κ 35 [some (vR 35), some (vR 1), some (vI (N : Int)), some (vI ((8 ^ N : Nat) : Int)), some (vI (R : Int))] [] w2 := by
    intro K
    induction K with
    | zero => intros; omega
    | succ K ih35 =>
      intro w2 R hm35 hRl s2 o2
      have hv2 : VX w2 1 a := hv.fr (fun i k p q => o2 i k (by omega) (by omega))
      refine w_il4 hC dX0_spellRows_35 ?_
      refine w_il3 hC dX0_spellRows_37 ?_
      refine v_ic_ge (tgt := 55) hC dX0_spellRows_38 rfl (fun h38 => ?_) (fun h38 => ?_)
      · refine v_vret hC hR dX0_spellRows_55 ?_
        refine hQ w2 (SEEN_congr (fun q => ?_) s2) o2
        rw [ro_rb2 (by omega) (fun k l h => (laF_r hA h3 h).1) N 0 0 0 q (Int.le_refl 0) (Int.ofNat_nonneg q), show R = 8 ^ N by omega]
      · refine w_al0 hC dX0_spellRows_41 ?_
        refine w_al1 hC dX0_spellRows_42 ?_
        refine w_il2 hC dX0_spellRows_43 ?_
        refine w_il4 hC dX0_spellRows_44 ?_
        refine w_vi3 hC vi_X0_92 rfl dX0_spellRows_46 rfl hN (c_spellRow hv2 hA h3 h1 hN3 (by omega) s2 (fun w3 s3 o3 => ?_))
        refine w_inc4 hC dX0_spellRows_49 hN (by first | rfl | assumption) (ri_mk (by omega) (by omega)) ?_
        refine v_goto (tgt := 35) hC dX0_spellRows_52 rfl ?_
        exact ih35 w3 (R + 1) (by omega) (by omega) (SEEN_congr rb_up s3) (fun i k p q => by rw [o3 i k p q]; exact o2 i k p q)
  refine lp35 (8 ^ N + 1) _ 0 (by omega) (Nat.zero_le _) ⟨fun i hi => ?_, ?_, ?_, fun q h => ?_⟩ (fun i k p q => by rw [up_id _ _ q, up_id _ _ q]; exact o1 i k p)
  · rw [up_id _ _ (by decide), up_id _ _ (by decide), f1 i hi]
    rw [show mkM (fun b => ∃ r, r < 0 ∧ rbN (laF a) n N 0 0 0 r = ((32 * i + b : Nat) : Int)) 32 = 0 from Nat.eq_of_testBit_eq (fun k => by rw [Nat.zero_testBit]; cases hb : (mkM (fun b => ∃ r, r < 0 ∧ rbN (laF a) n N 0 0 0 r = ((32 * i + b : Nat) : Int)) 32).testBit k with | false => rfl | true => exact (((mkM_bit _ 32 k).mp hb).2.elim (fun _ z => absurd z.1 (Nat.not_lt_zero _))))]
    rfl
  · rw [up_pl _ _ (by decide), up_same, show cnP (fun q => ∃ r, r < 0 ∧ rbN (laF a) n N 0 0 0 r = ((q : Nat) : Int)) 1000 = 0 from cnP_gap (m := 0) 1000 (Nat.zero_le _) (fun _ _ _ h => h.elim (fun _ z => absurd z.1 (Nat.not_lt_zero _)))]
    rfl
  · rw [up_same]
    exact ⟨fun _ h => h.elim (fun _ z => absurd z.1 (Nat.not_lt_zero _)), Or.inl rfl⟩
  · exact h.elim (fun _ z => absurd z.1 (Nat.not_lt_zero _))
