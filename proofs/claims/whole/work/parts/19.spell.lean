/-! the speller -/
def fitF (a : Nat → Int) (f : Int) : Nat → Nat → Bool := fun k j => decide (lBy a f k j = tgL a j)
def FT (w : Wd) (n m : Nat) (F : Nat → Nat → Bool) : Prop := ∀ j, j < m → w 36 j = ((msN F n j : Nat) : Int)
def coF (a : Nat → Int) (c : Int) : Nat → Nat → Int := fun k j => if c = 0 then 0 else csB a k j
theorem coF_r {a : Nat → Int} {n m : Nat} (hA : AOK a) (h3 : a 3 = n) (h1 : a 1 = m) (c : Int) {k j : Nat} (hk : k < n) (hj : j < m) : 0 ≤ coF a c k j ∧ coF a c k j ≤ 12 := by
  have am := hA.m
  unfold coF
  split
  next => omega
  next => exact csB_q hA ⟨by omega, by omega⟩ ⟨by omega, by omega⟩
def bc1 (x : Int) : Int := wr (x - bAnd (bUsh x 1) 1431655765)
def bc2 (x : Int) : Int := wr (bAnd x 858993459 + bAnd (bUsh x 2) 858993459)
def bc3 (x : Int) : Int := bAnd (wr (x + bUsh x 4)) 252645135
def bc4 (x : Int) : Int := wr (x + bUsh x 8)
def bc5 (x : Int) : Int := wr (x + bUsh x 16)
theorem bcN : ∀ u : Nat, u < 256 → ((pcN u : Nat) : Int) = bAnd (bc5 (bc4 (bc3 (bc2 (bc1 (u : Int)))))) 63 := by decide +kernel
theorem fitF_iff {a : Nat → Int} {f : Int} {k j : Nat} : fitF a f k j = true ↔ fitB a f k j := by
  unfold fitF fitB
  exact decide_eq_true_iff

theorem c_bitCount {d : Nat} {w : Wd} {Q : Option MV → Wd → Prop} {u : Nat} (hu : u < 256) (hQ : Q (some (.inl ((pcN u : Nat) : Int))) w) : Call (d + 0) mJ6_bitCount_0f7a4 [vI (u : Int)] w Q := by
  refine call_in (ls := [some (vI (u : Int))]) (by decide +kernel) rfl (Nat.le_of_ble_eq_true rfl) (fun κ hC hR hN => ?_)
  have hC : ctxB κ RJ6 cJ6_bitCount_0f7a4 (d + 0) := hC
  have hN : mlx κ 1 := hN
  refine w_il0 hC dJ6_bitCount_0f7a4_0 ?_
  refine w_il0 hC dJ6_bitCount_0f7a4_1 ?_
  refine w_ic hC dJ6_bitCount_0f7a4_2 rfl ?_
  refine v_iushr hC dJ6_bitCount_0f7a4_3 ?_
  refine v_ldcw (n := 1431655765) hC dJ6_bitCount_0f7a4_4 ki_J6_265 rfl (ckI_ok rfl) ?_
  refine v_iand hC dJ6_bitCount_0f7a4_7 ?_
  refine v_isub hC dJ6_bitCount_0f7a4_8 ?_
  refine w_is0 hC dJ6_bitCount_0f7a4_9 hN ?_
  refine w_il0 hC dJ6_bitCount_0f7a4_10 ?_
  refine v_ldcw (n := 858993459) hC dJ6_bitCount_0f7a4_11 ki_J6_266 rfl (ckI_ok rfl) ?_
  refine v_iand hC dJ6_bitCount_0f7a4_14 ?_
  refine w_il0 hC dJ6_bitCount_0f7a4_15 ?_
  refine w_ic hC dJ6_bitCount_0f7a4_16 rfl ?_
  refine v_iushr hC dJ6_bitCount_0f7a4_17 ?_
  refine v_ldcw (n := 858993459) hC dJ6_bitCount_0f7a4_18 ki_J6_266 rfl (ckI_ok rfl) ?_
  refine v_iand hC dJ6_bitCount_0f7a4_21 ?_
  refine v_iadd hC dJ6_bitCount_0f7a4_22 ?_
  refine w_is0 hC dJ6_bitCount_0f7a4_23 hN ?_
  refine w_il0 hC dJ6_bitCount_0f7a4_24 ?_
  refine w_il0 hC dJ6_bitCount_0f7a4_25 ?_
  refine w_ic hC dJ6_bitCount_0f7a4_26 rfl ?_
  refine v_iushr hC dJ6_bitCount_0f7a4_27 ?_
  refine v_iadd hC dJ6_bitCount_0f7a4_28 ?_
  refine v_ldcw (n := 252645135) hC dJ6_bitCount_0f7a4_29 ki_J6_267 rfl (ckI_ok rfl) ?_
  refine v_iand hC dJ6_bitCount_0f7a4_32 ?_
  refine w_is0 hC dJ6_bitCount_0f7a4_33 hN ?_
  refine w_il0 hC dJ6_bitCount_0f7a4_34 ?_
  refine w_il0 hC dJ6_bitCount_0f7a4_35 ?_
  refine v_bipush hC dJ6_bitCount_0f7a4_36 (by decide) ?_
  refine v_iushr hC dJ6_bitCount_0f7a4_38 ?_
  refine v_iadd hC dJ6_bitCount_0f7a4_39 ?_
  refine w_is0 hC dJ6_bitCount_0f7a4_40 hN ?_
  refine w_il0 hC dJ6_bitCount_0f7a4_41 ?_
  refine w_il0 hC dJ6_bitCount_0f7a4_42 ?_
  refine v_bipush hC dJ6_bitCount_0f7a4_43 (by decide) ?_
  refine v_iushr hC dJ6_bitCount_0f7a4_45 ?_
  refine v_iadd hC dJ6_bitCount_0f7a4_46 ?_
  refine w_is0 hC dJ6_bitCount_0f7a4_47 hN ?_
  refine w_il0 hC dJ6_bitCount_0f7a4_48 ?_
  refine v_bipush hC dJ6_bitCount_0f7a4_49 (by decide) ?_
  refine v_iand hC dJ6_bitCount_0f7a4_51 ?_
  refine v_iret hC hR dJ6_bitCount_0f7a4_52 ?_
  exact qz (bcN u hu) hQ

theorem c_findFitting {d : Nat} {w : Wd} {Q : Option MV → Wd → Prop} {a : Nat → Int} {n m : Nat} (hv : VX w 1 a) (hA : AOK a) (h3 : a 3 = n) (h1 : a 1 = m) {f : Int} (hQ : ∀ w2, FT w2 n m (fitF a f) → smO w w2 (fun i => i ≠ 36) → Q none w2) : Call (d + 3) mX0_findFitting [vR 35, vR 1, vI f] w Q := by
  have hb := vb1
  have am := hA.m
  have an := hA.n
  rw [h3] at an
  rw [h1] at am
  have h256 := n2_le (n := n) (by omega)
  have x1 : w 1 1 = m := by rw [hv.1.2.1, h1]
  have x3 : w 1 3 = n := by rw [hv.1.2.2.2.1, h3]
  refine call_in (ls := [some (vR 35), some (vR 1), some (vI f), none, none, none]) (by decide +kernel) rfl (Nat.le_of_ble_eq_true rfl) (fun κ hC hR hN => ?_)
  have hC : ctxB κ RX0 cX0_findFitting (d + 3) := hC
  have hN : mlx κ 6 := hN
  refine w_ic hC dX0_findFitting_0 rfl ?_
  refine w_is3 hC dX0_findFitting_1 hN (by first | rfl | assumption) ?_
  refine w_dr4 ?_
  refine w_dr5 ?_
  have lp2 : ∀ (K : Nat) (w2 : Wd) (j : Nat), (m - j) < K → (j ≤ m) → (FT w2 n j (fitF a f)) → (smO w w2 (fun i => i ≠ 36)) → VV κ 2 [some (vR 35), some (vR 1), some (vI f), some (vI (j : Int)), none, none] [] w2 := by
    intro K
    induction K with
    | zero => intros; omega
    | succ K ih2 =>
      intro w2 j hm2 hj g1 g2
      have hv2 : VX w2 1 a := hv.fr (fun i k p q => g2 i k (show i ≠ 36 by omega))
      have y1 : w2 1 1 = m := by rw [g2 1 1 (by decide), x1]
      have y3 : w2 1 3 = n := by rw [g2 1 3 (by decide), x3]
      refine w_il3 hC dX0_findFitting_2 ?_
      refine w_al1 hC dX0_findFitting_3 ?_
      refine v_getI hC dX0_findFitting_4 fd_X0_21 rfl rfl ?_
      rw [y1]
      refine v_ic_ge (tgt := 71) hC dX0_findFitting_7 rfl (fun h7 => ?_) (fun h7 => ?_)
      · refine v_vret hC hR dX0_findFitting_71 ?_
        rw [show j = m by omega] at g1
        exact hQ w2 g1 g2
      · refine w_ic hC dX0_findFitting_10 rfl ?_
        refine w_is4 hC dX0_findFitting_11 hN (by first | rfl | assumption) ?_
        refine w_ic hC dX0_findFitting_13 rfl ?_
        refine w_is5 hC dX0_findFitting_14 hN (by first | rfl | assumption) ?_
        have lp16 : ∀ (K2 : Nat) (k : Nat), (n - k) < K2 → (k ≤ n) → VV κ 16 [some (vR 35), some (vR 1), some (vI f), some (vI (j : Int)), some (vI ((mkM (fun q => fitF a f q j = true) k : Nat) : Int)), some (vI (k : Int))] [] w2 := by
          intro K2
          induction K2 with
          | zero => intros; omega
          | succ K2 ih16 =>
            intro k hm16 hk
            refine w_il5 hC dX0_findFitting_16 ?_
            refine w_al1 hC dX0_findFitting_18 ?_
            refine v_getI hC dX0_findFitting_19 fd_X0_27 rfl rfl ?_
            rw [y3]
            refine v_ic_ge (tgt := 55) hC dX0_findFitting_22 rfl (fun h22 => ?_) (fun h22 => ?_)
            · refine w_al0 hC dX0_findFitting_55 ?_
              refine v_getR (off := 1) (j := 36) hC dX0_findFitting_56 fd_X0_9 rfl rfl rfl ?_
              refine w_il3 hC dX0_findFitting_59 ?_
              refine w_il4 hC dX0_findFitting_60 ?_
              refine w_sn3 hC sn_X0_34 dX0_findFitting_62 rfl hN (c_set rfl ?_)
              rw [stV_n w2 (show j < 6 by omega)]
              refine w_inc3 hC dX0_findFitting_65 hN (by first | rfl | assumption) (ri_mk (by omega) (by omega)) ?_
              refine v_goto (tgt := 2) hC dX0_findFitting_68 rfl ?_
              refine w_dr4 ?_
              refine w_dr5 ?_
              exact ih2 _ (j + 1) (by omega) (by omega) (lt_s (fun i hi => by rw [up_pl _ _ (by omega)]; exact g1 i hi) (by rw [up_same, show k = n by omega]; rfl)) (fun i q hi => by rw [up_id _ _ hi]; exact g2 i q hi)
            · refine w_il4 hC dX0_findFitting_25 ?_
              refine w_al1 hC dX0_findFitting_27 ?_
              refine w_il2 hC dX0_findFitting_28 ?_
              refine w_il5 hC dX0_findFitting_29 ?_
              refine w_il3 hC dX0_findFitting_31 ?_
              refine w_vi3 hC vi_X0_30 rfl dX0_findFitting_32 rfl hN (c_fitsBy hb hv2 hA ⟨by omega, by omega⟩ ⟨by omega, by omega⟩ (fun g5 => ?_) (fun g5 => ?_))
              · refine v_if_eq (tgt := 45) hC dX0_findFitting_35 rfl (fun h => absurd h (by decide)) (fun _ => ?_)
                refine w_ic hC dX0_findFitting_38 rfl ?_
                refine w_il5 hC dX0_findFitting_39 ?_
                refine v_ishl hC dX0_findFitting_41 ?_
                refine v_goto (tgt := 46) hC dX0_findFitting_42 rfl ?_
                refine v_ior hC dX0_findFitting_46 ?_
                first | rw [or_t (P := fun q => fitF a f q j = true) (by omega) (fitF_iff.mpr g5)] | rw [or_f (P := fun q => fitF a f q j = true) (by omega) (fun z => g5 (fitF_iff.mp z))]
                refine w_is4 hC dX0_findFitting_47 hN (by first | rfl | assumption) ?_
                refine w_inc5 hC dX0_findFitting_49 hN (by first | rfl | assumption) (ri_mk (by omega) (by omega)) ?_
                refine v_goto (tgt := 16) hC dX0_findFitting_52 rfl ?_
                exact ih16 (k + 1) (by omega) (by omega)
              · refine v_if_eq (tgt := 45) hC dX0_findFitting_35 rfl (fun _ => ?_) (fun h => absurd h (by decide))
                refine w_ic hC dX0_findFitting_45 rfl ?_
                refine v_ior hC dX0_findFitting_46 ?_
                first | rw [or_t (P := fun q => fitF a f q j = true) (by omega) (fitF_iff.mpr g5)] | rw [or_f (P := fun q => fitF a f q j = true) (by omega) (fun z => g5 (fitF_iff.mp z))]
                refine w_is4 hC dX0_findFitting_47 hN (by first | rfl | assumption) ?_
                refine w_inc5 hC dX0_findFitting_49 hN (by first | rfl | assumption) (ri_mk (by omega) (by omega)) ?_
                refine v_goto (tgt := 16) hC dX0_findFitting_52 rfl ?_
                exact ih16 (k + 1) (by omega) (by omega)
        exact lp16 (n + 1) 0 (by omega) (by omega)
  exact lp2 (m + 1) w 0 (by omega) (by omega) (fun i h => by omega) (fun i k h => rfl)

theorem ms_keep1 {F : Nat → Nat → Bool} {g : Nat → Int} {n j : Nat} (h : g j = -1) : msN (stX F g) n j = msN F n j := mkM_congr n (fun k _ => by unfold stX; rw [decide_eq_true h]; simp)
theorem ms_keep2 {F : Nat → Nat → Bool} {g : Nat → Int} {n j wd : Nat} (h : g j = (wd : Int)) : msN F n j &&& 2 ^ wd = msN (stX F g) n j := by
  apply Nat.eq_of_testBit_eq
  intro k
  rw [Bool.eq_iff_iff, Nat.testBit_and, Bool.and_eq_true, msN_bit, msN_bit, Nat.testBit_two_pow]
  unfold stX
  rw [decide_eq_false (show ¬ g j = -1 by omega), Bool.false_or, Bool.and_eq_true]
  simp only [decide_eq_true_eq]
  constructor
  · rintro ⟨⟨q1, q2⟩, q3⟩; exact ⟨q1, q2, by omega⟩
  · rintro ⟨q1, q2, q3⟩; exact ⟨⟨q1, q2⟩, by omega⟩
theorem ms_leave {F : Nat → Nat → Bool} {n j wd : Nat} : andN (msN F n j) (2 ^ wd) = msN (lvF F wd) n j := by
  apply Nat.eq_of_testBit_eq
  intro k
  rw [Bool.eq_iff_iff, andN_bit, Bool.and_eq_true, msN_bit, msN_bit, Nat.testBit_two_pow]
  unfold lvF
  rw [Bool.and_eq_true]
  simp only [decide_eq_true_eq, Bool.not_eq_true', decide_eq_false_iff_not]
  constructor
  · rintro ⟨⟨q1, q2⟩, q3⟩; exact ⟨q1, q2, fun z => q3 z.symm⟩
  · rintro ⟨q1, q2, q3⟩; exact ⟨⟨q1, q2⟩, fun z => q3 z.symm⟩
theorem ms_small {F : Nat → Nat → Bool} {n j : Nat} (hn : n ≤ 8) : msN F n j < 256 := Nat.lt_of_lt_of_le (msN_lt F n j) (n2_le hn)

theorem c_keepStanding {d : Nat} {w : Wd} {Q : Option MV → Wd → Prop} {a : Nat → Int} {n m : Nat} (hv : VX w 1 a) (hA : AOK a) (h3 : a 3 = n) (h1 : a 1 = m) {F : Nat → Nat → Bool} (hF : FT w n m F) (hQ : ∀ w2, FT w2 n m (stX F (fun j => a (28 + j))) → smO w w2 (fun i => i ≠ 36) → Q none w2) : Call (d + 2) mX0_keepStanding [vR 35, vR 1] w Q := by
  have hb := vb1
  have am := hA.m
  have an := hA.n
  rw [h3] at an
  rw [h1] at am
  have h256 := n2_le (n := n) (by omega)
  have x1 : w 1 1 = m := by rw [hv.1.2.1, h1]
  have x3 : w 1 3 = n := by rw [hv.1.2.2.2.1, h3]
  refine call_in (ls := [some (vR 35), some (vR 1), none, none]) (by decide +kernel) rfl (Nat.le_of_ble_eq_true rfl) (fun κ hC hR hN => ?_)
  have hC : ctxB κ RX0 cX0_keepStanding (d + 2) := hC
  have hN : mlx κ 4 := hN
  refine w_ic hC dX0_keepStanding_0 rfl ?_
  refine w_is2 hC dX0_keepStanding_1 hN (by first | rfl | assumption) ?_
  refine w_dr3 ?_
  have lp2 : ∀ (K : Nat) (w2 : Wd) (j : Nat), (m - j) < K → (j ≤ m) → (FT w2 n j (stX F (fun j => a (28 + j)))) → (∀ i, j ≤ i → w2 36 i = w 36 i) → (smO w w2 (fun i => i ≠ 36)) → VV κ 2 [some (vR 35), some (vR 1), some (vI (j : Int)), none] [] w2 := by
    intro K
    induction K with
    | zero => intros; omega
    | succ K ih2 =>
      intro w2 j hm2 hj g1 g3 g2
      have hv2 : VX w2 1 a := hv.fr (fun i k p q => g2 i k (show i ≠ 36 by omega))
      have y1 : w2 1 1 = m := by rw [g2 1 1 (by decide), x1]
      refine w_il2 hC dX0_keepStanding_2 ?_
      refine w_al1 hC dX0_keepStanding_3 ?_
      refine v_getI hC dX0_keepStanding_4 fd_X0_21 rfl rfl ?_
      rw [y1]
      refine v_ic_ge (tgt := 47) hC dX0_keepStanding_7 rfl (fun h7 => ?_) (fun h7 => ?_)
      · refine v_vret hC hR dX0_keepStanding_47 ?_
        rw [show j = m by omega] at g1
        exact hQ w2 g1 g2
      · refine w_al1 hC dX0_keepStanding_10 ?_
        refine w_il2 hC dX0_keepStanding_11 ?_
        refine w_vi1 hC vi_X0_38 rfl dX0_keepStanding_12 rfl hN (c_wordOn hb hv2 hA ?_)
        have hwr := wOn_r hA j
        rw [wOn_n (by omega)] at hwr ⊢
        refine w_is3 hC dX0_keepStanding_15 hN (by first | rfl | assumption) ?_
        refine w_il3 hC dX0_keepStanding_16 ?_
        refine w_ic hC dX0_keepStanding_17 rfl ?_
        refine v_ic_eq (tgt := 41) hC dX0_keepStanding_18 rfl (fun h18 => ?_) (fun h18 => ?_)
        · refine w_inc2 hC dX0_keepStanding_41 hN (by first | rfl | assumption) (ri_mk (by omega) (by omega)) ?_
          refine v_goto (tgt := 2) hC dX0_keepStanding_44 rfl ?_
          refine w_dr3 ?_
          first
            | exact ih2 _ (j + 1) (by omega) (by omega) (lt_s g1 (by rw [g3 j (Nat.le_refl j), hF j (by omega), ms_keep1 (g := fun j => a (28 + j)) h18])) (fun i hi => g3 i (by omega)) g2
            | exact ih2 _ (j + 1) (by omega) (by omega) (lt_s (fun i hi => by rw [up_pl _ _ (by omega)]; exact g1 i hi) (by rw [up_same, ms_keep2 (g := fun j => a (28 + j)) hwd])) (fun i hi => by rw [up_pl _ _ (by omega)]; exact g3 i (by omega)) (fun i q hi => by rw [up_id _ _ hi]; exact g2 i q hi)
        · obtain ⟨wd, hwd⟩ := Int.eq_ofNat_of_zero_le (show 0 ≤ a (28 + j) by omega)
          refine w_al0 hC dX0_keepStanding_21 ?_
          refine v_getR (off := 1) (j := 36) hC dX0_keepStanding_22 fd_X0_9 rfl rfl rfl ?_
          refine w_il2 hC dX0_keepStanding_25 ?_
          refine w_al0 hC dX0_keepStanding_26 ?_
          refine v_getR (off := 1) (j := 36) hC dX0_keepStanding_27 fd_X0_9 rfl rfl rfl ?_
          refine w_il2 hC dX0_keepStanding_30 ?_
          refine w_sn2 hC sn_X0_42 dX0_keepStanding_31 rfl hN (c_at rfl ?_)
          rw [atV_n w2 (show j < 6 by omega), g3 j (Nat.le_refl j), hF j (by omega), hwd]
          have hms := ms_small (F := F) (n := n) (j := j) (by omega)
          refine w_ic hC dX0_keepStanding_34 rfl ?_
          refine w_il3 hC dX0_keepStanding_35 ?_
          refine v_ishl hC dX0_keepStanding_36 ?_
          rw [bShl_1 (by omega)]
          refine v_iand hC dX0_keepStanding_37 ?_
          rw [bAnd_n (by omega)]
          refine w_sn3 hC sn_X0_34 dX0_keepStanding_38 rfl hN (c_set rfl ?_)
          rw [stV_n w2 (show j < 6 by omega)]
          refine w_inc2 hC dX0_keepStanding_41 hN (by first | rfl | assumption) (ri_mk (by omega) (by omega)) ?_
          refine v_goto (tgt := 2) hC dX0_keepStanding_44 rfl ?_
          refine w_dr3 ?_
          first
            | exact ih2 _ (j + 1) (by omega) (by omega) (lt_s g1 (by rw [g3 j (Nat.le_refl j), hF j (by omega), ms_keep1 (g := fun j => a (28 + j)) h18])) (fun i hi => g3 i (by omega)) g2
            | exact ih2 _ (j + 1) (by omega) (by omega) (lt_s (fun i hi => by rw [up_pl _ _ (by omega)]; exact g1 i hi) (by rw [up_same, ms_keep2 (g := fun j => a (28 + j)) hwd])) (fun i hi => by rw [up_pl _ _ (by omega)]; exact g3 i (by omega)) (fun i q hi => by rw [up_id _ _ hi]; exact g2 i q hi)
  exact lp2 (m + 1) w 0 (by omega) (by omega) (fun i h => by omega) (fun _ _ => rfl) (fun i k h => rfl)

theorem c_leaveOut {d : Nat} {w : Wd} {Q : Option MV → Wd → Prop} {n m wd : Nat} {F : Nat → Nat → Bool} (hn : n ≤ 8) (hm : m ≤ 6) (hwd : wd < 8) (hF : FT w n m F) (hQ : ∀ w2, FT w2 n m (lvF F wd) → smO w w2 (fun i => i ≠ 36) → Q none w2) : Call (d + 1) mX0_leaveOut [vR 35, vI (wd : Int)] w Q := by
  refine call_in (ls := [some (vR 35), some (vI (wd : Int)), none]) (by decide +kernel) rfl (Nat.le_of_ble_eq_true rfl) (fun κ hC hR hN => ?_)
  have hC : ctxB κ RX0 cX0_leaveOut (d + 1) := hC
  have hN : mlx κ 3 := hN
  refine w_ic hC dX0_leaveOut_0 rfl ?_
  refine w_is2 hC dX0_leaveOut_1 hN (by first | rfl | assumption) ?_
  have lp2 : ∀ (K : Nat) (w2 : Wd) (j : Nat), (6 - j) < K → (j ≤ 6) → (∀ i, i < j → i < m → w2 36 i = ((msN (lvF F wd) n i : Nat) : Int)) → (∀ i, j ≤ i → w2 36 i = w 36 i) → (smO w w2 (fun i => i ≠ 36)) → VV κ 2 [some (vR 35), some (vI (wd : Int)), some (vI (j : Int))] [] w2 := by
    intro K
    induction K with
    | zero => intros; omega
    | succ K ih2 =>
      intro w2 j hm2 hj g1 g3 g2
      refine w_il2 hC dX0_leaveOut_2 ?_
      refine v_bipush hC dX0_leaveOut_3 (by decide) ?_
      refine v_ic_ge (tgt := 36) hC dX0_leaveOut_5 rfl (fun h5 => ?_) (fun h5 => ?_)
      · refine v_vret hC hR dX0_leaveOut_36 ?_
        exact hQ w2 (fun i hi => g1 i (by omega) hi) g2
      · refine w_al0 hC dX0_leaveOut_8 ?_
        refine v_getR (off := 1) (j := 36) hC dX0_leaveOut_9 fd_X0_9 rfl rfl rfl ?_
        refine w_il2 hC dX0_leaveOut_12 ?_
        refine w_al0 hC dX0_leaveOut_13 ?_
        refine v_getR (off := 1) (j := 36) hC dX0_leaveOut_14 fd_X0_9 rfl rfl rfl ?_
        refine w_il2 hC dX0_leaveOut_17 ?_
        refine w_sn2 hC sn_X0_42 dX0_leaveOut_18 rfl hN (c_at rfl ?_)
        rw [atV_n w2 (show j < 6 by omega)]
        refine w_ic hC dX0_leaveOut_21 rfl ?_
        refine w_il1 hC dX0_leaveOut_22 ?_
        refine v_ishl hC dX0_leaveOut_23 ?_
        rw [bShl_1 (by omega)]
        refine w_ic hC dX0_leaveOut_24 rfl ?_
        refine v_ixor hC dX0_leaveOut_25 ?_
        refine v_iand hC dX0_leaveOut_26 ?_
        refine w_sn3 hC sn_X0_34 dX0_leaveOut_27 rfl hN (c_set rfl ?_)
        rw [stV_n w2 (show j < 6 by omega)]
        refine w_inc2 hC dX0_leaveOut_30 hN (by first | rfl | assumption) (ri_mk (by omega) (by omega)) ?_
        refine v_goto (tgt := 2) hC dX0_leaveOut_33 rfl ?_
        exact ih2 _ (j + 1) (by omega) (by omega) (lt_s (fun i hi hi2 => by rw [up_pl _ _ (by omega)]; exact g1 i hi hi2) (fun hi2 => by rw [up_same, g3 j (Nat.le_refl j), hF j hi2, bAnd_not (by have := ms_small (F := F) (j := j) hn; omega), ms_leave])) (fun i hi => by rw [up_pl _ _ (by omega)]; exact g3 i (by omega)) (fun i q hi => by rw [up_id _ _ hi]; exact g2 i q hi)
  exact lp2 7 w 0 (by omega) (by omega) (fun i h => by omega) (fun _ _ => rfl) (fun i k h => rfl)

theorem or_gt {u k : Nat} (h : u.testBit k = false) : u < u ||| 2 ^ k := by
  have h1 : u ≤ u ||| 2 ^ k := Nat.left_le_or
  rcases Nat.lt_or_ge u (u ||| 2 ^ k) with q | q
  · exact q
  · exfalso
    have e : u = u ||| 2 ^ k := by omega
    have h2 : (u ||| 2 ^ k).testBit k = true := by rw [bit_or, decide_eq_true rfl, Bool.or_true]
    rw [← e, h] at h2
    exact absurd h2 (by decide)
theorem ite_t {p : Prop} [Decidable p] {x y : Int} (h : p) : x = (if p then x else y) := (if_pos h).symm
theorem ite_f {p : Prop} [Decidable p] {x y : Int} (h : ¬ p) : y = (if p then x else y) := (if_neg h).symm
theorem op_1 {F : Nat → Nat → Bool} {n m u : Nat} (h : pcN u < m) : ((andN (msN F n (pcN u)) u : Nat) : Int) = ((opN F n m u : Nat) : Int) := by unfold opN; rw [if_pos h]
theorem op_0 {F : Nat → Nat → Bool} {n m u : Nat} (h : ¬ pcN u < m) : (0 : Int) = ((opN F n m u : Nat) : Int) := by unfold opN; rw [if_neg h]; rfl
theorem opW_t {F : Nat → Nat → Bool} {n m u k : Nat} (h : (opN F n m u).testBit k = true) : opW F n m u k = bsW F n m (u ||| 2 ^ k) := if_pos h
theorem opW_f {F : Nat → Nat → Bool} {n m u k : Nat} (h : (opN F n m u).testBit k = false) : opW F n m u k = 0 := if_neg (fun z => by rw [h] at z; exact absurd z (by decide))
theorem sum0_s {f : Nat → Int} {s s0 v : Int} {j : Nat} (hs : s = s0 + sumN f j) (hf : f j = v) : s + v = s0 + sumN f (j + 1) := by
  rw [hs, ← hf]
  show _ = s0 + (sumN f j + f j)
  omega
theorem sum0_z {f : Nat → Int} {s s0 : Int} {j : Nat} (hs : s = s0 + sumN f j) (hf : f j = 0) : s = s0 + sumN f (j + 1) := by
  rw [← sum0_s hs hf]
  omega

theorem c_countWays {d : Nat} {w : Wd} {Q : Option MV → Wd → Prop} {a : Nat → Int} {n m : Nat} (hv : VX w 1 a) (hA : AOK a) (h3 : a 3 = n) (h1 : a 1 = m) {F : Nat → Nat → Bool} (hF : FT w n m F) (hQ : ∀ w2, smO w w2 (fun i => i ≠ 37) → Q (some (.inl (wyN F n m m 0))) w2) : Call (d + 1) mX0_countWays [vR 35, vR 1] w Q := by
  have hb := vb1
  have am := hA.m
  have an := hA.n
  rw [h3] at an
  rw [h1] at am
  have h256 := n2_le (n := n) (by omega)
  have x1 : w 1 1 = m := by rw [hv.1.2.1, h1]
  have x3 : w 1 3 = n := by rw [hv.1.2.2.2.1, h3]
  refine call_in (ls := [some (vR 35), some (vR 1), none, none, none, none, none]) (by decide +kernel) rfl (Nat.le_of_ble_eq_true rfl) (fun κ hC hR hN => ?_)
  have hC : ctxB κ RX0 cX0_countWays (d + 1) := hC
  have hN : mlx κ 7 := hN
  refine w_ic hC dX0_countWays_0 rfl ?_
  refine w_al1 hC dX0_countWays_1 ?_
  refine v_getI hC dX0_countWays_2 fd_X0_27 rfl rfl ?_
  rw [x3]
  refine v_ishl hC dX0_countWays_5 ?_
  rw [bShl_1 (by omega)]
  have hp2 : 0 < 2 ^ n := Nat.pow_pos (by decide)
  refine w_ic hC dX0_countWays_6 rfl ?_
  refine w_isub hC dX0_countWays_7 (ri_mk (by omega) (by omega)) ?_
  refine w_is2 hC dX0_countWays_8 hN (by first | rfl | assumption) ?_
  refine w_dr3 ?_
  refine w_dr4 ?_
  refine w_dr5 ?_
  refine w_dr6 ?_
  have lp9 : ∀ (K : Nat) (w2 : Wd) (t : Nat), t < K → (t ≤ 2 ^ n) → (∀ q, t ≤ q → q < 2 ^ n → w2 37 q = bsW F n m q) → (smO w w2 (fun i => i ≠ 37)) → VV κ 9 [some (vR 35), some (vR 1), some (vI ((t : Int) - 1)), none, none, none, none] [] w2 := by
    intro K
    induction K with
    | zero => intros; omega
    | succ K ih9 =>
      intro w2 t hm9 ht g1 g2
      have hv2 : VX w2 1 a := hv.fr (fun i k p q => g2 i k (show i ≠ 37 by omega))
      have y1 : w2 1 1 = m := by rw [g2 1 1 (by decide), x1]
      have y3 : w2 1 3 = n := by rw [g2 1 3 (by decide), x3]
      refine w_il2 hC dX0_countWays_9 ?_
      refine v_if_lt (tgt := 126) hC dX0_countWays_10 rfl (fun h10 => ?_) (fun h10 => ?_)
      · refine w_al0 hC dX0_countWays_126 ?_
        refine v_getR (off := 2) (j := 37) hC dX0_countWays_127 fd_X0_15 rfl rfl rfl ?_
        refine w_ic hC dX0_countWays_130 rfl ?_
        refine w_sn2 hC sn_X0_42 dX0_countWays_131 rfl hN (c_at rfl ?_)
        rw [show atV w2 37 0 = w2 37 0 from atV_n (i := 0) w2 (by decide), g1 0 (by omega) (by omega)]
        rw [show bsW F n m 0 = wyN F n m m 0 from if_pos (Nat.zero_le m)]
        refine v_iret hC hR dX0_countWays_134 ?_
        exact hQ w2 g2
      · obtain ⟨u, rfl⟩ : ∃ u, t = u + 1 := ⟨t - 1, by omega⟩
        rw [show (((u + 1 : Nat)) : Int) - 1 = (u : Int) by omega]
        refine w_il2 hC dX0_countWays_13 ?_
        refine w_st1 hC st_X0_46 dX0_countWays_14 rfl hN (c_bitCount (by omega) ?_)
        have hpl := pcN_le u
        refine w_is3 hC dX0_countWays_17 hN (by first | rfl | assumption) ?_
        have tl57 : ∀ (s0 op : Int), (s0 = (if pcN u = m then 1 else 0)) → (op = ((opN F n m u : Nat) : Int)) → VV κ 57 [some (vR 35), some (vR 1), some (vI (u : Int)), some (vI ((pcN u : Nat) : Int)), some (vI s0), none, none] [vI op] w2 := by
          intro s0 op hs0 hop
          have hol := opN_lt F n m u
          have hs01 : 0 ≤ s0 ∧ s0 ≤ 1 := by rw [hs0]; split <;> omega
          rw [hop]
          refine w_is5 hC dX0_countWays_57 hN (by first | rfl | assumption) ?_
          refine w_ic hC dX0_countWays_59 rfl ?_
          refine w_is6 hC dX0_countWays_60 hN (by first | rfl | assumption) ?_
          have lp62 : ∀ (K2 : Nat) (s : Int) (k : Nat), (n - k) < K2 → (k ≤ n) → (s = s0 + sumN (opW F n m u) k) → VV κ 62 [some (vR 35), some (vR 1), some (vI (u : Int)), some (vI ((pcN u : Nat) : Int)), some (vI s), some (vI ((opN F n m u : Nat) : Int)), some (vI (k : Int))] [] w2 := by
            intro K2
            induction K2 with
            | zero => intros; omega
            | succ K2 ih62 =>
              intro s k hm62 hk hs
              have hsr := sumN_r (f := opW F n m u) (c := 262144) k (fun i hi => by
                have := bsW_r (F := F) (n := n) (m := m) (by omega) (by omega) (u ||| 2 ^ i)
                unfold opW
                split <;> omega)
              refine w_il6 hC dX0_countWays_62 ?_
              refine w_al1 hC dX0_countWays_64 ?_
              refine v_getI hC dX0_countWays_65 fd_X0_27 rfl rfl ?_
              rw [y3]
              refine v_ic_ge (tgt := 110) hC dX0_countWays_68 rfl (fun h68 => ?_) (fun h68 => ?_)
              · have hs9 : s = bsW F n m u := by
                  rw [← bsW_step (by omega) (show u < 2 ^ n by omega), ← hs0, hs]
                  congr 1
                  symm
                  refine sumN_stop hk (fun i h1 h2 => opW_f ?_)
                  first
                  | (exfalso; omega)
                  | (rw [show opN F n m u = 0 by omega]; exact Nat.zero_testBit i)
                refine w_al0 hC dX0_countWays_110 ?_
                refine v_getR (off := 2) (j := 37) hC dX0_countWays_111 fd_X0_15 rfl rfl rfl ?_
                refine w_il2 hC dX0_countWays_114 ?_
                refine w_il4 hC dX0_countWays_115 ?_
                refine w_sn3 hC sn_X0_34 dX0_countWays_117 rfl hN (c_set rfl ?_)
                rw [stV_n w2 (show u < 256 by omega)]
                refine w_inc2 hC dX0_countWays_120 hN (by first | rfl | assumption) (ri_mk (by omega) (by omega)) ?_
                rw [show (u : Int) + -1 = (u : Int) - 1 by omega]
                refine v_goto (tgt := 9) hC dX0_countWays_123 rfl ?_
                refine w_dr3 ?_
                refine w_dr4 ?_
                refine w_dr5 ?_
                refine w_dr6 ?_
                exact ih9 _ u (by omega) (by omega) (fun q h1 h2 => by
                  by_cases z : q = u
                  · subst z; rw [up_same]; exact hs9
                  · rw [up_pl _ _ z]; exact g1 q (by omega) h2) (fun i q hi => by rw [up_id _ _ hi]; exact g2 i q hi)
              · refine w_il5 hC dX0_countWays_71 ?_
                refine v_if_eq (tgt := 110) hC dX0_countWays_73 rfl (fun h73 => ?_) (fun h73 => ?_)
                · have hs9 : s = bsW F n m u := by
                    rw [← bsW_step (by omega) (show u < 2 ^ n by omega), ← hs0, hs]
                    congr 1
                    symm
                    refine sumN_stop hk (fun i h1 h2 => opW_f ?_)
                    first
                    | (exfalso; omega)
                    | (rw [show opN F n m u = 0 by omega]; exact Nat.zero_testBit i)
                  refine w_al0 hC dX0_countWays_110 ?_
                  refine v_getR (off := 2) (j := 37) hC dX0_countWays_111 fd_X0_15 rfl rfl rfl ?_
                  refine w_il2 hC dX0_countWays_114 ?_
                  refine w_il4 hC dX0_countWays_115 ?_
                  refine w_sn3 hC sn_X0_34 dX0_countWays_117 rfl hN (c_set rfl ?_)
                  rw [stV_n w2 (show u < 256 by omega)]
                  refine w_inc2 hC dX0_countWays_120 hN (by first | rfl | assumption) (ri_mk (by omega) (by omega)) ?_
                  rw [show (u : Int) + -1 = (u : Int) - 1 by omega]
                  refine v_goto (tgt := 9) hC dX0_countWays_123 rfl ?_
                  refine w_dr3 ?_
                  refine w_dr4 ?_
                  refine w_dr5 ?_
                  refine w_dr6 ?_
                  exact ih9 _ u (by omega) (by omega) (fun q h1 h2 => by
                    by_cases z : q = u
                    · subst z; rw [up_same]; exact hs9
                    · rw [up_pl _ _ z]; exact g1 q (by omega) h2) (fun i q hi => by rw [up_id _ _ hi]; exact g2 i q hi)
                · refine w_il5 hC dX0_countWays_76 ?_
                  refine w_il6 hC dX0_countWays_78 ?_
                  refine w_sn2 hC sn_X0_51 dX0_countWays_80 rfl hN (c_hasBit (by omega) (by omega) (fun g5 => ?_) (fun g5 => ?_))
                  · refine v_if_eq (tgt := 104) hC dX0_countWays_83 rfl (fun h => absurd h (by decide)) (fun _ => ?_)
                    refine w_il4 hC dX0_countWays_86 ?_
                    refine w_al0 hC dX0_countWays_88 ?_
                    refine v_getR (off := 2) (j := 37) hC dX0_countWays_89 fd_X0_15 rfl rfl rfl ?_
                    refine w_il2 hC dX0_countWays_92 ?_
                    refine w_ic hC dX0_countWays_93 rfl ?_
                    refine w_il6 hC dX0_countWays_94 ?_
                    refine v_ishl hC dX0_countWays_96 ?_
                    rw [bShl_1 (by omega)]
                    refine v_ior hC dX0_countWays_97 ?_
                    rw [bOr_n (by omega) (by have := two_lt (show k < n by omega); omega)]
                    have hob := or2_lt (v := u) (k := k) (n := n) (by omega) (by omega)
                    have hog := or_gt ((opN_bit F n m u k).mp g5).2.2.2
                    refine w_sn2 hC sn_X0_42 dX0_countWays_98 rfl hN (c_at rfl ?_)
                    rw [atV_n w2 (show u ||| 2 ^ k < 256 by omega), g1 _ (by omega) hob]
                    have hbr := bsW_r (F := F) (n := n) (m := m) (by omega) (by omega) (u ||| 2 ^ k)
                    refine w_iadd hC dX0_countWays_101 (ri_mk (by omega) (by omega)) ?_
                    refine w_is4 hC dX0_countWays_102 hN (by first | rfl | assumption) ?_
                    refine w_inc6 hC dX0_countWays_104 hN (by first | rfl | assumption) (ri_mk (by omega) (by omega)) ?_
                    refine v_goto (tgt := 62) hC dX0_countWays_107 rfl ?_
                    first | exact ih62 _ (k + 1) (by omega) (by omega) (sum0_s hs (opW_t g5)) | exact ih62 _ (k + 1) (by omega) (by omega) (sum0_z hs (opW_f g5))
                  · refine v_if_eq (tgt := 104) hC dX0_countWays_83 rfl (fun _ => ?_) (fun h => absurd h (by decide))
                    refine w_inc6 hC dX0_countWays_104 hN (by first | rfl | assumption) (ri_mk (by omega) (by omega)) ?_
                    refine v_goto (tgt := 62) hC dX0_countWays_107 rfl ?_
                    first | exact ih62 _ (k + 1) (by omega) (by omega) (sum0_s hs (opW_t g5)) | exact ih62 _ (k + 1) (by omega) (by omega) (sum0_z hs (opW_f g5))
          exact lp62 (n + 1) s0 0 (by omega) (by omega) (by show s0 = s0 + 0; omega)
        refine w_il3 hC dX0_countWays_18 ?_
        refine w_al1 hC dX0_countWays_19 ?_
        refine v_getI hC dX0_countWays_20 fd_X0_21 rfl rfl ?_
        rw [y1]
        refine v_ic_ne (tgt := 30) hC dX0_countWays_23 rfl (fun h23 => ?_) (fun h23 => ?_)
        · refine w_ic hC dX0_countWays_30 rfl ?_
          refine w_is4 hC dX0_countWays_31 hN (by first | rfl | assumption) ?_
          refine w_il3 hC dX0_countWays_33 ?_
          refine w_al1 hC dX0_countWays_34 ?_
          refine v_getI hC dX0_countWays_35 fd_X0_21 rfl rfl ?_
          rw [y1]
          refine v_ic_ge (tgt := 56) hC dX0_countWays_38 rfl (fun h38 => ?_) (fun h38 => ?_)
          · refine w_ic hC dX0_countWays_56 rfl ?_
            first | (exfalso; omega) | exact tl57 _ _ (ite_t (by omega)) (op_0 (by omega)) | exact tl57 _ _ (ite_f (by omega)) (op_0 (by omega)) | exact tl57 _ _ (ite_f (by omega)) (op_1 (by omega))
          · refine w_al0 hC dX0_countWays_41 ?_
            refine v_getR (off := 1) (j := 36) hC dX0_countWays_42 fd_X0_9 rfl rfl rfl ?_
            refine w_il3 hC dX0_countWays_45 ?_
            refine w_sn2 hC sn_X0_42 dX0_countWays_46 rfl hN (c_at rfl ?_)
            rw [atV_n w2 (show pcN u < 6 by omega), g2 36 _ (by decide), hF _ (by omega)]
            refine w_il2 hC dX0_countWays_49 ?_
            refine w_ic hC dX0_countWays_50 rfl ?_
            refine v_ixor hC dX0_countWays_51 ?_
            refine v_iand hC dX0_countWays_52 ?_
            rw [bAnd_not (by have := ms_small (F := F) (n := n) (j := pcN u) (by omega); omega)]
            refine v_goto (tgt := 57) hC dX0_countWays_53 rfl ?_
            first | (exfalso; omega) | exact tl57 _ _ (ite_t (by omega)) (op_0 (by omega)) | exact tl57 _ _ (ite_f (by omega)) (op_0 (by omega)) | exact tl57 _ _ (ite_f (by omega)) (op_1 (by omega))
        · refine w_ic hC dX0_countWays_26 rfl ?_
          refine v_goto (tgt := 31) hC dX0_countWays_27 rfl ?_
          refine w_is4 hC dX0_countWays_31 hN (by first | rfl | assumption) ?_
          refine w_il3 hC dX0_countWays_33 ?_
          refine w_al1 hC dX0_countWays_34 ?_
          refine v_getI hC dX0_countWays_35 fd_X0_21 rfl rfl ?_
          rw [y1]
          refine v_ic_ge (tgt := 56) hC dX0_countWays_38 rfl (fun h38 => ?_) (fun h38 => ?_)
          · refine w_ic hC dX0_countWays_56 rfl ?_
            first | (exfalso; omega) | exact tl57 _ _ (ite_t (by omega)) (op_0 (by omega)) | exact tl57 _ _ (ite_f (by omega)) (op_0 (by omega)) | exact tl57 _ _ (ite_f (by omega)) (op_1 (by omega))
          · refine w_al0 hC dX0_countWays_41 ?_
            refine v_getR (off := 1) (j := 36) hC dX0_countWays_42 fd_X0_9 rfl rfl rfl ?_
            refine w_il3 hC dX0_countWays_45 ?_
            refine w_sn2 hC sn_X0_42 dX0_countWays_46 rfl hN (c_at rfl ?_)
            rw [atV_n w2 (show pcN u < 6 by omega), g2 36 _ (by decide), hF _ (by omega)]
            refine w_il2 hC dX0_countWays_49 ?_
            refine w_ic hC dX0_countWays_50 rfl ?_
            refine v_ixor hC dX0_countWays_51 ?_
            refine v_iand hC dX0_countWays_52 ?_
            rw [bAnd_not (by have := ms_small (F := F) (n := n) (j := pcN u) (by omega); omega)]
            refine v_goto (tgt := 57) hC dX0_countWays_53 rfl ?_
            first | (exfalso; omega) | exact tl57 _ _ (ite_t (by omega)) (op_0 (by omega)) | exact tl57 _ _ (ite_f (by omega)) (op_0 (by omega)) | exact tl57 _ _ (ite_f (by omega)) (op_1 (by omega))
  exact lp9 (2 ^ n + 1) w (2 ^ n) (by omega) (by omega) (fun q h1 h2 => by omega) (fun i k h => rfl)
