def spF (w w2 : Wd) : Prop := ∀ i k : Nat, (i < 35 ∨ 38 < i) → w2 i k = w i k
def wyA (a : Nat → Int) (F : Nat → Nat → Bool) : Int := wyN F (a 3).toNat (a 1).toNat (a 1).toNat 0
theorem spF36 {w w2 w3 : Wd} {j : Nat} (hj : 35 ≤ j ∧ j ≤ 38) (h : spF w w2) (h2 : smO w2 w3 (fun i => i ≠ j)) : spF w w3 := fun i k hi => by rw [h2 i k (show i ≠ j by omega)]; exact h i k hi
theorem spF0 (w : Wd) : spF w w := fun _ _ _ => rfl
theorem VX.sp {w w2 : Wd} {a : Nat → Int} (h : VX w 1 a) (e : spF w w2) : VX w2 1 a := h.fr (fun i k p q => e i k (by omega))

theorem c_ways {d : Nat} {w : Wd} {Q : Option MV → Wd → Prop} {a : Nat → Int} (hv : VX w 1 a) (hA : AOK a) (hQ : ∀ w2, spF w w2 → Q (some (.inl (wyA a (fitF a (a 0))))) w2) : Call (d + 4) mX3_ways [vR 0] w Q := by
  have hb : vb 1 := Or.inl rfl
  have hv0 := hv
  obtain ⟨⟨x0, x1, x2, x3, x4, x5, x6⟩, xw, xl, xn, xm, xu⟩ := hv
  have am := hA.m
  have an := hA.n
  have af := hA.f
  have anc := hA.nc
  have amc := hA.mc
  have auc := hA.uc
  obtain ⟨n, h3⟩ := Int.eq_ofNat_of_zero_le an.1
  obtain ⟨m, h1⟩ := Int.eq_ofNat_of_zero_le (show 0 ≤ a 1 by omega)
  have e3 : (a 3).toNat = n := by omega
  have e1 : (a 1).toNat = m := by omega
  refine call_in (ls := [some (vR 0)]) (by decide +kernel) rfl (Nat.le_of_ble_eq_true rfl) (fun κ hC hR hN => ?_)
  have hC : ctxB κ RX3 cX3_ways (d + 4) := hC
  have hN : mlx κ 1 := hN
  refine w_al0 hC dX3_ways_0 ?_
  refine v_getR (off := 35) (j := 35) hC dX3_ways_1 fd_X3_35 rfl rfl rfl ?_
  refine w_al0 hC dX3_ways_4 ?_
  refine v_getR (off := 1) (j := 1) hC dX3_ways_5 fd_X3_10 rfl rfl rfl ?_
  refine w_al0 hC dX3_ways_8 ?_
  refine v_getR (off := 1) (j := 1) hC dX3_ways_9 fd_X3_10 rfl rfl rfl ?_
  refine v_getI hC dX3_ways_12 fd_X3_70 rfl rfl ?_
  rw [x0]
  refine w_vi2 hC vi_X3_161 rfl dX3_ways_15 rfl hN (c_findFitting hv0 hA h3 h1 (fun w2 f2 o2 => ?_))
  have s2 := spF36 (j := 36) (by decide) (spF0 w) o2
  have v2 := hv0.sp s2
  refine w_al0 hC dX3_ways_18 ?_
  refine v_getR (off := 35) (j := 35) hC dX3_ways_19 fd_X3_35 rfl rfl rfl ?_
  refine w_al0 hC dX3_ways_22 ?_
  refine v_getR (off := 1) (j := 1) hC dX3_ways_23 fd_X3_10 rfl rfl rfl ?_
  refine w_vi1 hC vi_X3_165 rfl dX3_ways_26 rfl hN (c_countWays v2 hA h3 h1 f2 (fun w3 o3 => ?_))
  have s3 := spF36 (j := 37) (by decide) s2 o3
  refine v_iret hC hR dX3_ways_29 ?_
  unfold wyA at hQ
  rw [e3, e1] at hQ
  exact hQ _ s3

theorem c_first {d : Nat} {w : Wd} {Q : Option MV → Wd → Prop} {a : Nat → Int} (hv : VX w 1 a) (hA : AOK a) {j : Int} (hb0 : ¬ (0 ≤ j ∧ j < a 1) → Q (some (.inl (-2))) (cI w 0 10)) (hk0 : 0 ≤ j ∧ j < a 1 → wyA a (fitF a (a 0)) = 0 → ∀ w2, spF w w2 → Q (some (.inl (-1))) w2) (hk1 : 0 ≤ j ∧ j < a 1 → 0 < wyA a (fitF a (a 0)) → ∀ w2, spF w w2 → Q (some (.inl (nxL (fitF a (a 0)) (coF a 0) (a 3).toNat (a 1).toNat (uSL (fitF a (a 0)) (coF a 0) (a 3).toNat (a 1).toNat j.toNat)))) w2) : Call (d + 6) mX3_first [vR 0, vI j] w Q := by
  have hb : vb 1 := Or.inl rfl
  have hv0 := hv
  obtain ⟨⟨x0, x1, x2, x3, x4, x5, x6⟩, xw, xl, xn, xm, xu⟩ := hv
  have am := hA.m
  have an := hA.n
  have af := hA.f
  have anc := hA.nc
  have amc := hA.mc
  have auc := hA.uc
  obtain ⟨n, h3⟩ := Int.eq_ofNat_of_zero_le an.1
  obtain ⟨m, h1⟩ := Int.eq_ofNat_of_zero_le (show 0 ≤ a 1 by omega)
  have e3 : (a 3).toNat = n := by omega
  have e1 : (a 1).toNat = m := by omega
  refine call_in (ls := [some (vR 0), some (vI j)]) (by decide +kernel) rfl (Nat.le_of_ble_eq_true rfl) (fun κ hC hR hN => ?_)
  have hC : ctxB κ RX3 cX3_first (d + 6) := hC
  have hN : mlx κ 2 := hN
  refine w_al0 hC dX3_first_0 ?_
  refine v_getR (off := 1) (j := 1) hC dX3_first_1 fd_X3_10 rfl rfl rfl ?_
  refine w_il1 hC dX3_first_4 ?_
  refine w_vi1 hC vi_X3_106 rfl dX3_first_5 rfl hN (c_hasLine hb hv0 hA (fun g1 => ?_) (fun g1 => ?_))
  · refine v_if_ne (tgt := 18) hC dX3_first_8 rfl (fun _ => ?_) (fun h => absurd h (by decide))
    refine w_al0 hC dX3_first_18 ?_
    refine v_getR (off := 35) (j := 35) hC dX3_first_19 fd_X3_35 rfl rfl rfl ?_
    refine w_al0 hC dX3_first_22 ?_
    refine v_getR (off := 1) (j := 1) hC dX3_first_23 fd_X3_10 rfl rfl rfl ?_
    refine w_al0 hC dX3_first_26 ?_
    refine v_getR (off := 1) (j := 1) hC dX3_first_27 fd_X3_10 rfl rfl rfl ?_
    refine v_getI hC dX3_first_30 fd_X3_70 rfl rfl ?_
    rw [x0]
    refine w_vi2 hC vi_X3_161 rfl dX3_first_33 rfl hN (c_findFitting hv0 hA h3 h1 (fun w2 f2 o2 => ?_))
    have s2 := spF36 (j := 36) (by decide) (spF0 w) o2
    have v2 := hv0.sp s2
    refine w_al0 hC dX3_first_36 ?_
    refine v_getR (off := 35) (j := 35) hC dX3_first_37 fd_X3_35 rfl rfl rfl ?_
    refine w_al0 hC dX3_first_40 ?_
    refine v_getR (off := 1) (j := 1) hC dX3_first_41 fd_X3_10 rfl rfl rfl ?_
    refine w_ic hC dX3_first_44 rfl ?_
    refine w_vi2 hC vi_X3_169 rfl dX3_first_45 rfl hN (c_leastCost v2 hA h3 h1 f2 (fun w3 b3 o3 => ?_))
    have s3 := spF36 (j := 37) (by decide) s2 o3
    have v3 := hv0.sp s3
    have f3 : FT w3 n m (fitF a (a 0)) := fun i hi => by rw [o3 36 i (by decide)]; exact f2 i hi
    have hll := ls_cm (F := fitF a (a 0)) (C := coF a 0) (n := n) (m := m) (by omega) (by omega) (fun k j p q => coF_r hA h3 h1 0 p q) m 0 (Nat.le_refl m)
    unfold wyA at hk0 hk1
    rw [e3, e1] at hk0 hk1
    obtain ⟨jn, rfl⟩ := Int.eq_ofNat_of_zero_le g1.1
    refine v_bipush hC dX3_first_48 (by decide) ?_
    refine v_ic_ne (tgt := 57) hC dX3_first_50 rfl (fun h50 => ?_) (fun h50 => ?_)
    · refine w_al0 hC dX3_first_57 ?_
      refine v_getR (off := 35) (j := 35) hC dX3_first_58 fd_X3_35 rfl rfl rfl ?_
      refine w_al0 hC dX3_first_61 ?_
      refine v_getR (off := 1) (j := 1) hC dX3_first_62 fd_X3_10 rfl rfl rfl ?_
      refine w_ic hC dX3_first_65 rfl ?_
      refine w_il1 hC dX3_first_66 ?_
      rcases hll with ⟨l1, l2, l3⟩ | ⟨l1, l2, l3⟩
      · exfalso
        rw [if_pos (by omega)] at h50
        omega
      refine w_vi3 hC vi_X3_173 rfl dX3_first_67 rfl hN (c_wordOfLeast v3 hA h3 h1 f3 b3 l1 (show jn < m by omega) ?_)
      refine v_iret hC hR dX3_first_70 ?_
      first | exact hk0 g1 l1 _ s3 | exact hk1 g1 l1 _ s3
    · have l1 := (hll.resolve_right (fun z => by rw [if_neg (by omega)] at h50; omega)).1
      refine w_ic hC dX3_first_53 rfl ?_
      refine v_goto (tgt := 70) hC dX3_first_54 rfl ?_
      refine v_iret hC hR dX3_first_70 ?_
      first | exact hk0 g1 l1 _ s3 | exact hk1 g1 l1 _ s3
  · refine v_if_ne (tgt := 18) hC dX3_first_8 rfl (fun h => absurd h (by decide)) (fun _ => ?_)
    refine w_al0 hC dX3_first_11 ?_
    refine v_bipush hC dX3_first_12 (by decide) ?_
    refine w_vi1 hC vi_X3_58 rfl dX3_first_14 rfl hN (c_refBad ?_)
    refine v_iret hC hR dX3_first_17 ?_
    exact hb0 g1

theorem c_cheap {d : Nat} {w : Wd} {Q : Option MV → Wd → Prop} {a : Nat → Int} (hv : VX w 1 a) (hA : AOK a) {j : Int} (hb0 : j ≠ -1 ∧ ¬ (0 ≤ j ∧ j < a 1) → Q (some (.inl (-10))) (cI w 0 10)) (hk0 : ¬ (j ≠ -1 ∧ ¬ (0 ≤ j ∧ j < a 1)) → wyA a (fitF a (a 0)) = 0 → ∀ w2, spF w w2 → Q (some (.inl (-6))) w2) (hk1 : j = -1 → 0 < wyA a (fitF a (a 0)) → ∀ w2, spF w w2 → Q (some (.inl (cmN (fitF a (a 0)) (coF a 1) (a 3).toNat (a 1).toNat (a 1).toNat 0))) w2) (hk2 : 0 ≤ j ∧ j < a 1 → 0 < wyA a (fitF a (a 0)) → ∀ w2, spF w w2 → Q (some (.inl (nxL (fitF a (a 0)) (coF a 1) (a 3).toNat (a 1).toNat (uSL (fitF a (a 0)) (coF a 1) (a 3).toNat (a 1).toNat j.toNat)))) w2) : Call (d + 6) mX3_cheap [vR 0, vI j] w Q := by
  have hb : vb 1 := Or.inl rfl
  have hv0 := hv
  obtain ⟨⟨x0, x1, x2, x3, x4, x5, x6⟩, xw, xl, xn, xm, xu⟩ := hv
  have am := hA.m
  have an := hA.n
  have af := hA.f
  have anc := hA.nc
  have amc := hA.mc
  have auc := hA.uc
  obtain ⟨n, h3⟩ := Int.eq_ofNat_of_zero_le an.1
  obtain ⟨m, h1⟩ := Int.eq_ofNat_of_zero_le (show 0 ≤ a 1 by omega)
  have e3 : (a 3).toNat = n := by omega
  have e1 : (a 1).toNat = m := by omega
  refine call_in (ls := [some (vR 0), some (vI j), none]) (by decide +kernel) rfl (Nat.le_of_ble_eq_true rfl) (fun κ hC hR hN => ?_)
  have hC : ctxB κ RX3 cX3_cheap (d + 6) := hC
  have hN : mlx κ 3 := hN
  have tl : (¬ (j ≠ -1 ∧ ¬ (0 ≤ j ∧ j < a 1))) → VV κ 26 [some (vR 0), some (vI j), none] [] w := by
    intro  hnb
    refine w_al0 hC dX3_cheap_26 ?_
    refine v_getR (off := 35) (j := 35) hC dX3_cheap_27 fd_X3_35 rfl rfl rfl ?_
    refine w_al0 hC dX3_cheap_30 ?_
    refine v_getR (off := 1) (j := 1) hC dX3_cheap_31 fd_X3_10 rfl rfl rfl ?_
    refine w_al0 hC dX3_cheap_34 ?_
    refine v_getR (off := 1) (j := 1) hC dX3_cheap_35 fd_X3_10 rfl rfl rfl ?_
    refine v_getI hC dX3_cheap_38 fd_X3_70 rfl rfl ?_
    rw [x0]
    refine w_vi2 hC vi_X3_161 rfl dX3_cheap_41 rfl hN (c_findFitting hv0 hA h3 h1 (fun w2 f2 o2 => ?_))
    have s2 := spF36 (j := 36) (by decide) (spF0 w) o2
    have v2 := hv0.sp s2
    refine w_al0 hC dX3_cheap_44 ?_
    refine v_getR (off := 35) (j := 35) hC dX3_cheap_45 fd_X3_35 rfl rfl rfl ?_
    refine w_al0 hC dX3_cheap_48 ?_
    refine v_getR (off := 1) (j := 1) hC dX3_cheap_49 fd_X3_10 rfl rfl rfl ?_
    refine w_ic hC dX3_cheap_52 rfl ?_
    refine w_vi2 hC vi_X3_169 rfl dX3_cheap_53 rfl hN (c_leastCost v2 hA h3 h1 f2 (fun w3 b3 o3 => ?_))
    have s3 := spF36 (j := 37) (by decide) s2 o3
    have v3 := hv0.sp s3
    have f3 : FT w3 n m (fitF a (a 0)) := fun i hi => by rw [o3 36 i (by decide)]; exact f2 i hi
    have hll := ls_cm (F := fitF a (a 0)) (C := coF a 1) (n := n) (m := m) (by omega) (by omega) (fun k j p q => coF_r hA h3 h1 1 p q) m 0 (Nat.le_refl m)
    unfold wyA at hk0 hk1 hk2
    rw [e3, e1] at hk0 hk1 hk2
    have hcc : (wyN (fitF a (a 0)) n m m 0 = 0 ∧ (if 1000000 ≤ lsN (fitF a (a 0)) (coF a 1) n m m 0 then -6 else lsN (fitF a (a 0)) (coF a 1) n m m 0) = -6) ∨ (0 < wyN (fitF a (a 0)) n m m 0 ∧ (if 1000000 ≤ lsN (fitF a (a 0)) (coF a 1) n m m 0 then -6 else lsN (fitF a (a 0)) (coF a 1) n m m 0) = cmN (fitF a (a 0)) (coF a 1) n m m 0 ∧ 0 ≤ cmN (fitF a (a 0)) (coF a 1) n m m 0) := by
      rcases hll with ⟨l1, l2, l3⟩ | ⟨l1, l2, l3⟩
      · exact Or.inl ⟨l1, if_pos (by omega)⟩
      · exact Or.inr ⟨l1, by rw [if_neg (by omega), l2], l3.1⟩
    generalize (if 1000000 ≤ lsN (fitF a (a 0)) (coF a 1) n m m 0 then -6 else lsN (fitF a (a 0)) (coF a 1) n m m 0) = lst at hcc ⊢
    refine w_is2 hC dX3_cheap_56 hN (by first | rfl | assumption) ?_
    refine w_il2 hC dX3_cheap_57 ?_
    refine v_bipush hC dX3_cheap_58 (by decide) ?_
    refine v_ic_eq (tgt := 68) hC dX3_cheap_60 rfl (fun h60 => ?_) (fun h60 => ?_)
    · refine w_il2 hC dX3_cheap_68 ?_
      refine v_iret hC hR dX3_cheap_69 ?_
      rcases hcc with ⟨l1, l2⟩ | ⟨l1, l2, l3⟩
      · rw [l2]; exact hk0 hnb l1 _ s3
      · rw [l2]; exact hk1 (by omega) l1 _ s3
    · refine w_il1 hC dX3_cheap_63 ?_
      refine w_ic hC dX3_cheap_64 rfl ?_
      refine v_ic_ne (tgt := 70) hC dX3_cheap_65 rfl (fun h65 => ?_) (fun h65 => ?_)
      · refine w_al0 hC dX3_cheap_70 ?_
        refine v_getR (off := 35) (j := 35) hC dX3_cheap_71 fd_X3_35 rfl rfl rfl ?_
        refine w_al0 hC dX3_cheap_74 ?_
        refine v_getR (off := 1) (j := 1) hC dX3_cheap_75 fd_X3_10 rfl rfl rfl ?_
        refine w_ic hC dX3_cheap_78 rfl ?_
        refine w_il1 hC dX3_cheap_79 ?_
        have l1 : 0 < wyN (fitF a (a 0)) n m m 0 := (hcc.resolve_left (fun z => by omega)).1
        obtain ⟨jn, rfl⟩ := Int.eq_ofNat_of_zero_le (show 0 ≤ j by omega)
        refine w_vi3 hC vi_X3_173 rfl dX3_cheap_80 rfl hN (c_wordOfLeast v3 hA h3 h1 f3 b3 l1 (show jn < m by omega) ?_)
        refine v_iret hC hR dX3_cheap_83 ?_
        exact hk2 (by omega) l1 _ s3
      · refine w_il2 hC dX3_cheap_68 ?_
        refine v_iret hC hR dX3_cheap_69 ?_
        rcases hcc with ⟨l1, l2⟩ | ⟨l1, l2, l3⟩
        · rw [l2]; exact hk0 hnb l1 _ s3
        · rw [l2]; exact hk1 (by omega) l1 _ s3
  refine w_il1 hC dX3_cheap_0 ?_
  refine w_ic hC dX3_cheap_1 rfl ?_
  refine v_ic_eq (tgt := 26) hC dX3_cheap_2 rfl (fun h2 => ?_) (fun h2 => ?_)
  · exact tl (by omega)
  · refine w_al0 hC dX3_cheap_5 ?_
    refine v_getR (off := 1) (j := 1) hC dX3_cheap_6 fd_X3_10 rfl rfl rfl ?_
    refine w_il1 hC dX3_cheap_9 ?_
    refine w_vi1 hC vi_X3_106 rfl dX3_cheap_10 rfl hN (c_hasLine hb hv0 hA (fun g1 => ?_) (fun g1 => ?_))
    · refine v_if_ne (tgt := 26) hC dX3_cheap_13 rfl (fun _ => ?_) (fun h => absurd h (by decide))
      exact tl (by omega)
    · refine v_if_ne (tgt := 26) hC dX3_cheap_13 rfl (fun h => absurd h (by decide)) (fun _ => ?_)
      refine w_al0 hC dX3_cheap_16 ?_
      refine v_bipush hC dX3_cheap_17 (by decide) ?_
      refine w_vi1 hC vi_X3_58 rfl dX3_cheap_19 rfl hN (c_refBad ?_)
      refine v_pop hC dX3_cheap_22 rfl ?_
      refine v_bipush hC dX3_cheap_23 (by decide) ?_
      refine v_iret hC hR dX3_cheap_25 ?_
      exact hb0 ⟨by omega, g1⟩

theorem c_more {d : Nat} {w : Wd} {Q : Option MV → Wd → Prop} {a : Nat → Int} (hv : VX w 1 a) (hA : AOK a) (hQ : ∀ w2, spF w w2 → Q (some (.inl (wyA a (stX (fitF a (a 0)) (fun j => a (28 + j)))))) w2) : Call (d + 4) mX3_more [vR 0] w Q := by
  have hb : vb 1 := Or.inl rfl
  have hv0 := hv
  obtain ⟨⟨x0, x1, x2, x3, x4, x5, x6⟩, xw, xl, xn, xm, xu⟩ := hv
  have am := hA.m
  have an := hA.n
  have af := hA.f
  have anc := hA.nc
  have amc := hA.mc
  have auc := hA.uc
  obtain ⟨n, h3⟩ := Int.eq_ofNat_of_zero_le an.1
  obtain ⟨m, h1⟩ := Int.eq_ofNat_of_zero_le (show 0 ≤ a 1 by omega)
  have e3 : (a 3).toNat = n := by omega
  have e1 : (a 1).toNat = m := by omega
  refine call_in (ls := [some (vR 0)]) (by decide +kernel) rfl (Nat.le_of_ble_eq_true rfl) (fun κ hC hR hN => ?_)
  have hC : ctxB κ RX3 cX3_more (d + 4) := hC
  have hN : mlx κ 1 := hN
  refine w_al0 hC dX3_more_0 ?_
  refine v_getR (off := 35) (j := 35) hC dX3_more_1 fd_X3_35 rfl rfl rfl ?_
  refine w_al0 hC dX3_more_4 ?_
  refine v_getR (off := 1) (j := 1) hC dX3_more_5 fd_X3_10 rfl rfl rfl ?_
  refine w_al0 hC dX3_more_8 ?_
  refine v_getR (off := 1) (j := 1) hC dX3_more_9 fd_X3_10 rfl rfl rfl ?_
  refine v_getI hC dX3_more_12 fd_X3_70 rfl rfl ?_
  rw [x0]
  refine w_vi2 hC vi_X3_161 rfl dX3_more_15 rfl hN (c_findFitting hv0 hA h3 h1 (fun w2 f2 o2 => ?_))
  have s2 := spF36 (j := 36) (by decide) (spF0 w) o2
  have v2 := hv0.sp s2
  refine w_al0 hC dX3_more_18 ?_
  refine v_getR (off := 35) (j := 35) hC dX3_more_19 fd_X3_35 rfl rfl rfl ?_
  refine w_al0 hC dX3_more_22 ?_
  refine v_getR (off := 1) (j := 1) hC dX3_more_23 fd_X3_10 rfl rfl rfl ?_
  refine w_vi1 hC vi_X3_177 rfl dX3_more_26 rfl hN (c_keepStanding v2 hA h3 h1 f2 (fun w3 f3 o3 => ?_))
  have s3 := spF36 (j := 36) (by decide) s2 o3
  have v3 := hv0.sp s3
  refine w_al0 hC dX3_more_29 ?_
  refine v_getR (off := 35) (j := 35) hC dX3_more_30 fd_X3_35 rfl rfl rfl ?_
  refine w_al0 hC dX3_more_33 ?_
  refine v_getR (off := 1) (j := 1) hC dX3_more_34 fd_X3_10 rfl rfl rfl ?_
  refine w_vi1 hC vi_X3_165 rfl dX3_more_37 rfl hN (c_countWays v3 hA h3 h1 f3 (fun w4 o4 => ?_))
  have s4 := spF36 (j := 37) (by decide) s3 o4
  refine v_iret hC hR dX3_more_40 ?_
  unfold wyA at hQ
  rw [e3, e1] at hQ
  exact hQ _ s4

theorem c_held {d : Nat} {w : Wd} {Q : Option MV → Wd → Prop} {a : Nat → Int} (hv : VX w 1 a) (hA : AOK a) (hQ : ∀ w2, spF w w2 → Q (some (.inl (hdN (fitF a (a 0)) (a 3).toNat (a 1).toNat (a 1).toNat 0))) w2) : Call (d + 4) mX3_held [vR 0] w Q := by
  have hb : vb 1 := Or.inl rfl
  have hv0 := hv
  obtain ⟨⟨x0, x1, x2, x3, x4, x5, x6⟩, xw, xl, xn, xm, xu⟩ := hv
  have am := hA.m
  have an := hA.n
  have af := hA.f
  have anc := hA.nc
  have amc := hA.mc
  have auc := hA.uc
  obtain ⟨n, h3⟩ := Int.eq_ofNat_of_zero_le an.1
  obtain ⟨m, h1⟩ := Int.eq_ofNat_of_zero_le (show 0 ≤ a 1 by omega)
  have e3 : (a 3).toNat = n := by omega
  have e1 : (a 1).toNat = m := by omega
  refine call_in (ls := [some (vR 0)]) (by decide +kernel) rfl (Nat.le_of_ble_eq_true rfl) (fun κ hC hR hN => ?_)
  have hC : ctxB κ RX3 cX3_held (d + 4) := hC
  have hN : mlx κ 1 := hN
  refine w_al0 hC dX3_held_0 ?_
  refine v_getR (off := 35) (j := 35) hC dX3_held_1 fd_X3_35 rfl rfl rfl ?_
  refine w_al0 hC dX3_held_4 ?_
  refine v_getR (off := 1) (j := 1) hC dX3_held_5 fd_X3_10 rfl rfl rfl ?_
  refine w_al0 hC dX3_held_8 ?_
  refine v_getR (off := 1) (j := 1) hC dX3_held_9 fd_X3_10 rfl rfl rfl ?_
  refine v_getI hC dX3_held_12 fd_X3_70 rfl rfl ?_
  rw [x0]
  refine w_vi2 hC vi_X3_161 rfl dX3_held_15 rfl hN (c_findFitting hv0 hA h3 h1 (fun w2 f2 o2 => ?_))
  have s2 := spF36 (j := 36) (by decide) (spF0 w) o2
  have v2 := hv0.sp s2
  refine w_al0 hC dX3_held_18 ?_
  refine v_getR (off := 35) (j := 35) hC dX3_held_19 fd_X3_35 rfl rfl rfl ?_
  refine w_al0 hC dX3_held_22 ?_
  refine v_getR (off := 1) (j := 1) hC dX3_held_23 fd_X3_10 rfl rfl rfl ?_
  refine w_vi1 hC vi_X3_183 rfl dX3_held_26 rfl hN (c_mostLines v2 hA h3 h1 f2 (fun w3 o3 => ?_))
  have s3 := spF36 (j := 37) (by decide) s2 o3
  refine v_iret hC hR dX3_held_29 ?_
  rw [e3, e1] at hQ
  exact hQ _ s3

def ndP (a : Nat → Int) (x : Int) (wd : Nat) : Prop := if x = 0 then 0 < wyA a (fitF a (a 0)) ∧ wyA a (lvF (fitF a (a 0)) wd) = 0 else wyA a (lvF (fitF a (a 0)) wd) = wyA a (fitF a (a 0))
theorem nd_1 {a : Nat → Int} {x : Int} {wd : Nat} (h : x = 0) (h1 : 0 < wyA a (fitF a (a 0))) (h2 : wyA a (lvF (fitF a (a 0)) wd) = 0) : ndP a x wd := by unfold ndP; rw [if_pos h]; exact ⟨h1, h2⟩
theorem nd_2 {a : Nat → Int} {x : Int} {wd : Nat} (h : ¬ x = 0) (h2 : wyA a (lvF (fitF a (a 0)) wd) = wyA a (fitF a (a 0))) : ndP a x wd := by unfold ndP; rw [if_neg h]; exact h2
theorem nd_3 {a : Nat → Int} {x : Int} {wd : Nat} (h : x = 0) (h1 : wyA a (fitF a (a 0)) ≤ 0) : ¬ ndP a x wd := by unfold ndP; rw [if_pos h]; exact fun z => by omega
theorem nd_4 {a : Nat → Int} {x : Int} {wd : Nat} (h : x = 0) (h2 : ¬ wyA a (lvF (fitF a (a 0)) wd) = 0) : ¬ ndP a x wd := by unfold ndP; rw [if_pos h]; exact fun z => h2 z.2
theorem nd_5 {a : Nat → Int} {x : Int} {wd : Nat} (h : ¬ x = 0) (h2 : ¬ wyA a (lvF (fitF a (a 0)) wd) = wyA a (fitF a (a 0))) : ¬ ndP a x wd := by unfold ndP; rw [if_neg h]; exact h2

theorem c_needs {d : Nat} {w : Wd} {Q : Option MV → Wd → Prop} {a : Nat → Int} (hv : VX w 1 a) (hA : AOK a) {x : Int} (hb0 : ¬ (0 ≤ x ∧ x ≤ 1) → Q (some (.inl (-2))) (cI w 0 10)) (hk : 0 ≤ x ∧ x ≤ 1 → ∀ w2, spF w w2 → Q (some (.inl ((mkM (ndP a x) (a 3).toNat : Nat) : Int))) w2) : Call (d + 4) mX3_needs [vR 0, vI x] w Q := by
  have hb : vb 1 := Or.inl rfl
  have hv0 := hv
  obtain ⟨⟨x0, x1, x2, x3, x4, x5, x6⟩, xw, xl, xn, xm, xu⟩ := hv
  have am := hA.m
  have an := hA.n
  have af := hA.f
  have anc := hA.nc
  have amc := hA.mc
  have auc := hA.uc
  obtain ⟨n, h3⟩ := Int.eq_ofNat_of_zero_le an.1
  obtain ⟨m, h1⟩ := Int.eq_ofNat_of_zero_le (show 0 ≤ a 1 by omega)
  have e3 : (a 3).toNat = n := by omega
  have e1 : (a 1).toNat = m := by omega
  refine call_in (ls := [some (vR 0), some (vI x), none, none, none, none, none]) (by decide +kernel) rfl (Nat.le_of_ble_eq_true rfl) (fun κ hC hR hN => ?_)
  have hC : ctxB κ RX3 cX3_needs (d + 4) := hC
  have hN : mlx κ 7 := hN
  refine w_il1 hC dX3_needs_0 ?_
  refine w_ic hC dX3_needs_1 rfl ?_
  refine w_ic hC dX3_needs_2 rfl ?_
  refine w_st3 hC st_X3_50 dX3_needs_3 rfl hN (c_within (fun g1 => ?_) (fun g1 => ?_))
  · refine v_if_ne (tgt := 16) hC dX3_needs_6 rfl (fun _ => ?_) (fun h => absurd h (by decide))
    refine w_al0 hC dX3_needs_16 ?_
    refine v_getR (off := 35) (j := 35) hC dX3_needs_17 fd_X3_35 rfl rfl rfl ?_
    refine w_al0 hC dX3_needs_20 ?_
    refine v_getR (off := 1) (j := 1) hC dX3_needs_21 fd_X3_10 rfl rfl rfl ?_
    refine w_al0 hC dX3_needs_24 ?_
    refine v_getR (off := 1) (j := 1) hC dX3_needs_25 fd_X3_10 rfl rfl rfl ?_
    refine v_getI hC dX3_needs_28 fd_X3_70 rfl rfl ?_
    rw [x0]
    refine w_vi2 hC vi_X3_161 rfl dX3_needs_31 rfl hN (c_findFitting hv0 hA h3 h1 (fun w2 f2 o2 => ?_))
    have s2 := spF36 (j := 36) (by decide) (spF0 w) o2
    have v2 := hv0.sp s2
    refine w_al0 hC dX3_needs_34 ?_
    refine v_getR (off := 35) (j := 35) hC dX3_needs_35 fd_X3_35 rfl rfl rfl ?_
    refine w_al0 hC dX3_needs_38 ?_
    refine v_getR (off := 1) (j := 1) hC dX3_needs_39 fd_X3_10 rfl rfl rfl ?_
    refine w_vi1 hC vi_X3_165 rfl dX3_needs_42 rfl hN (c_countWays v2 hA h3 h1 f2 (fun w3 o3 => ?_))
    have s3 := spF36 (j := 37) (by decide) s2 o3
    rw [show wyN (fitF a (a 0)) n m m 0 = wyA a (fitF a (a 0)) by unfold wyA; rw [e3, e1]]
    refine w_is2 hC dX3_needs_45 hN (by first | rfl | assumption) ?_
    refine w_ic hC dX3_needs_46 rfl ?_
    refine w_is3 hC dX3_needs_47 hN (by first | rfl | assumption) ?_
    refine w_ic hC dX3_needs_48 rfl ?_
    refine w_is4 hC dX3_needs_49 hN (by first | rfl | assumption) ?_
    refine w_dr5 ?_
    refine w_dr6 ?_
    have lp51 : ∀ (K : Nat) (w4 : Wd) (k : Nat), (n - k) < K → (k ≤ n) → (spF w w4) → VV κ 51 [some (vR 0), some (vI x), some (vI (wyA a (fitF a (a 0)))), some (vI ((mkM (ndP a x) k : Nat) : Int)), some (vI (k : Int)), none, none] [] w4 := by
      intro K
      induction K with
      | zero => intros; omega
      | succ K ih51 =>
        intro w4 k hm51 hk2 s4
        have v4 := hv0.sp s4
        have y3 : w4 1 3 = n := by rw [s4 1 3 (by decide), x3, h3]
        have y0 : w4 1 0 = a 0 := v4.1.1
        refine w_il4 hC dX3_needs_51 ?_
        refine w_al0 hC dX3_needs_53 ?_
        refine v_getR (off := 1) (j := 1) hC dX3_needs_54 fd_X3_10 rfl rfl rfl ?_
        refine v_getI hC dX3_needs_57 fd_X3_62 rfl rfl ?_
        rw [y3]
        refine v_ic_ge (tgt := 159) hC dX3_needs_60 rfl (fun h60 => ?_) (fun h60 => ?_)
        · refine w_il3 hC dX3_needs_159 ?_
          refine v_iret hC hR dX3_needs_160 ?_
          rw [e3] at hk
          rw [show k = n by omega]
          exact hk g1 _ s4
        · refine w_al0 hC dX3_needs_63 ?_
          refine v_getR (off := 35) (j := 35) hC dX3_needs_64 fd_X3_35 rfl rfl rfl ?_
          refine w_al0 hC dX3_needs_67 ?_
          refine v_getR (off := 1) (j := 1) hC dX3_needs_68 fd_X3_10 rfl rfl rfl ?_
          refine w_al0 hC dX3_needs_71 ?_
          refine v_getR (off := 1) (j := 1) hC dX3_needs_72 fd_X3_10 rfl rfl rfl ?_
          refine v_getI hC dX3_needs_75 fd_X3_70 rfl rfl ?_
          rw [y0]
          refine w_vi2 hC vi_X3_161 rfl dX3_needs_78 rfl hN (c_findFitting v4 hA h3 h1 (fun w5 f5 o5 => ?_))
          have s5 := spF36 (j := 36) (by decide) s4 o5
          refine w_al0 hC dX3_needs_81 ?_
          refine v_getR (off := 35) (j := 35) hC dX3_needs_82 fd_X3_35 rfl rfl rfl ?_
          refine w_il4 hC dX3_needs_85 ?_
          refine w_vi1 hC vi_X3_180 rfl dX3_needs_87 rfl hN (c_leaveOut (wd := k) (show n ≤ 8 by omega) (show m ≤ 6 by omega) (by omega) f5 (fun w6 f6 o6 => ?_))
          have s6 := spF36 (j := 36) (by decide) s5 o6
          have v6 := hv0.sp s6
          refine w_al0 hC dX3_needs_90 ?_
          refine v_getR (off := 35) (j := 35) hC dX3_needs_91 fd_X3_35 rfl rfl rfl ?_
          refine w_al0 hC dX3_needs_94 ?_
          refine v_getR (off := 1) (j := 1) hC dX3_needs_95 fd_X3_10 rfl rfl rfl ?_
          refine w_vi1 hC vi_X3_165 rfl dX3_needs_98 rfl hN (c_countWays v6 hA h3 h1 f6 (fun w7 o7 => ?_))
          have s7 := spF36 (j := 37) (by decide) s6 o7
          rw [show wyN (lvF (fitF a (a 0)) k) n m m 0 = wyA a (lvF (fitF a (a 0)) k) by unfold wyA; rw [e3, e1]]
          refine w_is5 hC dX3_needs_101 hN (by first | rfl | assumption) ?_
          refine w_il1 hC dX3_needs_103 ?_
          refine v_if_ne (tgt := 124) hC dX3_needs_104 rfl (fun h104 => ?_) (fun h104 => ?_)
          · refine w_il5 hC dX3_needs_124 ?_
            refine w_il2 hC dX3_needs_126 ?_
            refine v_ic_ne (tgt := 134) hC dX3_needs_127 rfl (fun h127 => ?_) (fun h127 => ?_)
            · refine w_ic hC dX3_needs_134 rfl ?_
              refine w_is6 hC dX3_needs_135 hN (by first | rfl | assumption) ?_
              refine w_il3 hC dX3_needs_137 ?_
              refine w_il6 hC dX3_needs_138 ?_
              refine v_if_eq (tgt := 150) hC dX3_needs_140 rfl (fun _ => ?_) (fun h => absurd h (by decide))
              refine w_ic hC dX3_needs_150 rfl ?_
              refine v_ior hC dX3_needs_151 ?_
              first | rw [or_t (by omega) (nd_1 (by omega) (by omega) (by omega))] | rw [or_t (by omega) (nd_2 (by omega) (by omega))] | rw [or_f (by omega) (nd_3 (by omega) (by omega))] | rw [or_f (by omega) (nd_4 (by omega) (by omega))] | rw [or_f (by omega) (nd_5 (by omega) (by omega))]
              refine w_is3 hC dX3_needs_152 hN (by first | rfl | assumption) ?_
              refine w_inc4 hC dX3_needs_153 hN (by first | rfl | assumption) (ri_mk (by omega) (by omega)) ?_
              refine v_goto (tgt := 51) hC dX3_needs_156 rfl ?_
              refine w_dr5 ?_
              refine w_dr6 ?_
              exact ih51 _ (k + 1) (by omega) (by omega) s7
            · refine w_ic hC dX3_needs_130 rfl ?_
              refine v_goto (tgt := 135) hC dX3_needs_131 rfl ?_
              refine w_is6 hC dX3_needs_135 hN (by first | rfl | assumption) ?_
              refine w_il3 hC dX3_needs_137 ?_
              refine w_il6 hC dX3_needs_138 ?_
              refine v_if_eq (tgt := 150) hC dX3_needs_140 rfl (fun h => absurd h (by decide)) (fun _ => ?_)
              refine w_ic hC dX3_needs_143 rfl ?_
              refine w_il4 hC dX3_needs_144 ?_
              refine v_ishl hC dX3_needs_146 ?_
              refine v_goto (tgt := 151) hC dX3_needs_147 rfl ?_
              refine v_ior hC dX3_needs_151 ?_
              first | rw [or_t (by omega) (nd_1 (by omega) (by omega) (by omega))] | rw [or_t (by omega) (nd_2 (by omega) (by omega))] | rw [or_f (by omega) (nd_3 (by omega) (by omega))] | rw [or_f (by omega) (nd_4 (by omega) (by omega))] | rw [or_f (by omega) (nd_5 (by omega) (by omega))]
              refine w_is3 hC dX3_needs_152 hN (by first | rfl | assumption) ?_
              refine w_inc4 hC dX3_needs_153 hN (by first | rfl | assumption) (ri_mk (by omega) (by omega)) ?_
              refine v_goto (tgt := 51) hC dX3_needs_156 rfl ?_
              refine w_dr5 ?_
              refine w_dr6 ?_
              exact ih51 _ (k + 1) (by omega) (by omega) s7
          · refine w_il2 hC dX3_needs_107 ?_
            refine v_if_le (tgt := 120) hC dX3_needs_108 rfl (fun h108 => ?_) (fun h108 => ?_)
            · refine w_ic hC dX3_needs_120 rfl ?_
              refine v_goto (tgt := 135) hC dX3_needs_121 rfl ?_
              refine w_is6 hC dX3_needs_135 hN (by first | rfl | assumption) ?_
              refine w_il3 hC dX3_needs_137 ?_
              refine w_il6 hC dX3_needs_138 ?_
              refine v_if_eq (tgt := 150) hC dX3_needs_140 rfl (fun _ => ?_) (fun h => absurd h (by decide))
              refine w_ic hC dX3_needs_150 rfl ?_
              refine v_ior hC dX3_needs_151 ?_
              first | rw [or_t (by omega) (nd_1 (by omega) (by omega) (by omega))] | rw [or_t (by omega) (nd_2 (by omega) (by omega))] | rw [or_f (by omega) (nd_3 (by omega) (by omega))] | rw [or_f (by omega) (nd_4 (by omega) (by omega))] | rw [or_f (by omega) (nd_5 (by omega) (by omega))]
              refine w_is3 hC dX3_needs_152 hN (by first | rfl | assumption) ?_
              refine w_inc4 hC dX3_needs_153 hN (by first | rfl | assumption) (ri_mk (by omega) (by omega)) ?_
              refine v_goto (tgt := 51) hC dX3_needs_156 rfl ?_
              refine w_dr5 ?_
              refine w_dr6 ?_
              exact ih51 _ (k + 1) (by omega) (by omega) s7
            · refine w_il5 hC dX3_needs_111 ?_
              refine v_if_ne (tgt := 120) hC dX3_needs_113 rfl (fun h113 => ?_) (fun h113 => ?_)
              · refine w_ic hC dX3_needs_120 rfl ?_
                refine v_goto (tgt := 135) hC dX3_needs_121 rfl ?_
                refine w_is6 hC dX3_needs_135 hN (by first | rfl | assumption) ?_
                refine w_il3 hC dX3_needs_137 ?_
                refine w_il6 hC dX3_needs_138 ?_
                refine v_if_eq (tgt := 150) hC dX3_needs_140 rfl (fun _ => ?_) (fun h => absurd h (by decide))
                refine w_ic hC dX3_needs_150 rfl ?_
                refine v_ior hC dX3_needs_151 ?_
                first | rw [or_t (by omega) (nd_1 (by omega) (by omega) (by omega))] | rw [or_t (by omega) (nd_2 (by omega) (by omega))] | rw [or_f (by omega) (nd_3 (by omega) (by omega))] | rw [or_f (by omega) (nd_4 (by omega) (by omega))] | rw [or_f (by omega) (nd_5 (by omega) (by omega))]
                refine w_is3 hC dX3_needs_152 hN (by first | rfl | assumption) ?_
                refine w_inc4 hC dX3_needs_153 hN (by first | rfl | assumption) (ri_mk (by omega) (by omega)) ?_
                refine v_goto (tgt := 51) hC dX3_needs_156 rfl ?_
                refine w_dr5 ?_
                refine w_dr6 ?_
                exact ih51 _ (k + 1) (by omega) (by omega) s7
              · refine w_ic hC dX3_needs_116 rfl ?_
                refine v_goto (tgt := 135) hC dX3_needs_117 rfl ?_
                refine w_is6 hC dX3_needs_135 hN (by first | rfl | assumption) ?_
                refine w_il3 hC dX3_needs_137 ?_
                refine w_il6 hC dX3_needs_138 ?_
                refine v_if_eq (tgt := 150) hC dX3_needs_140 rfl (fun h => absurd h (by decide)) (fun _ => ?_)
                refine w_ic hC dX3_needs_143 rfl ?_
                refine w_il4 hC dX3_needs_144 ?_
                refine v_ishl hC dX3_needs_146 ?_
                refine v_goto (tgt := 151) hC dX3_needs_147 rfl ?_
                refine v_ior hC dX3_needs_151 ?_
                first | rw [or_t (by omega) (nd_1 (by omega) (by omega) (by omega))] | rw [or_t (by omega) (nd_2 (by omega) (by omega))] | rw [or_f (by omega) (nd_3 (by omega) (by omega))] | rw [or_f (by omega) (nd_4 (by omega) (by omega))] | rw [or_f (by omega) (nd_5 (by omega) (by omega))]
                refine w_is3 hC dX3_needs_152 hN (by first | rfl | assumption) ?_
                refine w_inc4 hC dX3_needs_153 hN (by first | rfl | assumption) (ri_mk (by omega) (by omega)) ?_
                refine v_goto (tgt := 51) hC dX3_needs_156 rfl ?_
                refine w_dr5 ?_
                refine w_dr6 ?_
                exact ih51 _ (k + 1) (by omega) (by omega) s7
    exact lp51 (n + 1) _ 0 (by omega) (by omega) s3
  · refine v_if_ne (tgt := 16) hC dX3_needs_6 rfl (fun h => absurd h (by decide)) (fun _ => ?_)
    refine w_al0 hC dX3_needs_9 ?_
    refine v_bipush hC dX3_needs_10 (by decide) ?_
    refine w_vi1 hC vi_X3_58 rfl dX3_needs_12 rfl hN (c_refBad ?_)
    refine v_iret hC hR dX3_needs_15 ?_
    exact hb0 g1

theorem c_forms {d : Nat} {w : Wd} {Q : Option MV → Wd → Prop} {a : Nat → Int} (hv : VX w 1 a) (hA : AOK a) (hQ : ∀ w2, spF w w2 → Q (some (.inl ((mkM (fun f => 0 < wyA a (fitF a (f : Int))) 6 : Nat) : Int))) w2) : Call (d + 4) mX3_forms [vR 0] w Q := by
  have hb : vb 1 := Or.inl rfl
  have hv0 := hv
  obtain ⟨⟨x0, x1, x2, x3, x4, x5, x6⟩, xw, xl, xn, xm, xu⟩ := hv
  have am := hA.m
  have an := hA.n
  have af := hA.f
  have anc := hA.nc
  have amc := hA.mc
  have auc := hA.uc
  obtain ⟨n, h3⟩ := Int.eq_ofNat_of_zero_le an.1
  obtain ⟨m, h1⟩ := Int.eq_ofNat_of_zero_le (show 0 ≤ a 1 by omega)
  have e3 : (a 3).toNat = n := by omega
  have e1 : (a 1).toNat = m := by omega
  refine call_in (ls := [some (vR 0), none, none]) (by decide +kernel) rfl (Nat.le_of_ble_eq_true rfl) (fun κ hC hR hN => ?_)
  have hC : ctxB κ RX3 cX3_forms (d + 4) := hC
  have hN : mlx κ 3 := hN
  refine w_ic hC dX3_forms_0 rfl ?_
  refine w_is1 hC dX3_forms_1 hN (by first | rfl | assumption) ?_
  refine w_ic hC dX3_forms_2 rfl ?_
  refine w_is2 hC dX3_forms_3 hN (by first | rfl | assumption) ?_
  have lp4 : ∀ (K : Nat) (w4 : Wd) (k : Nat), (6 - k) < K → (k ≤ 6) → (spF w w4) → VV κ 4 [some (vR 0), some (vI ((mkM (fun f => 0 < wyA a (fitF a (f : Int))) k : Nat) : Int)), some (vI (k : Int))] [] w4 := by
    intro K
    induction K with
    | zero => intros; omega
    | succ K ih4 =>
      intro w4 k hm4 hk2 s4
      have v4 := hv0.sp s4
      refine w_il2 hC dX3_forms_4 ?_
      refine v_bipush hC dX3_forms_5 (by decide) ?_
      refine v_ic_ge (tgt := 52) hC dX3_forms_7 rfl (fun h7 => ?_) (fun h7 => ?_)
      · refine w_il1 hC dX3_forms_52 ?_
        refine v_iret hC hR dX3_forms_53 ?_
        rw [show k = 6 by omega]
        exact hQ _ s4
      · refine w_al0 hC dX3_forms_10 ?_
        refine v_getR (off := 35) (j := 35) hC dX3_forms_11 fd_X3_35 rfl rfl rfl ?_
        refine w_al0 hC dX3_forms_14 ?_
        refine v_getR (off := 1) (j := 1) hC dX3_forms_15 fd_X3_10 rfl rfl rfl ?_
        refine w_il2 hC dX3_forms_18 ?_
        refine w_vi2 hC vi_X3_161 rfl dX3_forms_19 rfl hN (c_findFitting v4 hA h3 h1 (fun w5 f5 o5 => ?_))
        have s5 := spF36 (j := 36) (by decide) s4 o5
        have v5 := hv0.sp s5
        refine w_il1 hC dX3_forms_22 ?_
        refine w_al0 hC dX3_forms_23 ?_
        refine v_getR (off := 35) (j := 35) hC dX3_forms_24 fd_X3_35 rfl rfl rfl ?_
        refine w_al0 hC dX3_forms_27 ?_
        refine v_getR (off := 1) (j := 1) hC dX3_forms_28 fd_X3_10 rfl rfl rfl ?_
        refine w_vi1 hC vi_X3_165 rfl dX3_forms_31 rfl hN (c_countWays v5 hA h3 h1 f5 (fun w6 o6 => ?_))
        have s6 := spF36 (j := 37) (by decide) s5 o6
        rw [show wyN (fitF a (k : Int)) n m m 0 = wyA a (fitF a (k : Int)) by unfold wyA; rw [e3, e1]]
        refine v_if_le (tgt := 43) hC dX3_forms_34 rfl (fun h34 => ?_) (fun h34 => ?_)
        · refine w_ic hC dX3_forms_43 rfl ?_
          refine v_ior hC dX3_forms_44 ?_
          first | rw [or_t (P := fun f : Nat => 0 < wyA a (fitF a (f : Int))) (by omega) (show 0 < wyA a (fitF a (k : Int)) by omega)] | rw [or_f (P := fun f : Nat => 0 < wyA a (fitF a (f : Int))) (by omega) (show ¬ 0 < wyA a (fitF a (k : Int)) by omega)]
          refine w_is1 hC dX3_forms_45 hN (by first | rfl | assumption) ?_
          refine w_inc2 hC dX3_forms_46 hN (by first | rfl | assumption) (ri_mk (by omega) (by omega)) ?_
          refine v_goto (tgt := 4) hC dX3_forms_49 rfl ?_
          exact ih4 _ (k + 1) (by omega) (by omega) s6
        · refine w_ic hC dX3_forms_37 rfl ?_
          refine w_il2 hC dX3_forms_38 ?_
          refine v_ishl hC dX3_forms_39 ?_
          refine v_goto (tgt := 44) hC dX3_forms_40 rfl ?_
          refine v_ior hC dX3_forms_44 ?_
          first | rw [or_t (P := fun f : Nat => 0 < wyA a (fitF a (f : Int))) (by omega) (show 0 < wyA a (fitF a (k : Int)) by omega)] | rw [or_f (P := fun f : Nat => 0 < wyA a (fitF a (f : Int))) (by omega) (show ¬ 0 < wyA a (fitF a (k : Int)) by omega)]
          refine w_is1 hC dX3_forms_45 hN (by first | rfl | assumption) ?_
          refine w_inc2 hC dX3_forms_46 hN (by first | rfl | assumption) (ri_mk (by omega) (by omega)) ?_
          refine v_goto (tgt := 4) hC dX3_forms_49 rfl ?_
          exact ih4 _ (k + 1) (by omega) (by omega) s6
  exact lp4 7 _ 0 (by omega) (by omega) (spF0 w)

theorem c_rows {d : Nat} {w : Wd} {Q : Option MV → Wd → Prop} {a : Nat → Int} (hv : VX w 1 a) (hA : AOK a) {n1 x : Int} (hb0 : ¬ ((1 ≤ n1 ∧ n1 ≤ min 3 (a 1)) ∧ 0 ≤ x ∧ x ≤ 1) → Q (some (.inl (-2))) (cI w 0 10)) (hk0 : (1 ≤ n1 ∧ n1 ≤ min 3 (a 1)) ∧ 0 ≤ x ∧ x ≤ 1 → x = 0 → ∀ w2, spF w w2 → Q (some (.inl (cnP (fun q => roN (laF a) (a 3).toNat n1.toNat 0 0 0 q) 1000 : Int))) w2) (hk1 : (1 ≤ n1 ∧ n1 ≤ min 3 (a 1)) ∧ 0 ≤ x ∧ x ≤ 1 → x = 1 → ∀ z w2, grB (fun q => roN (laF a) (a 3).toNat n1.toNat 0 0 0 q) z → spF w w2 → Q (some (.inl z)) w2) : Call (d + 4) mX3_rows [vR 0, vI n1, vI x] w Q := by
  have hb : vb 1 := Or.inl rfl
  have hv0 := hv
  obtain ⟨⟨x0, x1, x2, x3, x4, x5, x6⟩, xw, xl, xn, xm, xu⟩ := hv
  have am := hA.m
  have an := hA.n
  have af := hA.f
  have anc := hA.nc
  have amc := hA.mc
  have auc := hA.uc
  obtain ⟨n, h3⟩ := Int.eq_ofNat_of_zero_le an.1
  obtain ⟨m, h1⟩ := Int.eq_ofNat_of_zero_le (show 0 ≤ a 1 by omega)
  have e3 : (a 3).toNat = n := by omega
  have e1 : (a 1).toNat = m := by omega
  refine call_in (ls := [some (vR 0), some (vI n1), some (vI x)]) (by decide +kernel) rfl (Nat.le_of_ble_eq_true rfl) (fun κ hC hR hN => ?_)
  have hC : ctxB κ RX3 cX3_rows (d + 4) := hC
  have hN : mlx κ 3 := hN
  refine w_il1 hC dX3_rows_0 ?_
  refine w_ic hC dX3_rows_1 rfl ?_
  refine w_ic hC dX3_rows_2 rfl ?_
  refine w_al0 hC dX3_rows_3 ?_
  refine v_getR (off := 1) (j := 1) hC dX3_rows_4 fd_X3_10 rfl rfl rfl ?_
  refine v_getI hC dX3_rows_7 fd_X3_186 rfl rfl ?_
  rw [x1]
  refine w_st2 hC st_X3_189 dX3_rows_10 rfl hN (c_min ?_)
  refine w_st3 hC st_X3_50 dX3_rows_13 rfl hN (c_within (fun g1 => ?_) (fun g1 => ?_))
  · refine v_if_eq (tgt := 28) hC dX3_rows_16 rfl (fun h => absurd h (by decide)) (fun _ => ?_)
    refine w_il2 hC dX3_rows_19 ?_
    refine w_ic hC dX3_rows_20 rfl ?_
    refine w_ic hC dX3_rows_21 rfl ?_
    refine w_st3 hC st_X3_50 dX3_rows_22 rfl hN (c_within (fun g2 => ?_) (fun g2 => ?_))
    · refine v_if_ne (tgt := 35) hC dX3_rows_25 rfl (fun _ => ?_) (fun h => absurd h (by decide))
      refine w_al0 hC dX3_rows_35 ?_
      refine v_getR (off := 35) (j := 35) hC dX3_rows_36 fd_X3_35 rfl rfl rfl ?_
      refine w_al0 hC dX3_rows_39 ?_
      refine v_getR (off := 1) (j := 1) hC dX3_rows_40 fd_X3_10 rfl rfl rfl ?_
      refine w_il1 hC dX3_rows_43 ?_
      obtain ⟨N, hN1⟩ := Int.eq_ofNat_of_zero_le (show 0 ≤ n1 by omega)
      rw [hN1]
      refine w_vi2 hC vi_X3_195 rfl dX3_rows_44 rfl hN (c_spellRows hv0 hA h3 h1 (N := N) ⟨by omega, by omega⟩ (fun w2 s2 o2 => ?_))
      have sf : spF w w2 := fun i k h => o2 i k (by omega) (by omega)
      refine w_il2 hC dX3_rows_47 ?_
      refine v_if_ne (tgt := 61) hC dX3_rows_48 rfl (fun h48 => ?_) (fun h48 => ?_)
      · refine w_al0 hC dX3_rows_61 ?_
        refine v_getR (off := 35) (j := 35) hC dX3_rows_62 fd_X3_35 rfl rfl rfl ?_
        refine v_getI hC dX3_rows_65 fd_X3_201 rfl rfl ?_
        refine v_iret hC hR dX3_rows_68 ?_
        first
          | (rw [s2.2.1]; rw [e3, show n1.toNat = N by omega] at hk0; exact hk0 ⟨g1, g2⟩ (by omega) w2 sf)
          | (rw [e3, show n1.toNat = N by omega] at hk1; exact hk1 ⟨g1, g2⟩ (by omega) _ w2 s2.2.2.1 sf)
          | exact hb0 (by omega)
      · refine w_al0 hC dX3_rows_51 ?_
        refine v_getR (off := 35) (j := 35) hC dX3_rows_52 fd_X3_35 rfl rfl rfl ?_
        refine v_getI hC dX3_rows_55 fd_X3_198 rfl rfl ?_
        refine v_goto (tgt := 68) hC dX3_rows_58 rfl ?_
        refine v_iret hC hR dX3_rows_68 ?_
        first
          | (rw [s2.2.1]; rw [e3, show n1.toNat = N by omega] at hk0; exact hk0 ⟨g1, g2⟩ (by omega) w2 sf)
          | (rw [e3, show n1.toNat = N by omega] at hk1; exact hk1 ⟨g1, g2⟩ (by omega) _ w2 s2.2.2.1 sf)
          | exact hb0 (by omega)
    · refine v_if_ne (tgt := 35) hC dX3_rows_25 rfl (fun h => absurd h (by decide)) (fun _ => ?_)
      refine w_al0 hC dX3_rows_28 ?_
      refine v_bipush hC dX3_rows_29 (by decide) ?_
      refine w_vi1 hC vi_X3_58 rfl dX3_rows_31 rfl hN (c_refBad ?_)
      refine v_iret hC hR dX3_rows_34 ?_
      exact hb0 (by omega)
  · refine v_if_eq (tgt := 28) hC dX3_rows_16 rfl (fun _ => ?_) (fun h => absurd h (by decide))
    refine w_al0 hC dX3_rows_28 ?_
    refine v_bipush hC dX3_rows_29 (by decide) ?_
    refine w_vi1 hC vi_X3_58 rfl dX3_rows_31 rfl hN (c_refBad ?_)
    refine v_iret hC hR dX3_rows_34 ?_
    exact hb0 (by omega)

theorem c_luck {d : Nat} {w : Wd} {Q : Option MV → Wd → Prop} {a : Nat → Int} (hv : VX w 1 a) (hA : AOK a) (hk : ∀ w1 w2 : Wd, spF w w1 → (wyA a (fitF a (a 0)) = 0 → w2 = up (up w1 0 8 0) 0 9 1) → (0 < wyA a (fitF a (a 0)) → w2 = up (up w1 0 8 (((wyA a (fitF a (a 0))).toNat / Nat.gcd (wyA a (fitF a (a 0))).toNat (roW (a 3) (a 1).toNat).toNat : Nat) : Int)) 0 9 (((roW (a 3) (a 1).toNat).toNat / Nat.gcd (wyA a (fitF a (a 0))).toNat (roW (a 3) (a 1).toNat).toNat : Nat) : Int)) → Q (some (.inl 1)) w2) : Call (d + 4) mX3_luck [vR 0] w Q := by
  have hb : vb 1 := Or.inl rfl
  have hv0 := hv
  obtain ⟨⟨x0, x1, x2, x3, x4, x5, x6⟩, xw, xl, xn, xm, xu⟩ := hv
  have am := hA.m
  have an := hA.n
  have af := hA.f
  have anc := hA.nc
  have amc := hA.mc
  have auc := hA.uc
  obtain ⟨n, h3⟩ := Int.eq_ofNat_of_zero_le an.1
  obtain ⟨m, h1⟩ := Int.eq_ofNat_of_zero_le (show 0 ≤ a 1 by omega)
  have e3 : (a 3).toNat = n := by omega
  have e1 : (a 1).toNat = m := by omega
  refine call_in (ls := [some (vR 0)]) (by decide +kernel) rfl (Nat.le_of_ble_eq_true rfl) (fun κ hC hR hN => ?_)
  have hC : ctxB κ RX3 cX3_luck (d + 4) := hC
  have hN : mlx κ 1 := hN
  refine w_al0 hC dX3_luck_0 ?_
  refine v_getR (off := 35) (j := 35) hC dX3_luck_1 fd_X3_35 rfl rfl rfl ?_
  refine w_al0 hC dX3_luck_4 ?_
  refine v_getR (off := 1) (j := 1) hC dX3_luck_5 fd_X3_10 rfl rfl rfl ?_
  refine w_al0 hC dX3_luck_8 ?_
  refine v_getR (off := 1) (j := 1) hC dX3_luck_9 fd_X3_10 rfl rfl rfl ?_
  refine v_getI hC dX3_luck_12 fd_X3_70 rfl rfl ?_
  rw [x0]
  refine w_vi2 hC vi_X3_161 rfl dX3_luck_15 rfl hN (c_findFitting hv0 hA h3 h1 (fun w2 f2 o2 => ?_))
  have s2 := spF36 (j := 36) (by decide) (spF0 w) o2
  have v2 := hv0.sp s2
  refine w_al0 hC dX3_luck_18 ?_
  refine w_al0 hC dX3_luck_19 ?_
  refine v_getR (off := 35) (j := 35) hC dX3_luck_20 fd_X3_35 rfl rfl rfl ?_
  refine w_al0 hC dX3_luck_23 ?_
  refine v_getR (off := 1) (j := 1) hC dX3_luck_24 fd_X3_10 rfl rfl rfl ?_
  refine w_vi1 hC vi_X3_165 rfl dX3_luck_27 rfl hN (c_countWays v2 hA h3 h1 f2 (fun w3 o3 => ?_))
  have s3 := spF36 (j := 37) (by decide) s2 o3
  rw [show wyN (fitF a (a 0)) n m m 0 = wyA a (fitF a (a 0)) by unfold wyA; rw [e3, e1]]
  have v3 := hv0.sp s3
  have z3 : w3 1 3 = a 3 := v3.1.2.2.2.1
  have z1 : w3 1 1 = a 1 := v3.1.2.1
  have hwr := wyN_q (F := fitF a (a 0)) (n := n) (m := m) (by omega) (show m ≤ 6 by omega) 0
  have hwe : wyA a (fitF a (a 0)) = wyN (fitF a (a 0)) n m m 0 := by unfold wyA; rw [e3, e1]
  have hro := roW_r an m (by omega)
  have he8 := e8_le (j := m) (by omega)
  obtain ⟨xx, hxx⟩ := Int.eq_ofNat_of_zero_le (show 0 ≤ wyA a (fitF a (a 0)) by omega)
  obtain ⟨yy, hyy⟩ := Int.eq_ofNat_of_zero_le hro.1
  rw [e1, hxx, hyy] at hk
  rw [hxx]
  rw [show ((xx : Nat) : Int).toNat = xx from rfl, show ((yy : Nat) : Int).toNat = yy from rfl] at hk
  refine v_i2l hC dX3_luck_30 ?_
  refine w_al0 hC dX3_luck_31 ?_
  refine v_getR (off := 1) (j := 1) hC dX3_luck_32 fd_X3_10 rfl rfl rfl ?_
  refine v_getI hC dX3_luck_35 fd_X3_62 rfl rfl ?_
  rw [z3]
  refine w_al0 hC dX3_luck_38 ?_
  refine v_getR (off := 1) (j := 1) hC dX3_luck_39 fd_X3_10 rfl rfl rfl ?_
  refine v_getI hC dX3_luck_42 fd_X3_186 rfl rfl ?_
  rw [z1]
  refine w_st2 hC st_X3_236 dX3_luck_45 rfl hN (c_rowsOfWords an ⟨by omega, by omega⟩ ?_)
  rw [e1, hyy]
  refine v_i2l hC dX3_luck_48 ?_
  refine w_vi2 hC vi_X3_239 rfl dX3_luck_49 rfl hN (c_setFraction (x := xx) (y := yy) (by omega) (by omega) (fun q => ?_) (fun q => ?_))
  · refine w_ic hC dX3_luck_52 rfl ?_
    refine v_iret hC hR dX3_luck_53 ?_
    first | exact hk w3 _ s3 (fun _ => rfl) (fun z => absurd z (by omega)) | exact hk w3 _ s3 (fun z => absurd z (by omega)) (fun _ => rfl)
  · refine w_ic hC dX3_luck_52 rfl ?_
    refine v_iret hC hR dX3_luck_53 ?_
    first | exact hk w3 _ s3 (fun _ => rfl) (fun z => absurd z (by omega)) | exact hk w3 _ s3 (fun z => absurd z (by omega)) (fun _ => rfl)
