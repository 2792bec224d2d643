theorem d_in {d : Nat} {w : Wd} {Q : Option MV → Wd → Prop} {n a b : Int} (ht : a ≤ n ∧ n ≤ b → Q (some (.inl 1)) w) (hf : ¬ (a ≤ n ∧ n ≤ b) → Q (some (.inl 0)) w) : Call (d + 0) mX4_in [vI n, vI a, vI b] w Q := by
  refine call_in (ls := [some (vI n), some (vI a), some (vI b)]) (by decide +kernel) rfl (Nat.le_of_ble_eq_true rfl) (fun κ hC hR hN => ?_)
  have hC : ctxB κ RX4 cX4_in (d + 0) := hC
  have hN : mlx κ 3 := hN
  refine w_il0 hC dX4_in_0 ?_
  refine w_il1 hC dX4_in_1 ?_
  refine v_ic_lt (tgt := 14) hC dX4_in_2 rfl (fun h2 => ?_) (fun h2 => ?_)
  · refine w_ic hC dX4_in_14 rfl ?_
    refine v_zret hC hR dX4_in_15 (by first | decide | omega) ?_
    first | exact hf (by omega) | exact ht (by omega)
  · refine w_il0 hC dX4_in_5 ?_
    refine w_il2 hC dX4_in_6 ?_
    refine v_ic_gt (tgt := 14) hC dX4_in_7 rfl (fun h7 => ?_) (fun h7 => ?_)
    · refine w_ic hC dX4_in_14 rfl ?_
      refine v_zret hC hR dX4_in_15 (by first | decide | omega) ?_
      first | exact hf (by omega) | exact ht (by omega)
    · refine w_ic hC dX4_in_10 rfl ?_
      refine v_goto (tgt := 15) hC dX4_in_11 rfl ?_
      refine v_zret hC hR dX4_in_15 (by first | decide | omega) ?_
      first | exact hf (by omega) | exact ht (by omega)

theorem d_has {d : Nat} {w : Wd} {Q : Option MV → Wd → Prop} {s k : Nat} (hs : s < 2147483648) (hk : k < 32) (ht : s.testBit k = true → Q (some (.inl 1)) w) (hf : s.testBit k = false → Q (some (.inl 0)) w) : Call (d + 0) mX4_has [vI (s : Int), vI (k : Int)] w Q := by
  refine call_in (ls := [some (vI (s : Int)), some (vI (k : Int))]) (by decide +kernel) rfl (Nat.le_of_ble_eq_true rfl) (fun κ hC hR hN => ?_)
  have hC : ctxB κ RX4 cX4_has (d + 0) := hC
  have hN : mlx κ 2 := hN
  refine w_il0 hC dX4_has_0 ?_
  refine w_il1 hC dX4_has_1 ?_
  refine v_ishr hC dX4_has_2 ?_
  refine w_ic hC dX4_has_3 rfl ?_
  refine v_iand hC dX4_has_4 ?_
  rw [hasB hs hk]
  refine w_ic hC dX4_has_5 rfl ?_
  refine v_ic_ne (tgt := 13) hC dX4_has_6 rfl (fun h6 => ?_) (fun h6 => ?_)
  · refine w_ic hC dX4_has_13 rfl ?_
    refine v_zret hC hR dX4_has_14 (by first | decide | omega) ?_
    first | exact ht (by cases hb : s.testBit k <;> simp_all) | exact hf (by cases hb : s.testBit k <;> simp_all)
  · refine w_ic hC dX4_has_9 rfl ?_
    refine v_goto (tgt := 14) hC dX4_has_10 rfl ?_
    refine v_zret hC hR dX4_has_14 (by first | decide | omega) ?_
    first | exact ht (by cases hb : s.testBit k <;> simp_all) | exact hf (by cases hb : s.testBit k <;> simp_all)

theorem d_badBy {d : Nat} {w : Wd} {Q : Option MV → Wd → Prop} {r : Int} (hQ : Q (some (.inl r)) (up w 44 0 (wr (w 44 0 + 1)))) : Call (d + 0) mX4_badBy [vR 39, vI r] w Q := by
  refine call_in (ls := [some (vR 39), some (vI r)]) (by decide +kernel) rfl (Nat.le_of_ble_eq_true rfl) (fun κ hC hR hN => ?_)
  have hC : ctxB κ RX4 cX4_badBy (d + 0) := hC
  have hN : mlx κ 2 := hN
  refine w_al0 hC dX4_badBy_0 ?_
  refine v_getR (off := 5) (j := 44) hC dX4_badBy_1 fd_X4_23 rfl rfl rfl ?_
  refine w_ic hC dX4_badBy_4 rfl ?_
  refine v_dup2 hC dX4_badBy_5 rfl rfl ?_
  refine w_ialdk hC 3 (0) dX4_badBy_6 rfl rfl (by omega) (by omega) ?_
  refine w_ic hC dX4_badBy_7 rfl ?_
  refine v_iadd hC dX4_badBy_8 ?_
  refine w_iastk hC 3 (0) dX4_badBy_9 rfl rfl (by omega) (by omega) ?_
  refine w_il1 hC dX4_badBy_10 ?_
  refine v_iret hC hR dX4_badBy_11 ?_
  exact hQ

theorem d_bad {d : Nat} {w : Wd} {Q : Option MV → Wd → Prop} (hQ : Q (some (.inl (-2))) (up w 44 0 (wr (w 44 0 + 1)))) : Call (d + 1) mX4_bad [vR 39] w Q := by
  refine call_in (ls := [some (vR 39)]) (by decide +kernel) rfl (Nat.le_of_ble_eq_true rfl) (fun κ hC hR hN => ?_)
  have hC : ctxB κ RX4 cX4_bad (d + 1) := hC
  have hN : mlx κ 1 := hN
  refine w_al0 hC dX4_bad_0 ?_
  refine v_bipush hC dX4_bad_1 (by decide) ?_
  refine w_vi1 hC vi_X4_49 rfl dX4_bad_3 rfl hN (d_badBy ?_)
  refine v_iret hC hR dX4_bad_6 ?_
  exact hQ

theorem d_no {d : Nat} {w : Wd} {Q : Option MV → Wd → Prop} (hQ : Q (some (.inl (-3))) (up w 44 1 (wr (w 44 1 + 1)))) : Call (d + 0) mX4_no [vR 39] w Q := by
  refine call_in (ls := [some (vR 39)]) (by decide +kernel) rfl (Nat.le_of_ble_eq_true rfl) (fun κ hC hR hN => ?_)
  have hC : ctxB κ RX4 cX4_no (d + 0) := hC
  have hN : mlx κ 1 := hN
  refine w_al0 hC dX4_no_0 ?_
  refine v_getR (off := 5) (j := 44) hC dX4_no_1 fd_X4_23 rfl rfl rfl ?_
  refine w_ic hC dX4_no_4 rfl ?_
  refine v_dup2 hC dX4_no_5 rfl rfl ?_
  refine w_ialdk hC 3 (1) dX4_no_6 rfl rfl (by omega) (by omega) ?_
  refine w_ic hC dX4_no_7 rfl ?_
  refine v_iadd hC dX4_no_8 ?_
  refine w_iastk hC 3 (1) dX4_no_9 rfl rfl (by omega) (by omega) ?_
  refine v_bipush hC dX4_no_10 (by decide) ?_
  refine v_iret hC hR dX4_no_12 ?_
  exact hQ

theorem d_full {d : Nat} {w : Wd} {Q : Option MV → Wd → Prop} (hQ : Q (some (.inl (-4))) (up w 44 2 (wr (w 44 2 + 1)))) : Call (d + 0) mX4_full [vR 39] w Q := by
  refine call_in (ls := [some (vR 39)]) (by decide +kernel) rfl (Nat.le_of_ble_eq_true rfl) (fun κ hC hR hN => ?_)
  have hC : ctxB κ RX4 cX4_full (d + 0) := hC
  have hN : mlx κ 1 := hN
  refine w_al0 hC dX4_full_0 ?_
  refine v_getR (off := 5) (j := 44) hC dX4_full_1 fd_X4_23 rfl rfl rfl ?_
  refine w_ic hC dX4_full_4 rfl ?_
  refine v_dup2 hC dX4_full_5 rfl rfl ?_
  refine w_ialdk hC 3 (2) dX4_full_6 rfl rfl (by omega) (by omega) ?_
  refine w_ic hC dX4_full_7 rfl ?_
  refine v_iadd hC dX4_full_8 ?_
  refine w_iastk hC 3 (2) dX4_full_9 rfl rfl (by omega) (by omega) ?_
  refine v_bipush hC dX4_full_10 (by decide) ?_
  refine v_iret hC hR dX4_full_12 ?_
  exact hQ

theorem d_bring {d : Nat} {w : Wd} {Q : Option MV → Wd → Prop} {x y i j n : Nat} (hx : kdT x = 5) (hy : kdT y = 5) (h1 : i + n ≤ szT x) (h2 : j + n ≤ szT y) (hov : x ≠ y ∨ j ≤ i ∨ i + n ≤ j) (hQ : ∀ w2 : Wd, (∀ k, k < n → w2 y (j + k) = w x (i + k)) → (∀ i2 k2, ¬ (i2 = y ∧ j ≤ k2 ∧ k2 < j + n) → w2 i2 k2 = w i2 k2) → Q none w2) : Call (d + 0) mX4_bring [vR x, vI (i : Int), vR y, vI (j : Int), vI (n : Int)] w Q := by
  have hz : ∀ i, i < 50 → szT i ≤ 1792 := by decide +kernel
  have hzx := hz x (kdT_lt (by omega))
  have hzy := hz y (kdT_lt (by omega))
  refine call_in (ls := [some (vR x), some (vI (i : Int)), some (vR y), some (vI (j : Int)), some (vI (n : Int)), none]) (by decide +kernel) rfl (Nat.le_of_ble_eq_true rfl) (fun κ hC hR hN => ?_)
  have hC : ctxB κ RX4 cX4_bring (d + 0) := hC
  have hN : mlx κ 6 := hN
  refine w_ic hC dX4_bring_0 rfl ?_
  refine w_is5 hC dX4_bring_1 hN (by first | rfl | assumption) ?_
  have lp3 : ∀ (K : Nat) (w2 : Wd) (k : Nat), (n - k) < K → (k ≤ n) → (∀ q, q < k → w2 y (j + q) = w x (i + q)) → (∀ i2 k2, ¬ (i2 = y ∧ j ≤ k2 ∧ k2 < j + k) → w2 i2 k2 = w i2 k2) → VV κ 3 [some (vR x), some (vI (i : Int)), some (vR y), some (vI (j : Int)), some (vI (n : Int)), some (vI (k : Int))] [] w2 := by
    intro K
    induction K with
    | zero => intros; omega
    | succ K ih3 =>
      intro w2 k hm3 hk g1 g2
      refine w_il5 hC dX4_bring_3 ?_
      refine w_il4 hC dX4_bring_5 ?_
      refine v_ic_ge (tgt := 28) hC dX4_bring_7 rfl (fun h7 => ?_) (fun h7 => ?_)
      · refine v_vret hC hR dX4_bring_28 ?_
        have : k = n := by omega
        subst this
        exact hQ w2 g1 g2
      · refine w_al2 hC dX4_bring_10 ?_
        refine w_il3 hC dX4_bring_11 ?_
        refine w_il5 hC dX4_bring_12 ?_
        refine w_iadd hC dX4_bring_14 (ri_mk (by omega) (by omega)) ?_
        refine w_al0 hC dX4_bring_15 ?_
        refine w_il1 hC dX4_bring_16 ?_
        refine w_il5 hC dX4_bring_17 ?_
        refine w_iadd hC dX4_bring_19 (ri_mk (by omega) (by omega)) ?_
        refine w_ialdk hC _ (i + k) dX4_bring_20 hx rfl (by omega) (by omega) ?_
        refine w_iastk hC _ (j + k) dX4_bring_21 hy rfl (by omega) (by omega) ?_
        refine w_inc5 hC dX4_bring_22 hN (by first | rfl | assumption) (ri_mk (by omega) (by omega)) ?_
        refine v_goto (tgt := 3) hC dX4_bring_25 rfl ?_
        exact ih3 _ (k + 1) (by omega) (by omega) (lt_s (fun q hq => by rw [up_pl _ _ (by omega)]; exact g1 q hq) (by rw [up_same]; exact g2 _ _ (by omega))) (fun i2 k2 h => by rw [up_ne _ _ (by omega)]; exact g2 i2 k2 (by omega))
  exact lp3 (n + 1) w 0 (by omega) (by omega) (fun q h => by omega) (fun _ _ _ => rfl)

theorem d_begin {d : Nat} {w : Wd} {Q : Option MV → Wd → Prop} {r : Nat} (hr : kdT r = 5) (sr : szT r = 127) (hQ : ∀ w2 : Wd, (∀ k, k < 127 → w2 r k = if 28 ≤ k ∧ k < 34 then -1 else if k = 1 then 3 else 0) → smO w w2 (fun i => i ≠ r) → Q none w2) : Call (d + 1) mX4_begin [vR r] w Q := by
  refine call_in (ls := [some (vR r), none]) (by decide +kernel) rfl (Nat.le_of_ble_eq_true rfl) (fun κ hC hR hN => ?_)
  have hC : ctxB κ RX4 cX4_begin (d + 1) := hC
  have hN : mlx κ 2 := hN
  refine w_ic hC dX4_begin_0 rfl ?_
  refine w_is1 hC dX4_begin_1 hN (by first | rfl | assumption) ?_
  have lp2 : ∀ (K : Nat) (w2 : Wd) (k : Nat), (127 - k) < K → (k ≤ 127) → (∀ q, q < k → w2 r q = if 28 ≤ q ∧ q < 34 then -1 else 0) → (smO w w2 (fun i => i ≠ r)) → VV κ 2 [some (vR r), some (vI (k : Int))] [] w2 := by
    intro K
    induction K with
    | zero => intros; omega
    | succ K ih2 =>
      intro w2 k hm2 hk g1 g2
      refine w_il1 hC dX4_begin_2 ?_
      refine v_bipush hC dX4_begin_3 (by decide) ?_
      refine v_ic_ge (tgt := 33) hC dX4_begin_5 rfl (fun h5 => ?_) (fun h5 => ?_)
      · refine w_al0 hC dX4_begin_33 ?_
        refine w_ic hC dX4_begin_34 rfl ?_
        refine w_ic hC dX4_begin_35 rfl ?_
        refine w_iastk hC 127 1 dX4_begin_36 hr sr (by omega) (by omega) ?_
        refine v_vret hC hR dX4_begin_37 ?_
        refine hQ _ (fun q hq => ?_) (fun i2 k2 h => by rw [up_id _ _ h]; exact g2 i2 k2 h)
        by_cases e : q = 1
        · subst e; rw [up_same]; rfl
        · rw [up_pl _ _ e, g1 q (by omega)]; simp [e]
      · refine w_al0 hC dX4_begin_8 ?_
        refine w_il1 hC dX4_begin_9 ?_
        refine w_il1 hC dX4_begin_10 ?_
        refine v_bipush hC dX4_begin_11 (by decide) ?_
        refine v_bipush hC dX4_begin_13 (by decide) ?_
        refine w_st3 hC st_X4_53 dX4_begin_15 rfl hN (d_in (fun h => ?_) (fun h => ?_))
        · refine v_if_eq (tgt := 25) hC dX4_begin_18 rfl (fun h => absurd h (by decide)) (fun _ => ?_)
          refine w_ic hC dX4_begin_21 rfl ?_
          refine v_goto (tgt := 26) hC dX4_begin_22 rfl ?_
          refine w_iastk hC 127 k dX4_begin_26 hr sr (by omega) (by omega) ?_
          refine w_inc1 hC dX4_begin_27 hN (by first | rfl | assumption) (ri_mk (by omega) (by omega)) ?_
          refine v_goto (tgt := 2) hC dX4_begin_30 rfl ?_
          exact ih2 _ (k + 1) (by omega) (by omega) (lt_s (fun q hq => by rw [up_pl _ _ (by omega)]; exact g1 q hq) (by rw [up_same]; first | rw [if_pos (by omega)] | rw [if_neg (by omega)])) (fun i2 k2 h => by rw [up_id _ _ h]; exact g2 i2 k2 h)
        · refine v_if_eq (tgt := 25) hC dX4_begin_18 rfl (fun _ => ?_) (fun h => absurd h (by decide))
          refine w_ic hC dX4_begin_25 rfl ?_
          refine w_iastk hC 127 k dX4_begin_26 hr sr (by omega) (by omega) ?_
          refine w_inc1 hC dX4_begin_27 hN (by first | rfl | assumption) (ri_mk (by omega) (by omega)) ?_
          refine v_goto (tgt := 2) hC dX4_begin_30 rfl ?_
          exact ih2 _ (k + 1) (by omega) (by omega) (lt_s (fun q hq => by rw [up_pl _ _ (by omega)]; exact g1 q hq) (by rw [up_same]; first | rw [if_pos (by omega)] | rw [if_neg (by omega)])) (fun i2 k2 h => by rw [up_id _ _ h]; exact g2 i2 k2 h)
  exact lp2 128 w 0 (by omega) (by omega) (fun q h => by omega) (fun _ _ _ => rfl)

theorem d_power {d : Nat} {w : Wd} {Q : Option MV → Wd → Prop} {n : Int} (hn : n ≤ 6) (hQ : Q (some (.inl (10 ^ n.toNat))) w) : Call (d + 0) mX4_power [vI n] w Q := by
  refine call_in (ls := [some (vI n), none, none]) (by decide +kernel) rfl (Nat.le_of_ble_eq_true rfl) (fun κ hC hR hN => ?_)
  have hC : ctxB κ RX4 cX4_power (d + 0) := hC
  have hN : mlx κ 3 := hN
  refine w_ic hC dX4_power_0 rfl ?_
  refine w_is1 hC dX4_power_1 hN (by first | rfl | assumption) ?_
  refine w_ic hC dX4_power_2 rfl ?_
  refine w_is2 hC dX4_power_3 hN (by first | rfl | assumption) ?_
  have lp4 : ∀ (K : Nat) (v : Int) (k : Nat), (n.toNat - k) < K → (k ≤ n.toNat) → (v = 10 ^ k) → VV κ 4 [some (vI n), some (vI v), some (vI (k : Int))] [] w := by
    intro K
    induction K with
    | zero => intros; omega
    | succ K ih4 =>
      intro v k hm4 hk hv
      have hp : ∀ q, q ≤ 6 → (0 : Int) ≤ 10 ^ q ∧ (10 : Int) ^ q ≤ 1000000 := by decide
      have hpk := hp k (by omega)
      refine w_il2 hC dX4_power_4 ?_
      refine w_il0 hC dX4_power_5 ?_
      refine v_ic_ge (tgt := 20) hC dX4_power_6 rfl (fun h6 => ?_) (fun h6 => ?_)
      · refine w_il1 hC dX4_power_20 ?_
        refine v_iret hC hR dX4_power_21 ?_
        rw [hv, show k = n.toNat by omega]
        exact hQ
      · refine w_il1 hC dX4_power_9 ?_
        refine v_bipush hC dX4_power_10 (by decide) ?_
        refine w_imul hC dX4_power_12 (ri_mk (by omega) (by omega)) ?_
        refine w_is1 hC dX4_power_13 hN (by first | rfl | assumption) ?_
        refine w_inc2 hC dX4_power_14 hN (by first | rfl | assumption) (ri_mk (by omega) (by omega)) ?_
        refine v_goto (tgt := 4) hC dX4_power_17 rfl ?_
        exact ih4 _ (k + 1) (by omega) (by omega) (by rw [hv, Int.pow_succ])
  exact lp4 (n.toNat + 1) 1 0 (by omega) (by omega) rfl

theorem d_letterOf {d : Nat} {w : Wd} {Q : Option MV → Wd → Prop} {c n p : Int} (hc : 0 ≤ c) (hn : 0 ≤ n ∧ n ≤ 6) (hp : 0 ≤ p ∧ p ≤ 6) (hQ : Q (some (.inl (ltN c n p))) w) : Call (d + 1) mX4_letterOf [vI c, vI n, vI p] w Q := by
  refine call_in (ls := [some (vI c), some (vI n), some (vI p)]) (by decide +kernel) rfl (Nat.le_of_ble_eq_true rfl) (fun κ hC hR hN => ?_)
  have hC : ctxB κ RX4 cX4_letterOf (d + 1) := hC
  have hN : mlx κ 3 := hN
  refine w_il0 hC dX4_letterOf_0 ?_
  refine w_il1 hC dX4_letterOf_1 ?_
  refine w_ic hC dX4_letterOf_2 rfl ?_
  refine w_isub hC dX4_letterOf_3 (ri_mk (by omega) (by omega)) ?_
  refine w_il2 hC dX4_letterOf_4 ?_
  refine w_isub hC dX4_letterOf_5 (ri_mk (by omega) (by omega)) ?_
  refine w_st1 hC st_X4_57 dX4_letterOf_6 rfl hN (d_power (by omega) ?_)
  have hpw : (0 : Int) < 10 ^ (n - 1 - p).toNat := Int.pow_pos (by decide)
  have hdv := Int.ediv_nonneg hc (Int.le_of_lt hpw)
  refine v_idiv_n hC hc hpw dX4_letterOf_9 ?_
  refine v_bipush hC dX4_letterOf_10 (by decide) ?_
  refine v_irem_n hC (by omega) (by omega) dX4_letterOf_12 ?_
  refine v_iret hC hR dX4_letterOf_13 ?_
  exact hQ

theorem d_isWord {d : Nat} {w : Wd} {Q : Option MV → Wd → Prop} (hA : AOK (w 40)) {n : Int} (ht : 0 ≤ n ∧ n < w 40 3 → Q (some (.inl 1)) w) (hf : ¬ (0 ≤ n ∧ n < w 40 3) → Q (some (.inl 0)) w) : Call (d + 1) mX4_isWord [vR 39, vI n] w Q := by
  have am := hA.m
  have an := hA.n
  refine call_in (ls := [some (vR 39), some (vI n)]) (by decide +kernel) rfl (Nat.le_of_ble_eq_true rfl) (fun κ hC hR hN => ?_)
  have hC : ctxB κ RX4 cX4_isWord (d + 1) := hC
  have hN : mlx κ 2 := hN
  refine w_il1 hC dX4_isWord_0 ?_
  refine w_ic hC dX4_isWord_1 rfl ?_
  refine w_al0 hC dX4_isWord_2 ?_
  refine v_getR (off := 1) (j := 40) hC dX4_isWord_3 fd_X4_7 rfl rfl rfl ?_
  refine w_ic hC dX4_isWord_6 rfl ?_
  refine w_ialdk hC 127 (3) dX4_isWord_7 rfl rfl (by omega) (by omega) ?_
  refine w_ic hC dX4_isWord_8 rfl ?_
  refine w_isub hC dX4_isWord_9 (ri_mk (by omega) (by omega)) ?_
  refine w_st3 hC st_X4_53 dX4_isWord_10 rfl hN (d_in (fun h => ?_) (fun h => ?_))
  · refine v_zret hC hR dX4_isWord_13 (by first | decide | omega) ?_
    first | exact ht (by omega) | exact hf (by omega)
  · refine v_zret hC hR dX4_isWord_13 (by first | decide | omega) ?_
    first | exact ht (by omega) | exact hf (by omega)

theorem d_isLine {d : Nat} {w : Wd} {Q : Option MV → Wd → Prop} (hA : AOK (w 40)) {n : Int} (ht : 0 ≤ n ∧ n < w 40 1 → Q (some (.inl 1)) w) (hf : ¬ (0 ≤ n ∧ n < w 40 1) → Q (some (.inl 0)) w) : Call (d + 1) mX4_isLine [vR 39, vI n] w Q := by
  have am := hA.m
  have an := hA.n
  refine call_in (ls := [some (vR 39), some (vI n)]) (by decide +kernel) rfl (Nat.le_of_ble_eq_true rfl) (fun κ hC hR hN => ?_)
  have hC : ctxB κ RX4 cX4_isLine (d + 1) := hC
  have hN : mlx κ 2 := hN
  refine w_il1 hC dX4_isLine_0 ?_
  refine w_ic hC dX4_isLine_1 rfl ?_
  refine w_al0 hC dX4_isLine_2 ?_
  refine v_getR (off := 1) (j := 40) hC dX4_isLine_3 fd_X4_7 rfl rfl rfl ?_
  refine w_ic hC dX4_isLine_6 rfl ?_
  refine w_ialdk hC 127 (1) dX4_isLine_7 rfl rfl (by omega) (by omega) ?_
  refine w_ic hC dX4_isLine_8 rfl ?_
  refine w_isub hC dX4_isLine_9 (ri_mk (by omega) (by omega)) ?_
  refine w_st3 hC st_X4_53 dX4_isLine_10 rfl hN (d_in (fun h => ?_) (fun h => ?_))
  · refine v_zret hC hR dX4_isLine_13 (by first | decide | omega) ?_
    first | exact ht (by omega) | exact hf (by omega)
  · refine v_zret hC hR dX4_isLine_13 (by first | decide | omega) ?_
    first | exact ht (by omega) | exact hf (by omega)

theorem d_placeBy {d : Nat} {w : Wd} {Q : Option MV → Wd → Prop} {f n j : Int} (hn : 1 ≤ n ∧ n ≤ 6) (hj : 0 ≤ j ∧ j ≤ 6) (hQ : Q (some (.inl (plN f n j))) w) : Call (d + 0) mX4_placeBy [vI f, vI n, vI j] w Q := by
  have hm1 := Int.emod_nonneg j (show n ≠ 0 by omega)
  have hm2 := Int.emod_lt_of_pos j (show 0 < n by omega)
  refine call_in (ls := [some (vI f), some (vI n), some (vI j)]) (by decide +kernel) rfl (Nat.le_of_ble_eq_true rfl) (fun κ hC hR hN => ?_)
  have hC : ctxB κ RX4 cX4_placeBy (d + 0) := hC
  have hN : mlx κ 3 := hN
  refine w_il0 hC dX4_placeBy_0 ?_
  by_cases hs1 : f = 1
  · refine v_tsAt hC 1 (tgt := 36) hs1 dX4_placeBy_1 rfl rfl rfl ?_
    refine w_il1 hC dX4_placeBy_36 ?_
    refine w_ic hC dX4_placeBy_37 rfl ?_
    refine w_isub hC dX4_placeBy_38 (ri_mk (by omega) (by omega)) ?_
    refine v_iret hC hR dX4_placeBy_39 ?_
    exact qz (by unfold plN; (repeat' split) <;> omega) hQ
  by_cases hs2 : f = 2
  · refine v_tsAt hC 2 (tgt := 40) hs2 dX4_placeBy_1 rfl rfl rfl ?_
    refine w_il1 hC dX4_placeBy_40 ?_
    refine w_ic hC dX4_placeBy_41 rfl ?_
    refine v_idiv_n hC (by omega) (by omega) dX4_placeBy_42 ?_
    refine v_iret hC hR dX4_placeBy_43 ?_
    exact qz (by unfold plN; (repeat' split) <;> omega) hQ
  by_cases hs3 : f = 3
  · refine v_tsAt hC 3 (tgt := 44) hs3 dX4_placeBy_1 rfl rfl rfl ?_
    refine w_il2 hC dX4_placeBy_44 ?_
    refine w_il1 hC dX4_placeBy_45 ?_
    refine v_irem_n hC (by omega) (by omega) dX4_placeBy_46 ?_
    refine v_iret hC hR dX4_placeBy_47 ?_
    exact qz (by unfold plN; (repeat' split) <;> omega) hQ
  by_cases hs4 : f = 4
  · refine v_tsAt hC 4 (tgt := 48) hs4 dX4_placeBy_1 rfl rfl rfl ?_
    refine w_il1 hC dX4_placeBy_48 ?_
    refine w_ic hC dX4_placeBy_49 rfl ?_
    refine w_isub hC dX4_placeBy_50 (ri_mk (by omega) (by omega)) ?_
    refine w_il2 hC dX4_placeBy_51 ?_
    refine w_il1 hC dX4_placeBy_52 ?_
    refine v_irem_n hC (by omega) (by omega) dX4_placeBy_53 ?_
    refine w_isub hC dX4_placeBy_54 (ri_mk (by omega) (by omega)) ?_
    refine v_iret hC hR dX4_placeBy_55 ?_
    exact qz (by unfold plN; (repeat' split) <;> omega) hQ
  by_cases hs5 : f = 5
  · refine v_tsAt hC 5 (tgt := 56) hs5 dX4_placeBy_1 rfl rfl rfl ?_
    refine w_il2 hC dX4_placeBy_56 ?_
    refine w_ic hC dX4_placeBy_57 rfl ?_
    refine v_irem_n hC (by omega) (by omega) dX4_placeBy_58 ?_
    refine w_ic hC dX4_placeBy_59 rfl ?_
    refine v_ic_ne (tgt := 69) hC dX4_placeBy_60 rfl (fun h60 => ?_) (fun h60 => ?_)
    · refine w_ic hC dX4_placeBy_69 rfl ?_
      refine v_iret hC hR dX4_placeBy_70 ?_
      exact qz (by unfold plN; (repeat' split) <;> omega) hQ
    · refine w_il1 hC dX4_placeBy_63 ?_
      refine w_ic hC dX4_placeBy_64 rfl ?_
      refine w_isub hC dX4_placeBy_65 (ri_mk (by omega) (by omega)) ?_
      refine v_goto (tgt := 70) hC dX4_placeBy_66 rfl ?_
      refine v_iret hC hR dX4_placeBy_70 ?_
      exact qz (by unfold plN; (repeat' split) <;> omega) hQ
  refine v_tsOut (tgt := 71) hC dX4_placeBy_1 (by omega) rfl ?_
  refine w_ic hC dX4_placeBy_71 rfl ?_
  refine v_iret hC hR dX4_placeBy_72 ?_
  exact qz (by unfold plN; (repeat' split) <;> omega) hQ

theorem d_costBy {d : Nat} {w : Wd} {Q : Option MV → Wd → Prop} {k n j : Int} (hn : 0 ≤ n ∧ n ≤ 6) (hj : 0 ≤ j ∧ j ≤ 6) (hQ : Q (some (.inl (coN k n j))) w) : Call (d + 0) mX4_costBy [vI k, vI n, vI j] w Q := by
  refine call_in (ls := [some (vI k), some (vI n), some (vI j)]) (by decide +kernel) rfl (Nat.le_of_ble_eq_true rfl) (fun κ hC hR hN => ?_)
  have hC : ctxB κ RX4 cX4_costBy (d + 0) := hC
  have hN : mlx κ 3 := hN
  refine w_il0 hC dX4_costBy_0 ?_
  by_cases hs1 : k = 1
  · refine v_tsAt hC 1 (tgt := 36) hs1 dX4_costBy_1 rfl rfl rfl ?_
    refine w_il1 hC dX4_costBy_36 ?_
    refine w_ic hC dX4_costBy_37 rfl ?_
    refine w_iadd hC dX4_costBy_38 (ri_mk (by omega) (by omega)) ?_
    refine v_iret hC hR dX4_costBy_39 ?_
    exact qz (by unfold coN; (repeat' split) <;> omega) hQ
  by_cases hs2 : k = 2
  · refine v_tsAt hC 2 (tgt := 40) hs2 dX4_costBy_1 rfl rfl rfl ?_
    refine w_il1 hC dX4_costBy_40 ?_
    refine w_ic hC dX4_costBy_41 rfl ?_
    refine w_iadd hC dX4_costBy_42 (ri_mk (by omega) (by omega)) ?_
    refine w_ic hC dX4_costBy_43 rfl ?_
    refine v_idiv_n hC (by omega) (by omega) dX4_costBy_44 ?_
    refine v_iret hC hR dX4_costBy_45 ?_
    exact qz (by unfold coN; (repeat' split) <;> omega) hQ
  by_cases hs3 : k = 3
  · refine v_tsAt hC 3 (tgt := 46) hs3 dX4_costBy_1 rfl rfl rfl ?_
    refine w_il1 hC dX4_costBy_46 ?_
    refine w_il2 hC dX4_costBy_47 ?_
    refine w_iadd hC dX4_costBy_48 (ri_mk (by omega) (by omega)) ?_
    refine v_iret hC hR dX4_costBy_49 ?_
    exact qz (by unfold coN; (repeat' split) <;> omega) hQ
  by_cases hs4 : k = 4
  · refine v_tsAt hC 4 (tgt := 50) hs4 dX4_costBy_1 rfl rfl rfl ?_
    refine w_il2 hC dX4_costBy_50 ?_
    refine v_if_ne (tgt := 58) hC dX4_costBy_51 rfl (fun h51 => ?_) (fun h51 => ?_)
    · refine w_il1 hC dX4_costBy_58 ?_
      refine w_ic hC dX4_costBy_59 rfl ?_
      refine w_iadd hC dX4_costBy_60 (ri_mk (by omega) (by omega)) ?_
      refine v_iret hC hR dX4_costBy_61 ?_
      exact qz (by unfold coN; (repeat' split) <;> omega) hQ
    · refine w_ic hC dX4_costBy_54 rfl ?_
      refine v_goto (tgt := 61) hC dX4_costBy_55 rfl ?_
      refine v_iret hC hR dX4_costBy_61 ?_
      exact qz (by unfold coN; (repeat' split) <;> omega) hQ
  by_cases hs5 : k = 5
  · refine v_tsAt hC 5 (tgt := 62) hs5 dX4_costBy_1 rfl rfl rfl ?_
    refine w_il1 hC dX4_costBy_62 ?_
    refine w_ic hC dX4_costBy_63 rfl ?_
    refine w_iadd hC dX4_costBy_64 (ri_mk (by omega) (by omega)) ?_
    refine w_ic hC dX4_costBy_65 rfl ?_
    refine v_idiv_n hC (by omega) (by omega) dX4_costBy_66 ?_
    refine w_il2 hC dX4_costBy_67 ?_
    refine w_ic hC dX4_costBy_68 rfl ?_
    refine v_ic_lt (tgt := 76) hC dX4_costBy_69 rfl (fun h69 => ?_) (fun h69 => ?_)
    · refine w_ic hC dX4_costBy_76 rfl ?_
      refine w_iadd hC dX4_costBy_77 (ri_mk (by omega) (by omega)) ?_
      refine v_iret hC hR dX4_costBy_78 ?_
      exact qz (by unfold coN; (repeat' split) <;> omega) hQ
    · refine w_ic hC dX4_costBy_72 rfl ?_
      refine v_goto (tgt := 77) hC dX4_costBy_73 rfl ?_
      refine w_iadd hC dX4_costBy_77 (ri_mk (by omega) (by omega)) ?_
      refine v_iret hC hR dX4_costBy_78 ?_
      exact qz (by unfold coN; (repeat' split) <;> omega) hQ
  refine v_tsOut (tgt := 79) hC dX4_costBy_1 (by omega) rfl ?_
  refine w_il1 hC dX4_costBy_79 ?_
  refine v_iret hC hR dX4_costBy_80 ?_
  exact qz (by unfold coN; (repeat' split) <;> omega) hQ

theorem d_cost {d : Nat} {w : Wd} {Q : Option MV → Wd → Prop} (hA : AOK (w 40)) {n j : Int} (hn : 0 ≤ n ∧ n < w 40 3) (hj : 0 ≤ j ∧ j ≤ 5) (hQ : Q (some (.inl (csB (w 40) n j))) w) : Call (d + 1) mX4_cost [vR 39, vI n, vI j] w Q := by
  have am := hA.m
  have an := hA.n
  have hwd := hA.wd (k := n.toNat) (by omega)
  have hcd := hA.cd (k := n.toNat) (by omega)
  refine call_in (ls := [some (vR 39), some (vI n), some (vI j)]) (by decide +kernel) rfl (Nat.le_of_ble_eq_true rfl) (fun κ hC hR hN => ?_)
  have hC : ctxB κ RX4 cX4_cost (d + 1) := hC
  have hN : mlx κ 3 := hN
  refine w_al0 hC dX4_cost_0 ?_
  refine v_getR (off := 1) (j := 40) hC dX4_cost_1 fd_X4_7 rfl rfl rfl ?_
  refine w_ic hC dX4_cost_4 rfl ?_
  refine w_il1 hC dX4_cost_5 ?_
  refine w_iadd hC dX4_cost_6 (ri_mk (by omega) (by omega)) ?_
  refine w_ialdk hC 127 (4 + n.toNat) dX4_cost_7 rfl rfl (by omega) (by omega) ?_
  refine w_al0 hC dX4_cost_8 ?_
  refine v_getR (off := 1) (j := 40) hC dX4_cost_9 fd_X4_7 rfl rfl rfl ?_
  refine v_bipush hC dX4_cost_12 (by decide) ?_
  refine w_il1 hC dX4_cost_14 ?_
  refine w_iadd hC dX4_cost_15 (ri_mk (by omega) (by omega)) ?_
  refine w_ialdk hC 127 (12 + n.toNat) dX4_cost_16 rfl rfl (by omega) (by omega) ?_
  refine w_il2 hC dX4_cost_17 ?_
  refine w_st3 hC st_X4_152 dX4_cost_18 rfl hN (d_costBy ⟨by omega, by omega⟩ ⟨by omega, by omega⟩ ?_)
  refine v_iret hC hR dX4_cost_21 ?_
  exact hQ

theorem d_counting {d : Nat} {w : Wd} {Q : Option MV → Wd → Prop} (hA : AOK (w 40)) {f n j : Int} (hn : 0 ≤ n ∧ n < w 40 3) (hj : 0 ≤ j ∧ j ≤ 5) (hQ : Q (some (.inl (lBy (w 40) f n j))) w) : Call (d + 2) mX4_counting [vR 39, vI f, vI n, vI j] w Q := by
  have am := hA.m
  have an := hA.n
  have hwd := hA.wd (k := n.toNat) (by omega)
  have hcd := hA.cd (k := n.toNat) (by omega)
  have hpl := plN_r (f := f) (n := w 40 (12 + n.toNat)) (j := j) (by omega) hj.1
  refine call_in (ls := [some (vR 39), some (vI f), some (vI n), some (vI j)]) (by decide +kernel) rfl (Nat.le_of_ble_eq_true rfl) (fun κ hC hR hN => ?_)
  have hC : ctxB κ RX4 cX4_counting (d + 2) := hC
  have hN : mlx κ 4 := hN
  refine w_al0 hC dX4_counting_0 ?_
  refine v_getR (off := 1) (j := 40) hC dX4_counting_1 fd_X4_7 rfl rfl rfl ?_
  refine v_bipush hC dX4_counting_4 (by decide) ?_
  refine w_il2 hC dX4_counting_6 ?_
  refine w_iadd hC dX4_counting_7 (ri_mk (by omega) (by omega)) ?_
  refine w_ialdk hC 127 (20 + n.toNat) dX4_counting_8 rfl rfl (by omega) (by omega) ?_
  refine w_al0 hC dX4_counting_9 ?_
  refine v_getR (off := 1) (j := 40) hC dX4_counting_10 fd_X4_7 rfl rfl rfl ?_
  refine v_bipush hC dX4_counting_13 (by decide) ?_
  refine w_il2 hC dX4_counting_15 ?_
  refine w_iadd hC dX4_counting_16 (ri_mk (by omega) (by omega)) ?_
  refine w_ialdk hC 127 (12 + n.toNat) dX4_counting_17 rfl rfl (by omega) (by omega) ?_
  refine w_il1 hC dX4_counting_18 ?_
  refine w_al0 hC dX4_counting_19 ?_
  refine v_getR (off := 1) (j := 40) hC dX4_counting_20 fd_X4_7 rfl rfl rfl ?_
  refine v_bipush hC dX4_counting_23 (by decide) ?_
  refine w_il2 hC dX4_counting_25 ?_
  refine w_iadd hC dX4_counting_26 (ri_mk (by omega) (by omega)) ?_
  refine w_ialdk hC 127 (12 + n.toNat) dX4_counting_27 rfl rfl (by omega) (by omega) ?_
  refine w_il3 hC dX4_counting_28 ?_
  refine w_st3 hC st_X4_156 dX4_counting_29 rfl hN (d_placeBy ⟨by omega, by omega⟩ ⟨by omega, by omega⟩ ?_)
  refine w_st3 hC st_X4_159 dX4_counting_32 rfl hN (d_letterOf hcd.1 ⟨by omega, by omega⟩ ⟨by omega, by omega⟩ ?_)
  refine v_iret hC hR dX4_counting_35 ?_
  exact hQ

theorem d_targetAt {d : Nat} {w : Wd} {Q : Option MV → Wd → Prop} (hA : AOK (w 40)) {j : Int} (hj : 0 ≤ j ∧ j ≤ 5) (hQ : Q (some (.inl (tgL (w 40) j))) w) : Call (d + 2) mX4_targetAt [vR 39, vI j] w Q := by
  have am := hA.m
  have an := hA.n
  refine call_in (ls := [some (vR 39), some (vI j)]) (by decide +kernel) rfl (Nat.le_of_ble_eq_true rfl) (fun κ hC hR hN => ?_)
  have hC : ctxB κ RX4 cX4_targetAt (d + 2) := hC
  have hN : mlx κ 2 := hN
  refine w_al0 hC dX4_targetAt_0 ?_
  refine v_getR (off := 1) (j := 40) hC dX4_targetAt_1 fd_X4_7 rfl rfl rfl ?_
  refine w_ic hC dX4_targetAt_4 rfl ?_
  refine w_ialdk hC 127 (2) dX4_targetAt_5 rfl rfl (by omega) (by omega) ?_
  refine w_al0 hC dX4_targetAt_6 ?_
  refine v_getR (off := 1) (j := 40) hC dX4_targetAt_7 fd_X4_7 rfl rfl rfl ?_
  refine w_ic hC dX4_targetAt_10 rfl ?_
  refine w_ialdk hC 127 (1) dX4_targetAt_11 rfl rfl (by omega) (by omega) ?_
  refine w_il1 hC dX4_targetAt_12 ?_
  refine w_st3 hC st_X4_159 dX4_targetAt_13 rfl hN (d_letterOf hA.tg.1 ⟨by omega, by omega⟩ ⟨by omega, by omega⟩ ?_)
  refine v_iret hC hR dX4_targetAt_16 ?_
  exact hQ

theorem d_isFit {d : Nat} {w : Wd} {Q : Option MV → Wd → Prop} (hA : AOK (w 40)) {f n j : Int} (hn : 0 ≤ n ∧ n < w 40 3) (hj : 0 ≤ j ∧ j ≤ 5) (ht : fitB (w 40) f n j → Q (some (.inl 1)) w) (hf : ¬ fitB (w 40) f n j → Q (some (.inl 0)) w) : Call (d + 3) mX4_isFit [vR 39, vI f, vI n, vI j] w Q := by
  refine call_in (ls := [some (vR 39), some (vI f), some (vI n), some (vI j)]) (by decide +kernel) rfl (Nat.le_of_ble_eq_true rfl) (fun κ hC hR hN => ?_)
  have hC : ctxB κ RX4 cX4_isFit (d + 3) := hC
  have hN : mlx κ 4 := hN
  refine w_al0 hC dX4_isFit_0 ?_
  refine w_il1 hC dX4_isFit_1 ?_
  refine w_il2 hC dX4_isFit_2 ?_
  refine w_il3 hC dX4_isFit_3 ?_
  refine w_vi3 hC vi_X4_162 rfl dX4_isFit_4 rfl hN (d_counting hA hn hj ?_)
  refine w_al0 hC dX4_isFit_7 ?_
  refine w_il3 hC dX4_isFit_8 ?_
  refine w_vi1 hC vi_X4_165 rfl dX4_isFit_9 rfl hN (d_targetAt hA hj ?_)
  refine v_ic_ne (tgt := 19) hC dX4_isFit_12 rfl (fun h12 => ?_) (fun h12 => ?_)
  · refine w_ic hC dX4_isFit_19 rfl ?_
    refine v_zret hC hR dX4_isFit_20 (by first | decide | omega) ?_
    first | exact ht h12 | exact hf h12
  · refine w_ic hC dX4_isFit_15 rfl ?_
    refine v_goto (tgt := 20) hC dX4_isFit_16 rfl ?_
    refine v_zret hC hR dX4_isFit_20 (by first | decide | omega) ?_
    first | exact ht h12 | exact hf h12

/-- right ones among lines that hold these words -/
def isG (a g : Nat → Int) (j : Nat) : Prop := g j ≠ -1 ∧ fitB a (a 0) (g j) j
def isGb (a g : Nat → Int) (j : Nat) : Bool := decide (g j ≠ -1) && decide (lBy a (a 0) (g j) j = tgL a j)
theorem isGb_iff {a g : Nat → Int} {j : Nat} : isGb a g j = true ↔ isG a g j := by unfold isGb; simp only [Bool.and_eq_true, decide_eq_true_eq]; exact Iff.rfl
def rtG (a g : Nat → Int) : Int := sumN (fun j => if isGb a g j then 1 else 0) (a 1).toNat

theorem d_isRight {d : Nat} {w : Wd} {Q : Option MV → Wd → Prop} (hA : AOK (w 40)) {r f j : Nat} (hk : kdT r = 5) (hs : f + j < szT r) (hj : j ≤ 5) (hg : -1 ≤ w r (f + j) ∧ w r (f + j) < w 40 3) (ht : isG (w 40) (fun j => w r (f + j)) j → Q (some (.inl 1)) w) (hf : ¬ isG (w 40) (fun j => w r (f + j)) j → Q (some (.inl 0)) w) : Call (d + 4) mX4_isRight [vR 39, vR r, vI (f : Int), vI (j : Int)] w Q := by
  have am := hA.m
  have an := hA.n
  have hz : ∀ i, i < 50 → szT i ≤ 1792 := by decide +kernel
  have hzr := hz r (kdT_lt (by omega))
  refine call_in (ls := [some (vR 39), some (vR r), some (vI (f : Int)), some (vI (j : Int)), none]) (by decide +kernel) rfl (Nat.le_of_ble_eq_true rfl) (fun κ hC hR hN => ?_)
  have hC : ctxB κ RX4 cX4_isRight (d + 4) := hC
  have hN : mlx κ 5 := hN
  refine w_al1 hC dX4_isRight_0 ?_
  refine w_il2 hC dX4_isRight_1 ?_
  refine w_il3 hC dX4_isRight_2 ?_
  refine w_iadd hC dX4_isRight_3 (ri_mk (by omega) (by omega)) ?_
  refine w_ialdk hC _ (f + j) dX4_isRight_4 hk rfl (by omega) hs ?_
  refine w_is4 hC dX4_isRight_5 hN (by first | rfl | assumption) ?_
  refine w_il4 hC dX4_isRight_7 ?_
  refine w_ic hC dX4_isRight_9 rfl ?_
  refine v_ic_eq (tgt := 33) hC dX4_isRight_10 rfl (fun h10 => ?_) (fun h10 => ?_)
  · refine w_ic hC dX4_isRight_33 rfl ?_
    refine v_zret hC hR dX4_isRight_34 (by first | decide | omega) ?_
    first | exact ht ⟨h10, h⟩ | exact hf (fun q => q.1 h10) | exact hf (fun q => h q.2)
  · refine w_al0 hC dX4_isRight_13 ?_
    refine w_al0 hC dX4_isRight_14 ?_
    refine v_getR (off := 1) (j := 40) hC dX4_isRight_15 fd_X4_7 rfl rfl rfl ?_
    refine w_ic hC dX4_isRight_18 rfl ?_
    refine w_ialdk hC 127 (0) dX4_isRight_19 rfl rfl (by omega) (by omega) ?_
    refine w_il4 hC dX4_isRight_20 ?_
    refine w_il3 hC dX4_isRight_22 ?_
    refine w_vi3 hC vi_X4_168 rfl dX4_isRight_23 rfl hN (d_isFit hA (by omega) ⟨by omega, by omega⟩ (fun h => ?_) (fun h => ?_))
    · refine v_if_eq (tgt := 33) hC dX4_isRight_26 rfl (fun h => absurd h (by decide)) (fun _ => ?_)
      refine w_ic hC dX4_isRight_29 rfl ?_
      refine v_goto (tgt := 34) hC dX4_isRight_30 rfl ?_
      refine v_zret hC hR dX4_isRight_34 (by first | decide | omega) ?_
      first | exact ht ⟨h10, h⟩ | exact hf (fun q => q.1 h10) | exact hf (fun q => h q.2)
    · refine v_if_eq (tgt := 33) hC dX4_isRight_26 rfl (fun _ => ?_) (fun h => absurd h (by decide))
      refine w_ic hC dX4_isRight_33 rfl ?_
      refine v_zret hC hR dX4_isRight_34 (by first | decide | omega) ?_
      first | exact ht ⟨h10, h⟩ | exact hf (fun q => q.1 h10) | exact hf (fun q => h q.2)

theorem d_rightOnes {d : Nat} {w : Wd} {Q : Option MV → Wd → Prop} (hA : AOK (w 40)) {r f : Nat} (hk : kdT r = 5) (hs : f + 6 ≤ szT r) (hg : ∀ j : Nat, (j : Int) < w 40 1 → -1 ≤ w r (f + j) ∧ w r (f + j) < w 40 3) (hQ : Q (some (.inl (rtG (w 40) (fun j => w r (f + j))))) w) : Call (d + 5) mX4_rightOnes [vR 39, vR r, vI (f : Int)] w Q := by
  have am := hA.m
  have an := hA.n
  refine call_in (ls := [some (vR 39), some (vR r), some (vI (f : Int)), none, none]) (by decide +kernel) rfl (Nat.le_of_ble_eq_true rfl) (fun κ hC hR hN => ?_)
  have hC : ctxB κ RX4 cX4_rightOnes (d + 5) := hC
  have hN : mlx κ 5 := hN
  refine w_ic hC dX4_rightOnes_0 rfl ?_
  refine w_is3 hC dX4_rightOnes_1 hN (by first | rfl | assumption) ?_
  refine w_ic hC dX4_rightOnes_2 rfl ?_
  refine w_is4 hC dX4_rightOnes_3 hN (by first | rfl | assumption) ?_
  have lp5 : ∀ (K : Nat) (s : Int) (j : Nat), ((w 40 1).toNat - j) < K → ((j : Int) ≤ w 40 1) → (s = sumN (fun j => if isGb (w 40) (fun j => w r (f + j)) j then 1 else 0) j) → VV κ 5 [some (vR 39), some (vR r), some (vI (f : Int)), some (vI s), some (vI (j : Int))] [] w := by
    intro K
    induction K with
    | zero => intros; omega
    | succ K ih5 =>
      intro s j hm5 hj hsum
      have hr := sumN_r (f := (fun j => if isGb (w 40) (fun j => w r (f + j)) j then 1 else 0)) (c := 1) j (fun i hi => (by split <;> omega))
      refine w_il4 hC dX4_rightOnes_5 ?_
      refine w_al0 hC dX4_rightOnes_7 ?_
      refine v_getR (off := 1) (j := 40) hC dX4_rightOnes_8 fd_X4_7 rfl rfl rfl ?_
      refine w_ic hC dX4_rightOnes_11 rfl ?_
      refine w_ialdk hC 127 (1) dX4_rightOnes_12 rfl rfl (by omega) (by omega) ?_
      refine v_ic_ge (tgt := 41) hC dX4_rightOnes_13 rfl (fun h13 => ?_) (fun h13 => ?_)
      · refine w_il3 hC dX4_rightOnes_41 ?_
        refine v_iret hC hR dX4_rightOnes_42 ?_
        rw [show rtG (w 40) (fun j => w r (f + j)) = s by rw [hsum]; unfold rtG; congr 1; omega] at hQ
        exact hQ
      · refine w_il3 hC dX4_rightOnes_16 ?_
        refine w_al0 hC dX4_rightOnes_17 ?_
        refine w_al1 hC dX4_rightOnes_18 ?_
        refine w_il2 hC dX4_rightOnes_19 ?_
        refine w_il4 hC dX4_rightOnes_20 ?_
        refine w_vi3 hC vi_X4_171 rfl dX4_rightOnes_22 rfl hN (d_isRight hA hk (by omega) (by omega) (hg j (by omega)) (fun h => ?_) (fun h => ?_))
        · refine v_if_eq (tgt := 32) hC dX4_rightOnes_25 rfl (fun h => absurd h (by decide)) (fun _ => ?_)
          refine w_ic hC dX4_rightOnes_28 rfl ?_
          refine v_goto (tgt := 33) hC dX4_rightOnes_29 rfl ?_
          refine w_iadd hC dX4_rightOnes_33 (ri_mk (by omega) (by omega)) ?_
          refine w_is3 hC dX4_rightOnes_34 hN (by first | rfl | assumption) ?_
          refine w_inc4 hC dX4_rightOnes_35 hN (by first | rfl | assumption) (ri_mk (by omega) (by omega)) ?_
          refine v_goto (tgt := 5) hC dX4_rightOnes_38 rfl ?_
          exact ih5 _ (j + 1) (by omega) (by omega) (sumN_s hsum (by simp [isGb_iff, h]))
        · refine v_if_eq (tgt := 32) hC dX4_rightOnes_25 rfl (fun _ => ?_) (fun h => absurd h (by decide))
          refine w_ic hC dX4_rightOnes_32 rfl ?_
          refine w_iadd hC dX4_rightOnes_33 (ri_mk (by omega) (by omega)) ?_
          refine w_is3 hC dX4_rightOnes_34 hN (by first | rfl | assumption) ?_
          refine w_inc4 hC dX4_rightOnes_35 hN (by first | rfl | assumption) (ri_mk (by omega) (by omega)) ?_
          refine v_goto (tgt := 5) hC dX4_rightOnes_38 rfl ?_
          exact ih5 _ (j + 1) (by omega) (by omega) (sumN_s hsum (by simp [isGb_iff, h]))
  exact lp5 ((w 40 1).toNat + 1) 0 0 (by omega) (by omega) rfl

/-- a word's line: the last one that holds it -/
def lnL (a : Nat → Int) (wd : Int) : Nat → Int
  | 0 => -1
  | j + 1 => if a (28 + j) = wd then (j : Int) else lnL a wd j
theorem lnL_r (a : Nat → Int) (wd : Int) (j : Nat) : -1 ≤ lnL a wd j ∧ lnL a wd j < j := by
  induction j with
  | zero => exact ⟨Int.le_refl _, show (-1 : Int) < ((0 : Nat) : Int) by decide⟩
  | succ j ih =>
    show -1 ≤ (if _ then _ else _) ∧ (if _ then _ else _) < _
    split <;> omega
/-- in order, it is the first one, too -/
theorem lnL_eq {a : Nat → Int} (hA : AOK a) {wd : Int} (hw : 0 ≤ wd) : lnL a wd (a 1).toNat = lnOf a wd := by
  have hm := hA.m
  have key : ∀ n : Nat, (n : Int) ≤ a 1 → (lnL a wd n = -1 ∧ ∀ i, i < n → ¬ a (28 + i) = wd) ∨ ∃ j, j < n ∧ lnL a wd n = (j : Int) ∧ a (28 + j) = wd := by
    intro n
    induction n with
    | zero => intro _; exact Or.inl ⟨rfl, fun i h => by omega⟩
    | succ n ih =>
      intro hn
      by_cases h : a (28 + n) = wd
      · exact Or.inr ⟨n, by omega, if_pos h, h⟩
      · have e : lnL a wd (n + 1) = lnL a wd n := if_neg h
        rcases ih (by omega) with ⟨h1, h2⟩ | ⟨j, h1, h2, h3⟩
        · exact Or.inl ⟨e.trans h1, lt_s h2 h⟩
        · exact Or.inr ⟨j, by omega, e.trans h2, h3⟩
  rcases key (a 1).toNat (by omega) with ⟨h1, h2⟩ | ⟨j, h1, h2, h3⟩
  · rw [h1, show lnOf a wd = -1 from fstI_no (fun i hi => by rw [wOn_n (by omega)]; exact h2 i hi)]
  · rw [h2, show lnOf a wd = (j : Int) from fstI_at h1 (by rw [wOn_n (by omega)]; exact h3) (fun i hi => by
      rw [wOn_n (by omega)]
      intro e
      have := hA.ln.2 i j (by omega) (by omega) (by show a (28 + i) = a (28 + j); rw [e, h3]) (by show a (28 + i) ≠ -1; omega)
      omega)]

theorem d_lineOf {d : Nat} {w : Wd} {Q : Option MV → Wd → Prop} {r : Nat} {wd : Int} (hr : kdT r = 5) (sr : szT r = 127) (hm : 1 ≤ w r 1 ∧ w r 1 ≤ 6) (hQ : Q (some (.inl (lnL (w r) wd (w r 1).toNat))) w) : Call (d + 0) mX4_lineOf [vR r, vI wd] w Q := by
  refine call_in (ls := [some (vR r), some (vI wd), none, none]) (by decide +kernel) rfl (Nat.le_of_ble_eq_true rfl) (fun κ hC hR hN => ?_)
  have hC : ctxB κ RX4 cX4_lineOf (d + 0) := hC
  have hN : mlx κ 4 := hN
  refine w_ic hC dX4_lineOf_0 rfl ?_
  refine w_is2 hC dX4_lineOf_1 hN (by first | rfl | assumption) ?_
  refine w_ic hC dX4_lineOf_2 rfl ?_
  refine w_is3 hC dX4_lineOf_3 hN (by first | rfl | assumption) ?_
  have lp4 : ∀ (K : Nat) (j : Nat), ((w r 1).toNat - j) < K → ((j : Int) ≤ w r 1) → VV κ 4 [some (vR r), some (vI wd), some (vI (lnL (w r) wd j)), some (vI (j : Int))] [] w := by
    intro K
    induction K with
    | zero => intros; omega
    | succ K ih4 =>
      intro j hm4 hj
      refine w_il3 hC dX4_lineOf_4 ?_
      refine w_al0 hC dX4_lineOf_5 ?_
      refine w_ic hC dX4_lineOf_6 rfl ?_
      refine w_ialdk hC 127 1 dX4_lineOf_7 hr sr (by omega) (by omega) ?_
      refine v_ic_ge (tgt := 33) hC dX4_lineOf_8 rfl (fun h8 => ?_) (fun h8 => ?_)
      · refine w_il2 hC dX4_lineOf_33 ?_
        refine v_iret hC hR dX4_lineOf_34 ?_
        rw [show j = (w r 1).toNat by omega]
        exact hQ
      · refine w_al0 hC dX4_lineOf_11 ?_
        refine v_bipush hC dX4_lineOf_12 (by decide) ?_
        refine w_il3 hC dX4_lineOf_14 ?_
        refine w_iadd hC dX4_lineOf_15 (ri_mk (by omega) (by omega)) ?_
        refine w_ialdk hC 127 (28 + j) dX4_lineOf_16 hr sr (by omega) (by omega) ?_
        refine w_il1 hC dX4_lineOf_17 ?_
        refine v_ic_ne (tgt := 25) hC dX4_lineOf_18 rfl (fun h18 => ?_) (fun h18 => ?_)
        · refine w_il2 hC dX4_lineOf_25 ?_
          refine w_is2 hC dX4_lineOf_26 hN (by first | rfl | assumption) ?_
          refine w_inc3 hC dX4_lineOf_27 hN (by first | rfl | assumption) (ri_mk (by omega) (by omega)) ?_
          refine v_goto (tgt := 4) hC dX4_lineOf_30 rfl ?_
          first | (have hs := ih4 (j + 1) (by omega) (by omega); rw [show lnL (w r) wd (j + 1) = lnL (w r) wd j from if_neg h18] at hs; exact hs) | (have hs := ih4 (j + 1) (by omega) (by omega); rw [show lnL (w r) wd (j + 1) = (j : Int) from if_pos h18] at hs; exact hs)
        · refine w_il3 hC dX4_lineOf_21 ?_
          refine v_goto (tgt := 26) hC dX4_lineOf_22 rfl ?_
          refine w_is2 hC dX4_lineOf_26 hN (by first | rfl | assumption) ?_
          refine w_inc3 hC dX4_lineOf_27 hN (by first | rfl | assumption) (ri_mk (by omega) (by omega)) ?_
          refine v_goto (tgt := 4) hC dX4_lineOf_30 rfl ?_
          first | (have hs := ih4 (j + 1) (by omega) (by omega); rw [show lnL (w r) wd (j + 1) = lnL (w r) wd j from if_neg h18] at hs; exact hs) | (have hs := ih4 (j + 1) (by omega) (by omega); rw [show lnL (w r) wd (j + 1) = (j : Int) from if_pos h18] at hs; exact hs)
  exact lp4 ((w r 1).toNat + 1) 0 (by omega) (by omega)

theorem d_isThere {d : Nat} {w : Wd} {Q : Option MV → Wd → Prop} {r : Nat} {n c : Int} (hr : kdT r = 5) (sr : szT r = 127) (hm : 0 ≤ w r 3 ∧ w r 3 ≤ 8) (ht : knB (w r) n c → Q (some (.inl 1)) w) (hf : ¬ knB (w r) n c → Q (some (.inl 0)) w) : Call (d + 0) mX4_isThere [vR r, vI n, vI c] w Q := by
  refine call_in (ls := [some (vR r), some (vI n), some (vI c), none, none]) (by decide +kernel) rfl (Nat.le_of_ble_eq_true rfl) (fun κ hC hR hN => ?_)
  have hC : ctxB κ RX4 cX4_isThere (d + 0) := hC
  have hN : mlx κ 5 := hN
  refine w_ic hC dX4_isThere_0 rfl ?_
  refine w_is3 hC dX4_isThere_1 hN (by first | rfl | assumption) ?_
  refine w_ic hC dX4_isThere_2 rfl ?_
  refine w_is4 hC dX4_isThere_3 hN (by first | rfl | assumption) ?_
  have lp5 : ∀ (K : Nat) (z : Int) (j : Nat), ((w r 3).toNat - j) < K → ((j : Int) ≤ w r 3) → ((z = 0 ∧ ∀ i, i < j → ¬ (w r (12 + i) = n ∧ w r (20 + i) = c)) ∨ (z = 1 ∧ ∃ i, i < j ∧ w r (12 + i) = n ∧ w r (20 + i) = c)) → VV κ 5 [some (vR r), some (vI n), some (vI c), some (vI z), some (vI (j : Int))] [] w := by
    intro K
    induction K with
    | zero => intros; omega
    | succ K ih5 =>
      intro z j hm5 hj hz
      refine w_il4 hC dX4_isThere_5 ?_
      refine w_al0 hC dX4_isThere_7 ?_
      refine w_ic hC dX4_isThere_8 rfl ?_
      refine w_ialdk hC 127 3 dX4_isThere_9 hr sr (by omega) (by omega) ?_
      refine v_ic_ge (tgt := 51) hC dX4_isThere_10 rfl (fun h10 => ?_) (fun h10 => ?_)
      · refine w_il3 hC dX4_isThere_51 ?_
        refine v_zret hC hR dX4_isThere_52 (by first | decide | omega) ?_
        rcases hz with ⟨rfl, h2⟩ | ⟨rfl, i, h1, h2⟩
        · exact hf (fun ⟨i, h3, h4⟩ => h2 i (by omega) h4)
        · exact ht ⟨i, by omega, h2⟩
      · refine w_il3 hC dX4_isThere_13 ?_
        refine v_if_ne (tgt := 39) hC dX4_isThere_14 rfl (fun h14 => ?_) (fun h14 => ?_)
        · refine w_ic hC dX4_isThere_39 rfl ?_
          refine v_goto (tgt := 44) hC dX4_isThere_40 rfl ?_
          refine w_is3 hC dX4_isThere_44 hN (by first | rfl | assumption) ?_
          refine w_inc4 hC dX4_isThere_45 hN (by first | rfl | assumption) (ri_mk (by omega) (by omega)) ?_
          refine v_goto (tgt := 5) hC dX4_isThere_48 rfl ?_
          first | exact ih5 1 (j + 1) (by omega) (by omega) (Or.inr ⟨rfl, j, by omega, h25, h36⟩) | exact ih5 0 (j + 1) (by omega) (by omega) (Or.inl ⟨rfl, lt_s (hz.resolve_right (fun q => by omega)).2 (fun q => h25 q.1)⟩) | exact ih5 0 (j + 1) (by omega) (by omega) (Or.inl ⟨rfl, lt_s (hz.resolve_right (fun q => by omega)).2 (fun q => h36 q.2)⟩) | exact ih5 1 (j + 1) (by omega) (by omega) (Or.inr ⟨rfl, (by obtain ⟨i, h1, h2⟩ := (hz.resolve_left (fun q => h14 q.1)).2; exact ⟨i, by omega, h2⟩)⟩)
        · refine w_al0 hC dX4_isThere_17 ?_
          refine v_bipush hC dX4_isThere_18 (by decide) ?_
          refine w_il4 hC dX4_isThere_20 ?_
          refine w_iadd hC dX4_isThere_22 (ri_mk (by omega) (by omega)) ?_
          refine w_ialdk hC 127 (12 + j) dX4_isThere_23 hr sr (by omega) (by omega) ?_
          refine w_il1 hC dX4_isThere_24 ?_
          refine v_ic_ne (tgt := 43) hC dX4_isThere_25 rfl (fun h25 => ?_) (fun h25 => ?_)
          · refine w_ic hC dX4_isThere_43 rfl ?_
            refine w_is3 hC dX4_isThere_44 hN (by first | rfl | assumption) ?_
            refine w_inc4 hC dX4_isThere_45 hN (by first | rfl | assumption) (ri_mk (by omega) (by omega)) ?_
            refine v_goto (tgt := 5) hC dX4_isThere_48 rfl ?_
            first | exact ih5 1 (j + 1) (by omega) (by omega) (Or.inr ⟨rfl, j, by omega, h25, h36⟩) | exact ih5 0 (j + 1) (by omega) (by omega) (Or.inl ⟨rfl, lt_s (hz.resolve_right (fun q => by omega)).2 (fun q => h25 q.1)⟩) | exact ih5 0 (j + 1) (by omega) (by omega) (Or.inl ⟨rfl, lt_s (hz.resolve_right (fun q => by omega)).2 (fun q => h36 q.2)⟩) | exact ih5 1 (j + 1) (by omega) (by omega) (Or.inr ⟨rfl, (by obtain ⟨i, h1, h2⟩ := (hz.resolve_left (fun q => h14 q.1)).2; exact ⟨i, by omega, h2⟩)⟩)
          · refine w_al0 hC dX4_isThere_28 ?_
            refine v_bipush hC dX4_isThere_29 (by decide) ?_
            refine w_il4 hC dX4_isThere_31 ?_
            refine w_iadd hC dX4_isThere_33 (ri_mk (by omega) (by omega)) ?_
            refine w_ialdk hC 127 (20 + j) dX4_isThere_34 hr sr (by omega) (by omega) ?_
            refine w_il2 hC dX4_isThere_35 ?_
            refine v_ic_ne (tgt := 43) hC dX4_isThere_36 rfl (fun h36 => ?_) (fun h36 => ?_)
            · refine w_ic hC dX4_isThere_43 rfl ?_
              refine w_is3 hC dX4_isThere_44 hN (by first | rfl | assumption) ?_
              refine w_inc4 hC dX4_isThere_45 hN (by first | rfl | assumption) (ri_mk (by omega) (by omega)) ?_
              refine v_goto (tgt := 5) hC dX4_isThere_48 rfl ?_
              first | exact ih5 1 (j + 1) (by omega) (by omega) (Or.inr ⟨rfl, j, by omega, h25, h36⟩) | exact ih5 0 (j + 1) (by omega) (by omega) (Or.inl ⟨rfl, lt_s (hz.resolve_right (fun q => by omega)).2 (fun q => h25 q.1)⟩) | exact ih5 0 (j + 1) (by omega) (by omega) (Or.inl ⟨rfl, lt_s (hz.resolve_right (fun q => by omega)).2 (fun q => h36 q.2)⟩) | exact ih5 1 (j + 1) (by omega) (by omega) (Or.inr ⟨rfl, (by obtain ⟨i, h1, h2⟩ := (hz.resolve_left (fun q => h14 q.1)).2; exact ⟨i, by omega, h2⟩)⟩)
            · refine w_ic hC dX4_isThere_39 rfl ?_
              refine v_goto (tgt := 44) hC dX4_isThere_40 rfl ?_
              refine w_is3 hC dX4_isThere_44 hN (by first | rfl | assumption) ?_
              refine w_inc4 hC dX4_isThere_45 hN (by first | rfl | assumption) (ri_mk (by omega) (by omega)) ?_
              refine v_goto (tgt := 5) hC dX4_isThere_48 rfl ?_
              first | exact ih5 1 (j + 1) (by omega) (by omega) (Or.inr ⟨rfl, j, by omega, h25, h36⟩) | exact ih5 0 (j + 1) (by omega) (by omega) (Or.inl ⟨rfl, lt_s (hz.resolve_right (fun q => by omega)).2 (fun q => h25 q.1)⟩) | exact ih5 0 (j + 1) (by omega) (by omega) (Or.inl ⟨rfl, lt_s (hz.resolve_right (fun q => by omega)).2 (fun q => h36 q.2)⟩) | exact ih5 1 (j + 1) (by omega) (by omega) (Or.inr ⟨rfl, (by obtain ⟨i, h1, h2⟩ := (hz.resolve_left (fun q => h14 q.1)).2; exact ⟨i, by omega, h2⟩)⟩)
  exact lp5 ((w r 3).toNat + 1) 0 0 (by omega) (by omega) (Or.inl ⟨rfl, fun i h => by omega⟩)

theorem d_addWord {d : Nat} {w : Wd} {Q : Option MV → Wd → Prop} {r : Nat} {kd n c : Int} (hr : kdT r = 5) (sr : szT r = 127) (hm : 0 ≤ w r 3 ∧ w r 3 < 8) (hQ : ∀ w2 : Wd, (∀ k, w2 r k = sAddW (w r) kd n c k) → smO w w2 (fun i => i ≠ r) → Q (some (.inl (w r 3))) w2) : Call (d + 0) mX4_addWord [vR r, vI kd, vI n, vI c] w Q := by
  obtain ⟨z, hz⟩ := Int.eq_ofNat_of_zero_le hm.1
  refine call_in (ls := [some (vR r), some (vI kd), some (vI n), some (vI c), none]) (by decide +kernel) rfl (Nat.le_of_ble_eq_true rfl) (fun κ hC hR hN => ?_)
  have hC : ctxB κ RX4 cX4_addWord (d + 0) := hC
  have hN : mlx κ 5 := hN
  refine w_al0 hC dX4_addWord_0 ?_
  refine w_ic hC dX4_addWord_1 rfl ?_
  refine w_ialdk hC 127 3 dX4_addWord_2 hr sr (by omega) (by omega) ?_
  rw [hz]
  refine w_is4 hC dX4_addWord_3 hN (by first | rfl | assumption) ?_
  refine w_al0 hC dX4_addWord_5 ?_
  refine w_ic hC dX4_addWord_6 rfl ?_
  refine w_il4 hC dX4_addWord_7 ?_
  refine w_iadd hC dX4_addWord_9 (ri_mk (by omega) (by omega)) ?_
  refine w_il1 hC dX4_addWord_10 ?_
  refine w_iastk hC 127 (4 + z) dX4_addWord_11 hr sr (by omega) (by omega) ?_
  refine w_al0 hC dX4_addWord_12 ?_
  refine v_bipush hC dX4_addWord_13 (by decide) ?_
  refine w_il4 hC dX4_addWord_15 ?_
  refine w_iadd hC dX4_addWord_17 (ri_mk (by omega) (by omega)) ?_
  refine w_il2 hC dX4_addWord_18 ?_
  refine w_iastk hC 127 (12 + z) dX4_addWord_19 hr sr (by omega) (by omega) ?_
  refine w_al0 hC dX4_addWord_20 ?_
  refine v_bipush hC dX4_addWord_21 (by decide) ?_
  refine w_il4 hC dX4_addWord_23 ?_
  refine w_iadd hC dX4_addWord_25 (ri_mk (by omega) (by omega)) ?_
  refine w_il3 hC dX4_addWord_26 ?_
  refine w_iastk hC 127 (20 + z) dX4_addWord_27 hr sr (by omega) (by omega) ?_
  refine w_al0 hC dX4_addWord_28 ?_
  refine w_ic hC dX4_addWord_29 rfl ?_
  refine v_dup2 hC dX4_addWord_30 rfl rfl ?_
  refine w_ialdk hC 127 3 dX4_addWord_31 hr sr (by omega) (by omega) ?_
  rw [up_pl _ _ (by omega), up_pl _ _ (by omega), up_pl _ _ (by omega), hz]
  refine w_ic hC dX4_addWord_32 rfl ?_
  refine w_iadd hC dX4_addWord_33 (ri_mk (by omega) (by omega)) ?_
  refine w_iastk hC 127 3 dX4_addWord_34 hr sr (by omega) (by omega) ?_
  refine w_il4 hC dX4_addWord_35 ?_
  refine v_iret hC hR dX4_addWord_37 ?_
  rw [hz] at hQ
  refine hQ _ (fun k => ?_) (fun i k h => ?_)
  · unfold sAddW ua up
    simp only [hz, Int.toNat_natCast, true_and]
  · rw [up_id _ _ h, up_id _ _ h, up_id _ _ h, up_id _ _ h]
