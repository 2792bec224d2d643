/-! sets of those of whom something holds -/
noncomputable def mkM (P : Nat → Prop) : Nat → Nat
  | 0 => 0
  | n + 1 => mkM P n ||| (if (Classical.propDecidable (P n)).decide = true then 2 ^ n else 0)
theorem mkM_t {P : Nat → Prop} {n : Nat} (h : P n) : mkM P (n + 1) = mkM P n ||| 2 ^ n := by
  show mkM P n ||| _ = _
  rw [if_pos (@decide_eq_true _ (Classical.propDecidable (P n)) h)]
theorem mkM_f {P : Nat → Prop} {n : Nat} (h : ¬ P n) : mkM P (n + 1) = mkM P n := by
  show mkM P n ||| _ = _
  rw [if_neg (by rw [@decide_eq_false _ (Classical.propDecidable (P n)) h]; decide), Nat.or_zero]
theorem mkM_lt (P : Nat → Prop) (n : Nat) : mkM P n < 2 ^ n := by
  induction n with
  | zero => exact Nat.one_pos
  | succ n ih =>
    by_cases h : P n
    · rw [mkM_t h]
      exact Nat.or_lt_two_pow (Nat.lt_of_lt_of_le ih (Nat.pow_le_pow_right (by decide) (by omega))) (Nat.pow_lt_pow_right (by decide) (by omega))
    · rw [mkM_f h]
      exact Nat.lt_of_lt_of_le ih (Nat.pow_le_pow_right (by decide) (by omega))
theorem mkM_bit (P : Nat → Prop) (n k : Nat) : (mkM P n).testBit k = true ↔ k < n ∧ P k := by
  induction n with
  | zero => simp [mkM]
  | succ n ih =>
    by_cases h : P n
    · rw [mkM_t h, Nat.testBit_or, Bool.or_eq_true, ih, Nat.testBit_two_pow]
      simp only [decide_eq_true_eq]
      constructor
      · rintro (⟨h1, h2⟩ | h1)
        · exact ⟨by omega, h2⟩
        · subst h1; exact ⟨by omega, h⟩
      · rintro ⟨h1, h2⟩
        by_cases e : n = k
        · exact Or.inr e
        · exact Or.inl ⟨by omega, h2⟩
    · rw [mkM_f h, ih]
      constructor
      · rintro ⟨h1, h2⟩; exact ⟨by omega, h2⟩
      · rintro ⟨h1, h2⟩
        exact ⟨by rcases Nat.lt_or_ge k n with q | q; exact q; exact absurd ((show k = n by omega) ▸ h2) h, h2⟩
theorem mkM_congr {P P2 : Nat → Prop} (n : Nat) (h : ∀ k, k < n → (P k ↔ P2 k)) : mkM P n = mkM P2 n := by
  apply Nat.eq_of_testBit_eq
  intro k
  rw [Bool.eq_iff_iff, mkM_bit, mkM_bit]
  constructor
  · rintro ⟨h1, h2⟩; exact ⟨h1, (h k h1).mp h2⟩
  · rintro ⟨h1, h2⟩; exact ⟨h1, (h k h1).mpr h2⟩
theorem two_lt {k n : Nat} (h : k < n) : 2 ^ k < 2 ^ n := Nat.pow_lt_pow_right (by decide) h
theorem m_lt {P : Nat → Prop} {j : Nat} (h : j < 31) : mkM P j < 2147483648 := Nat.lt_of_lt_of_le (mkM_lt P j) (show 2 ^ j ≤ 2 ^ 31 from Nat.pow_le_pow_right (by decide) (by omega))
theorem or_t {P : Nat → Prop} {j : Nat} (hj : j < 20) (h : P j) : bOr ((mkM P j : Nat) : Int) (bShl 1 (j : Int)) = ((mkM P (j + 1) : Nat) : Int) := by
  rw [bShl_1 (by omega), bOr_n (m_lt (by omega)) (two_lt (n := 31) (by omega)), mkM_t h]
theorem or_f {P : Nat → Prop} {j : Nat} (hj : j < 20) (h : ¬ P j) : bOr ((mkM P j : Nat) : Int) 0 = ((mkM P (j + 1) : Nat) : Int) := by
  rw [show (0 : Int) = ((0 : Nat) : Int) from rfl, bOr_n (m_lt (by omega)) (by omega), Nat.or_zero, mkM_f h]
/-! by what was seen -/
def nAgr (a : Nat → Int) (f : Nat) : Prop := ∀ k : Nat, (k : Int) < a 34 → plN f (a (35 + 3 * k)) (a (36 + 3 * k)) = a (37 + 3 * k)
def mAgr (a : Nat → Int) (wd : Int) (f : Nat) : Prop := ∀ k : Nat, (k : Int) < a 53 → a (54 + 4 * k) = wd → coN f (a (55 + 4 * k)) (a (56 + 4 * k)) = a (57 + 4 * k)
noncomputable def isM (a : Nat → Int) : Nat := mkM (nAgr a) 6
noncomputable def whM (a : Nat → Int) (wd : Int) : Nat := mkM (mAgr a wd) 6

theorem c_agreesN {d : Nat} {w : Wd} {Q : Option MV → Wd → Prop} {b : Nat} {a : Nat → Int} (hb : vb b) (hv : VX w b a) (hA : AOK a) {f : Nat} (hf6 : f < 6) (ht : nAgr a f → Q (some (.inl 1)) w) (hf : ¬ nAgr a f → Q (some (.inl 0)) w) : Call (d + 1) mX2_agreesWithNotes [vR b, vI (f : Int)] w Q := by
  obtain ⟨kd0, kd1, kd2, kd3, kd4, kd5, kd6, kd7⟩ := kdV hb
  obtain ⟨sz1, sz2, sz3, sz4, sz5, sz6, sz7⟩ := szV hb
  obtain ⟨⟨x0, x1, x2, x3, x4, x5, x6⟩, xw, xl, xn, xm, xu⟩ := hv
  have am := hA.m
  have an := hA.n
  have nc := hA.nc
  have mc := hA.mc
  refine call_in (ls := [some (vR b), some (vI (f : Int)), none, none, none]) (by decide +kernel) rfl (Nat.le_of_ble_eq_true rfl) (fun κ hC hR hN => ?_)
  have hC : ctxB κ RX2 cX2_agreesWithNotes (d + 1) := hC
  have hN : mlx κ 5 := hN
  refine w_ic hC dX2_agreesWithNotes_0 rfl ?_
  refine w_is2 hC dX2_agreesWithNotes_1 hN (by first | rfl | assumption) ?_
  refine w_dr3 ?_
  refine w_dr4 ?_
  have lp2 : ∀ (k : Nat) (i : Nat), ((a 34).toNat - i) < k → ((i : Int) ≤ a 34) → (∀ k : Nat, k < i → plN f (a (35 + 3 * k)) (a (36 + 3 * k)) = a (37 + 3 * k)) → VV κ 2 [some (vR b), some (vI (f : Int)), some (vI (i : Int)), none, none] [] w := by
    intro k
    induction k with
    | zero => intros; omega
    | succ k ih =>
      intro i hm2 hi hx
      refine w_il2 hC dX2_agreesWithNotes_2 ?_
      refine w_al0 hC dX2_agreesWithNotes_3 ?_
      refine v_getI hC dX2_agreesWithNotes_4 fd_X2_52 kd0 rfl ?_
      rw [x4]
      refine v_ic_ge (tgt := 61) hC dX2_agreesWithNotes_7 rfl (fun h7 => ?_) (fun h7 => ?_)
      · refine w_ic hC dX2_agreesWithNotes_61 rfl ?_
        refine v_zret hC hR dX2_agreesWithNotes_62 (by first | decide | omega) ?_
        exact ht (fun k hk => hx k (by omega))
      · refine w_il2 hC dX2_agreesWithNotes_10 ?_
        refine w_ic hC dX2_agreesWithNotes_11 rfl ?_
        refine w_imul hC dX2_agreesWithNotes_12 (ri_mk (by omega) (by omega)) ?_
        rw [show (i : Int) * 3 = ((3 * i : Nat) : Int) by omega]
        obtain ⟨n1, n2, n3⟩ := hA.no (k := i) (by omega)
        have g0 := xn (3 * i) (by omega)
        have g1 := xn (3 * i + 1) (by omega)
        have g2 := xn (3 * i + 2) (by omega)
        rw [show 35 + (3 * i + 1) = 36 + 3 * i by omega] at g1
        rw [show 35 + (3 * i + 2) = 37 + 3 * i by omega] at g2
        refine w_is3 hC dX2_agreesWithNotes_13 hN (by first | rfl | assumption) ?_
        refine w_il1 hC dX2_agreesWithNotes_14 ?_
        refine w_al0 hC dX2_agreesWithNotes_15 ?_
        refine v_getR (off := 5) (j := b + 5) hC dX2_agreesWithNotes_16 fd_X2_28 kd0 rfl rfl ?_
        refine w_il3 hC dX2_agreesWithNotes_19 ?_
        refine w_sn2 hC sn_X2_65 dX2_agreesWithNotes_20 rfl hN (c_at kd5 ?_)
        rw [atV_n w (by omega), g0]
        refine w_al0 hC dX2_agreesWithNotes_23 ?_
        refine v_getR (off := 5) (j := b + 5) hC dX2_agreesWithNotes_24 fd_X2_28 kd0 rfl rfl ?_
        refine w_il3 hC dX2_agreesWithNotes_27 ?_
        refine w_ic hC dX2_agreesWithNotes_28 rfl ?_
        refine w_iadd hC dX2_agreesWithNotes_29 (ri_mk (by omega) (by omega)) ?_
        rw [show ((3 * i : Nat) : Int) + 1 = ((3 * i + 1 : Nat) : Int) by omega]
        refine w_sn2 hC sn_X2_65 dX2_agreesWithNotes_30 rfl hN (c_at kd5 ?_)
        rw [atV_n w (by omega), g1]
        refine w_sn3 hC sn_X2_91 dX2_agreesWithNotes_33 rfl hN (c_placeOf ⟨by omega, by omega⟩ ⟨by omega, by omega⟩ ?_)
        refine w_is4 hC dX2_agreesWithNotes_36 hN (by first | rfl | assumption) ?_
        refine w_il4 hC dX2_agreesWithNotes_38 ?_
        refine w_al0 hC dX2_agreesWithNotes_40 ?_
        refine v_getR (off := 5) (j := b + 5) hC dX2_agreesWithNotes_41 fd_X2_28 kd0 rfl rfl ?_
        refine w_il3 hC dX2_agreesWithNotes_44 ?_
        refine w_ic hC dX2_agreesWithNotes_45 rfl ?_
        refine w_iadd hC dX2_agreesWithNotes_46 (ri_mk (by omega) (by omega)) ?_
        rw [show ((3 * i : Nat) : Int) + 2 = ((3 * i + 2 : Nat) : Int) by omega]
        refine w_sn2 hC sn_X2_65 dX2_agreesWithNotes_47 rfl hN (c_at kd5 ?_)
        rw [atV_n w (by omega), g2]
        refine v_ic_eq (tgt := 55) hC dX2_agreesWithNotes_50 rfl (fun h50 => ?_) (fun h50 => ?_)
        · refine w_inc2 hC dX2_agreesWithNotes_55 hN (by first | rfl | assumption) (ri_mk (by omega) (by omega)) ?_
          refine v_goto (tgt := 2) hC dX2_agreesWithNotes_58 rfl ?_
          refine w_dr3 ?_
          refine w_dr4 ?_
          exact ih (i + 1) (by omega) (by omega) (lt_s hx h50)
        · refine w_ic hC dX2_agreesWithNotes_53 rfl ?_
          refine v_zret hC hR dX2_agreesWithNotes_54 (by first | decide | omega) ?_
          exact hf (fun q => h50 (q i (by omega)))
  exact lp2 ((a 34).toNat + 1) 0 (by omega) (by omega) (fun i h => by omega)

theorem c_agreesM {d : Nat} {w : Wd} {Q : Option MV → Wd → Prop} {b : Nat} {a : Nat → Int} (hb : vb b) (hv : VX w b a) (hA : AOK a) {f : Nat} {wd : Int} (hf6 : f < 6) (ht : mAgr a wd f → Q (some (.inl 1)) w) (hf : ¬ mAgr a wd f → Q (some (.inl 0)) w) : Call (d + 1) mX2_agreesWithMarks [vR b, vI wd, vI (f : Int)] w Q := by
  obtain ⟨kd0, kd1, kd2, kd3, kd4, kd5, kd6, kd7⟩ := kdV hb
  obtain ⟨sz1, sz2, sz3, sz4, sz5, sz6, sz7⟩ := szV hb
  obtain ⟨⟨x0, x1, x2, x3, x4, x5, x6⟩, xw, xl, xn, xm, xu⟩ := hv
  have am := hA.m
  have an := hA.n
  have nc := hA.nc
  have mc := hA.mc
  refine call_in (ls := [some (vR b), some (vI wd), some (vI (f : Int)), none, none, none]) (by decide +kernel) rfl (Nat.le_of_ble_eq_true rfl) (fun κ hC hR hN => ?_)
  have hC : ctxB κ RX2 cX2_agreesWithMarks (d + 1) := hC
  have hN : mlx κ 6 := hN
  refine w_ic hC dX2_agreesWithMarks_0 rfl ?_
  refine w_is3 hC dX2_agreesWithMarks_1 hN (by first | rfl | assumption) ?_
  refine w_dr4 ?_
  refine w_dr5 ?_
  have lp2 : ∀ (k : Nat) (i : Nat), ((a 53).toNat - i) < k → ((i : Int) ≤ a 53) → (∀ k : Nat, k < i → a (54 + 4 * k) = wd → coN f (a (55 + 4 * k)) (a (56 + 4 * k)) = a (57 + 4 * k)) → VV κ 2 [some (vR b), some (vI wd), some (vI (f : Int)), some (vI (i : Int)), none, none] [] w := by
    intro k
    induction k with
    | zero => intros; omega
    | succ k ih =>
      intro i hm2 hi hx
      refine w_il3 hC dX2_agreesWithMarks_2 ?_
      refine w_al0 hC dX2_agreesWithMarks_3 ?_
      refine v_getI hC dX2_agreesWithMarks_4 fd_X2_55 kd0 rfl ?_
      rw [x5]
      refine v_ic_ge (tgt := 80) hC dX2_agreesWithMarks_7 rfl (fun h7 => ?_) (fun h7 => ?_)
      · refine w_ic hC dX2_agreesWithMarks_80 rfl ?_
        refine v_zret hC hR dX2_agreesWithMarks_81 (by first | decide | omega) ?_
        exact ht (fun k hk => hx k (by omega))
      · refine w_il3 hC dX2_agreesWithMarks_10 ?_
        refine w_ic hC dX2_agreesWithMarks_11 rfl ?_
        refine w_imul hC dX2_agreesWithMarks_12 (ri_mk (by omega) (by omega)) ?_
        rw [show (i : Int) * 4 = ((4 * i : Nat) : Int) by omega]
        obtain ⟨n0, n1, n2, n3⟩ := hA.ma (k := i) (by omega)
        have g0 := xm (4 * i) (by omega)
        have g1 := xm (4 * i + 1) (by omega)
        have g2 := xm (4 * i + 2) (by omega)
        have g3 := xm (4 * i + 3) (by omega)
        rw [show 54 + (4 * i + 1) = 55 + 4 * i by omega] at g1
        rw [show 54 + (4 * i + 2) = 56 + 4 * i by omega] at g2
        rw [show 54 + (4 * i + 3) = 57 + 4 * i by omega] at g3
        refine w_is4 hC dX2_agreesWithMarks_13 hN (by first | rfl | assumption) ?_
        refine w_il2 hC dX2_agreesWithMarks_15 ?_
        refine w_al0 hC dX2_agreesWithMarks_16 ?_
        refine v_getR (off := 6) (j := b + 6) hC dX2_agreesWithMarks_17 fd_X2_31 kd0 rfl rfl ?_
        refine w_il4 hC dX2_agreesWithMarks_20 ?_
        refine w_ic hC dX2_agreesWithMarks_22 rfl ?_
        refine w_iadd hC dX2_agreesWithMarks_23 (ri_mk (by omega) (by omega)) ?_
        rw [show ((4 * i : Nat) : Int) + 1 = ((4 * i + 1 : Nat) : Int) by omega]
        refine w_sn2 hC sn_X2_65 dX2_agreesWithMarks_24 rfl hN (c_at kd6 ?_)
        rw [atV_n w (by omega), g1]
        refine w_al0 hC dX2_agreesWithMarks_27 ?_
        refine v_getR (off := 6) (j := b + 6) hC dX2_agreesWithMarks_28 fd_X2_31 kd0 rfl rfl ?_
        refine w_il4 hC dX2_agreesWithMarks_31 ?_
        refine w_ic hC dX2_agreesWithMarks_33 rfl ?_
        refine w_iadd hC dX2_agreesWithMarks_34 (ri_mk (by omega) (by omega)) ?_
        rw [show ((4 * i : Nat) : Int) + 2 = ((4 * i + 2 : Nat) : Int) by omega]
        refine w_sn2 hC sn_X2_65 dX2_agreesWithMarks_35 rfl hN (c_at kd6 ?_)
        rw [atV_n w (by omega), g2]
        refine w_sn3 hC sn_X2_103 dX2_agreesWithMarks_38 rfl hN (c_costOf ⟨by omega, by omega⟩ ⟨by omega, by omega⟩ ?_)
        refine w_is5 hC dX2_agreesWithMarks_41 hN (by first | rfl | assumption) ?_
        refine w_al0 hC dX2_agreesWithMarks_43 ?_
        refine v_getR (off := 6) (j := b + 6) hC dX2_agreesWithMarks_44 fd_X2_31 kd0 rfl rfl ?_
        refine w_il4 hC dX2_agreesWithMarks_47 ?_
        refine w_sn2 hC sn_X2_65 dX2_agreesWithMarks_49 rfl hN (c_at kd6 ?_)
        rw [atV_n w (by omega), g0]
        refine w_il1 hC dX2_agreesWithMarks_52 ?_
        refine v_ic_ne (tgt := 74) hC dX2_agreesWithMarks_53 rfl (fun h53 => ?_) (fun h53 => ?_)
        · refine w_inc3 hC dX2_agreesWithMarks_74 hN (by first | rfl | assumption) (ri_mk (by omega) (by omega)) ?_
          refine v_goto (tgt := 2) hC dX2_agreesWithMarks_77 rfl ?_
          refine w_dr4 ?_
          refine w_dr5 ?_
          exact ih (i + 1) (by omega) (by omega) (lt_s hx (by first | exact fun _ => h69 | exact fun q => absurd q h53))
        · refine w_il5 hC dX2_agreesWithMarks_56 ?_
          refine w_al0 hC dX2_agreesWithMarks_58 ?_
          refine v_getR (off := 6) (j := b + 6) hC dX2_agreesWithMarks_59 fd_X2_31 kd0 rfl rfl ?_
          refine w_il4 hC dX2_agreesWithMarks_62 ?_
          refine w_ic hC dX2_agreesWithMarks_64 rfl ?_
          refine w_iadd hC dX2_agreesWithMarks_65 (ri_mk (by omega) (by omega)) ?_
          rw [show ((4 * i : Nat) : Int) + 3 = ((4 * i + 3 : Nat) : Int) by omega]
          refine w_sn2 hC sn_X2_65 dX2_agreesWithMarks_66 rfl hN (c_at kd6 ?_)
          rw [atV_n w (by omega), g3]
          refine v_ic_eq (tgt := 74) hC dX2_agreesWithMarks_69 rfl (fun h69 => ?_) (fun h69 => ?_)
          · refine w_inc3 hC dX2_agreesWithMarks_74 hN (by first | rfl | assumption) (ri_mk (by omega) (by omega)) ?_
            refine v_goto (tgt := 2) hC dX2_agreesWithMarks_77 rfl ?_
            refine w_dr4 ?_
            refine w_dr5 ?_
            exact ih (i + 1) (by omega) (by omega) (lt_s hx (by first | exact fun _ => h69 | exact fun q => absurd q h53))
          · refine w_ic hC dX2_agreesWithMarks_72 rfl ?_
            refine v_zret hC hR dX2_agreesWithMarks_73 (by first | decide | omega) ?_
            exact hf (fun q => h69 (q i (by omega) h53))
  exact lp2 ((a 53).toNat + 1) 0 (by omega) (by omega) (fun i h => by omega)

theorem c_formsByNotes {d : Nat} {w : Wd} {Q : Option MV → Wd → Prop} {b : Nat} {a : Nat → Int} (hb : vb b) (hv : VX w b a) (hA : AOK a)  (hQ : Q (some (.inl ((mkM (nAgr a) 6 : Nat) : Int))) w) : Call (d + 2) mX2_formsByNotes [vR b] w Q := by
  obtain ⟨kd0, kd1, kd2, kd3, kd4, kd5, kd6, kd7⟩ := kdV hb
  obtain ⟨sz1, sz2, sz3, sz4, sz5, sz6, sz7⟩ := szV hb
  obtain ⟨⟨x0, x1, x2, x3, x4, x5, x6⟩, xw, xl, xn, xm, xu⟩ := hv
  have am := hA.m
  have an := hA.n
  have nc := hA.nc
  have mc := hA.mc
  refine call_in (ls := [some (vR b), none, none]) (by decide +kernel) rfl (Nat.le_of_ble_eq_true rfl) (fun κ hC hR hN => ?_)
  have hC : ctxB κ RX2 cX2_formsByNotes (d + 2) := hC
  have hN : mlx κ 3 := hN
  refine w_ic hC dX2_formsByNotes_0 rfl ?_
  refine w_is1 hC dX2_formsByNotes_1 hN (by first | rfl | assumption) ?_
  refine w_ic hC dX2_formsByNotes_2 rfl ?_
  refine w_is2 hC dX2_formsByNotes_3 hN (by first | rfl | assumption) ?_
  have lp4 : ∀ (k : Nat) (j : Nat), (6 - j) < k → (j ≤ 6) → VV κ 4 [some (vR b), some (vI ((mkM (nAgr a) j : Nat) : Int)), some (vI (j : Int))] [] w := by
    intro k
    induction k with
    | zero => intros; omega
    | succ k ih =>
      intro j hm4 hj
      have hlt := mkM_lt (nAgr a) j
      refine w_il2 hC dX2_formsByNotes_4 ?_
      refine v_bipush hC dX2_formsByNotes_5 (by decide) ?_
      refine v_ic_ge (tgt := 34) hC dX2_formsByNotes_7 rfl (fun h7 => ?_) (fun h7 => ?_)
      · refine w_il1 hC dX2_formsByNotes_34 ?_
        refine v_iret hC hR dX2_formsByNotes_35 ?_
        rw [show j = 6 by omega]
        exact hQ
      · refine w_il1 hC dX2_formsByNotes_10 ?_
        refine w_al0 hC dX2_formsByNotes_11 ?_
        refine w_il2 hC dX2_formsByNotes_12 ?_
        refine w_vi1 hC vi_X2_123 kd0 dX2_formsByNotes_13 rfl hN (c_agreesN hb ⟨⟨x0, x1, x2, x3, x4, x5, x6⟩, xw, xl, xn, xm, xu⟩ hA (by omega) (fun h => ?_) (fun h => ?_))
        · refine v_if_eq (tgt := 25) hC dX2_formsByNotes_16 rfl (fun h => absurd h (by decide)) (fun _ => ?_)
          refine w_ic hC dX2_formsByNotes_19 rfl ?_
          refine w_il2 hC dX2_formsByNotes_20 ?_
          refine v_ishl hC dX2_formsByNotes_21 ?_
          refine v_goto (tgt := 26) hC dX2_formsByNotes_22 rfl ?_
          refine v_ior hC dX2_formsByNotes_26 ?_
          first | rw [or_t (by omega) h] | rw [or_f (by omega) h]
          refine w_is1 hC dX2_formsByNotes_27 hN (by first | rfl | assumption) ?_
          refine w_inc2 hC dX2_formsByNotes_28 hN (by first | rfl | assumption) (ri_mk (by omega) (by omega)) ?_
          refine v_goto (tgt := 4) hC dX2_formsByNotes_31 rfl ?_
          exact ih (j + 1) (by omega) (by omega)
        · refine v_if_eq (tgt := 25) hC dX2_formsByNotes_16 rfl (fun _ => ?_) (fun h => absurd h (by decide))
          refine w_ic hC dX2_formsByNotes_25 rfl ?_
          refine v_ior hC dX2_formsByNotes_26 ?_
          first | rw [or_t (by omega) h] | rw [or_f (by omega) h]
          refine w_is1 hC dX2_formsByNotes_27 hN (by first | rfl | assumption) ?_
          refine w_inc2 hC dX2_formsByNotes_28 hN (by first | rfl | assumption) (ri_mk (by omega) (by omega)) ?_
          refine v_goto (tgt := 4) hC dX2_formsByNotes_31 rfl ?_
          exact ih (j + 1) (by omega) (by omega)
  exact lp4 7 0 (by omega) (by omega)

theorem c_kindsByMarks {d : Nat} {w : Wd} {Q : Option MV → Wd → Prop} {b : Nat} {a : Nat → Int} (hb : vb b) (hv : VX w b a) (hA : AOK a) {wd : Int} (hQ : Q (some (.inl ((mkM (mAgr a wd) 6 : Nat) : Int))) w) : Call (d + 2) mX2_kindsByMarks [vR b, vI wd] w Q := by
  obtain ⟨kd0, kd1, kd2, kd3, kd4, kd5, kd6, kd7⟩ := kdV hb
  obtain ⟨sz1, sz2, sz3, sz4, sz5, sz6, sz7⟩ := szV hb
  obtain ⟨⟨x0, x1, x2, x3, x4, x5, x6⟩, xw, xl, xn, xm, xu⟩ := hv
  have am := hA.m
  have an := hA.n
  have nc := hA.nc
  have mc := hA.mc
  refine call_in (ls := [some (vR b), some (vI wd), none, none]) (by decide +kernel) rfl (Nat.le_of_ble_eq_true rfl) (fun κ hC hR hN => ?_)
  have hC : ctxB κ RX2 cX2_kindsByMarks (d + 2) := hC
  have hN : mlx κ 4 := hN
  refine w_ic hC dX2_kindsByMarks_0 rfl ?_
  refine w_is2 hC dX2_kindsByMarks_1 hN (by first | rfl | assumption) ?_
  refine w_ic hC dX2_kindsByMarks_2 rfl ?_
  refine w_is3 hC dX2_kindsByMarks_3 hN (by first | rfl | assumption) ?_
  have lp4 : ∀ (k : Nat) (j : Nat), (6 - j) < k → (j ≤ 6) → VV κ 4 [some (vR b), some (vI wd), some (vI ((mkM (mAgr a wd) j : Nat) : Int)), some (vI (j : Int))] [] w := by
    intro k
    induction k with
    | zero => intros; omega
    | succ k ih =>
      intro j hm4 hj
      have hlt := mkM_lt (mAgr a wd) j
      refine w_il3 hC dX2_kindsByMarks_4 ?_
      refine v_bipush hC dX2_kindsByMarks_5 (by decide) ?_
      refine v_ic_ge (tgt := 35) hC dX2_kindsByMarks_7 rfl (fun h7 => ?_) (fun h7 => ?_)
      · refine w_il2 hC dX2_kindsByMarks_35 ?_
        refine v_iret hC hR dX2_kindsByMarks_36 ?_
        rw [show j = 6 by omega]
        exact hQ
      · refine w_il2 hC dX2_kindsByMarks_10 ?_
        refine w_al0 hC dX2_kindsByMarks_11 ?_
        refine w_il1 hC dX2_kindsByMarks_12 ?_
        refine w_il3 hC dX2_kindsByMarks_13 ?_
        refine w_vi2 hC vi_X2_126 kd0 dX2_kindsByMarks_14 rfl hN (c_agreesM hb ⟨⟨x0, x1, x2, x3, x4, x5, x6⟩, xw, xl, xn, xm, xu⟩ hA (by omega) (fun h => ?_) (fun h => ?_))
        · refine v_if_eq (tgt := 26) hC dX2_kindsByMarks_17 rfl (fun h => absurd h (by decide)) (fun _ => ?_)
          refine w_ic hC dX2_kindsByMarks_20 rfl ?_
          refine w_il3 hC dX2_kindsByMarks_21 ?_
          refine v_ishl hC dX2_kindsByMarks_22 ?_
          refine v_goto (tgt := 27) hC dX2_kindsByMarks_23 rfl ?_
          refine v_ior hC dX2_kindsByMarks_27 ?_
          first | rw [or_t (by omega) h] | rw [or_f (by omega) h]
          refine w_is2 hC dX2_kindsByMarks_28 hN (by first | rfl | assumption) ?_
          refine w_inc3 hC dX2_kindsByMarks_29 hN (by first | rfl | assumption) (ri_mk (by omega) (by omega)) ?_
          refine v_goto (tgt := 4) hC dX2_kindsByMarks_32 rfl ?_
          exact ih (j + 1) (by omega) (by omega)
        · refine v_if_eq (tgt := 26) hC dX2_kindsByMarks_17 rfl (fun _ => ?_) (fun h => absurd h (by decide))
          refine w_ic hC dX2_kindsByMarks_26 rfl ?_
          refine v_ior hC dX2_kindsByMarks_27 ?_
          first | rw [or_t (by omega) h] | rw [or_f (by omega) h]
          refine w_is2 hC dX2_kindsByMarks_28 hN (by first | rfl | assumption) ?_
          refine w_inc3 hC dX2_kindsByMarks_29 hN (by first | rfl | assumption) (ri_mk (by omega) (by omega)) ?_
          refine v_goto (tgt := 4) hC dX2_kindsByMarks_32 rfl ?_
          exact ih (j + 1) (by omega) (by omega)
  exact lp4 7 0 (by omega) (by omega)

/-! the best question -/
def saN (ow k n j : Int) : Int := if ow = 0 then plN k n j else coN k n j
def maxN (f : Nat → Int) : Nat → Int
  | 0 => 0
  | n + 1 => max (maxN f n) (f n)
theorem maxN_r {f : Nat → Int} {c : Int} (n : Nat) (hc : 0 ≤ c) (h : ∀ j, j < n → f j ≤ c) : 0 ≤ maxN f n ∧ maxN f n ≤ c := by
  induction n with
  | zero => exact ⟨Int.le_refl _, hc⟩
  | succ n ih =>
    have h1 := ih (fun j hj => h j (by omega))
    have h2 := h n (by omega)
    show 0 ≤ max _ _ ∧ max _ _ ≤ c
    omega
/-- those of a set from one on that say the same -/
def alF (ow : Int) (s : Nat) (n j : Int) (k : Nat) : Nat → Int := fun o => if k ≤ o ∧ s.testBit o = true ∧ saN ow o n j = saN ow k n j then 1 else 0
def alK (ow : Int) (s : Nat) (n j : Int) : Nat → Int := fun k => if s.testBit k = true then sumN (alF ow s n j k) 6 else 0
def alM (ow : Int) (s : Nat) (n j : Int) : Int := maxN (alK ow s n j) 6
/-- the least, first of its kind, among so many -/
def bqS (f : Nat → Int) (c : Nat → Int) : Nat → Int × Int
  | 0 => (-1, 7)
  | t + 1 => if f t < (bqS f c t).2 then (c t, f t) else bqS f c t
def bqF (ow : Int) (s : Nat) : Nat → Int := fun t => alM ow s (3 + (t / 6 : Nat)) ((t % 6 : Nat))
def bqC : Nat → Int := fun t => 10 * (3 + ((t / 6 : Nat) : Int)) + ((t % 6 : Nat) : Int)
def bqR (ow : Int) (s : Nat) : Int := if s = 0 then -1 else (bqS (bqF ow s) bqC 24).1
theorem alF_r (ow : Int) (s : Nat) (n j : Int) (k : Nat) (m : Nat) : 0 ≤ sumN (alF ow s n j k) m ∧ sumN (alF ow s n j k) m ≤ m := by
  have := sumN_r (f := alF ow s n j k) (c := 1) m (fun i _ => by unfold alF; split <;> omega)
  omega
theorem alK_r (ow : Int) (s : Nat) (n j : Int) (k : Nat) : alK ow s n j k ≤ 6 := by
  unfold alK
  split
  next => have := alF_r ow s n j k 6; omega
  next => omega
theorem alM_r (ow : Int) (s : Nat) (n j : Int) : 0 ≤ alM ow s n j ∧ alM ow s n j ≤ 6 := maxN_r 6 (by decide) (fun k _ => alK_r ow s n j k)
theorem mx_t {f : Nat → Int} {mo v : Int} {k : Nat} (h : mo = maxN f k) (hv : f k = v) : max mo v = maxN f (k + 1) := by rw [h, ← hv]; rfl
theorem mx_f {f : Nat → Int} {mo : Int} {k : Nat} (h : mo = maxN f k) (hv : f k = 0) (h0 : 0 ≤ mo) : mo = maxN f (k + 1) := by
  rw [← mx_t h hv]
  omega
theorem alF_t {ow : Int} {s : Nat} {n j : Int} {k o : Nat} (h1 : k ≤ o) (h2 : s.testBit o = true) (h3 : saN ow o n j = saN ow k n j) : alF ow s n j k o = 1 := if_pos ⟨h1, h2, h3⟩
theorem alF_f1 {ow : Int} {s : Nat} {n j : Int} {k o : Nat} (h2 : s.testBit o = false) : alF ow s n j k o = 0 := if_neg (fun q => by simp [h2] at q)
theorem alF_f2 {ow : Int} {s : Nat} {n j : Int} {k o : Nat} (h3 : ¬ saN ow o n j = saN ow k n j) : alF ow s n j k o = 0 := if_neg (fun q => h3 q.2.2)
theorem bqS_s (f c : Nat → Int) (t : Nat) : bqS f c (t + 1) = if f t < (bqS f c t).2 then (c t, f t) else bqS f c t := rfl
theorem alF_0 (ow : Int) (s : Nat) (n j : Int) (k : Nat) : ∀ m, m ≤ k → sumN (alF ow s n j k) m = 0
  | 0, _ => rfl
  | m + 1, h => by
    show sumN (alF ow s n j k) m + alF ow s n j k m = 0
    rw [alF_0 ow s n j k m (by omega)]
    unfold alF
    rw [if_neg (by omega)]
    rfl

theorem c_saidBy {d : Nat} {w : Wd} {Q : Option MV → Wd → Prop} {ow k n j : Int} (hn : 1 ≤ n ∧ n ≤ 6) (hj : 0 ≤ j ∧ j ≤ 6) (hQ : Q (some (.inl (saN ow k n j))) w) : Call (d + 1) mX3_saidBy [vI ow, vI k, vI n, vI j] w Q := by
  refine call_in (ls := [some (vI ow), some (vI k), some (vI n), some (vI j)]) (by decide +kernel) rfl (Nat.le_of_ble_eq_true rfl) (fun κ hC hR hN => ?_)
  have hC : ctxB κ RX3 cX3_saidBy (d + 1) := hC
  have hN : mlx κ 4 := hN
  refine w_il0 hC dX3_saidBy_0 ?_
  refine v_if_eq (tgt := 13) hC dX3_saidBy_1 rfl (fun h1 => ?_) (fun h1 => ?_)
  · refine w_il1 hC dX3_saidBy_13 ?_
    refine w_il2 hC dX3_saidBy_14 ?_
    refine w_il3 hC dX3_saidBy_15 ?_
    refine w_st3 hC st_X3_338 dX3_saidBy_16 rfl hN (c_placeOf hn hj ?_)
    refine v_iret hC hR dX3_saidBy_19 ?_
    first | (rw [show saN ow k n j = plN k n j from if_pos h1] at hQ; exact hQ) | (rw [show saN ow k n j = coN k n j from if_neg h1] at hQ; exact hQ)
  · refine w_il1 hC dX3_saidBy_4 ?_
    refine w_il2 hC dX3_saidBy_5 ?_
    refine w_il3 hC dX3_saidBy_6 ?_
    refine w_st3 hC st_X3_335 dX3_saidBy_7 rfl hN (c_costOf ⟨by omega, by omega⟩ hj ?_)
    refine v_goto (tgt := 19) hC dX3_saidBy_10 rfl ?_
    refine v_iret hC hR dX3_saidBy_19 ?_
    first | (rw [show saN ow k n j = plN k n j from if_pos h1] at hQ; exact hQ) | (rw [show saN ow k n j = coN k n j from if_neg h1] at hQ; exact hQ)

theorem c_mostAlike {d : Nat} {w : Wd} {Q : Option MV → Wd → Prop} {ow : Int} {s : Nat} {n j : Int} (hs : s < 64) (hn : 1 ≤ n ∧ n ≤ 6) (hj : 0 ≤ j ∧ j ≤ 6) (hQ : Q (some (.inl (alM ow s n j))) w) : Call (d + 2) mX3_mostAlike [vI ow, vI (s : Int), vI n, vI j] w Q := by
  refine call_in (ls := [some (vI ow), some (vI (s : Int)), some (vI n), some (vI j), none, none, none, none, none, none]) (by decide +kernel) rfl (Nat.le_of_ble_eq_true rfl) (fun κ hC hR hN => ?_)
  have hC : ctxB κ RX3 cX3_mostAlike (d + 2) := hC
  have hN : mlx κ 10 := hN
  refine w_ic hC dX3_mostAlike_0 rfl ?_
  refine w_is4 hC dX3_mostAlike_1 hN (by first | rfl | assumption) ?_
  refine w_ic hC dX3_mostAlike_3 rfl ?_
  refine w_is5 hC dX3_mostAlike_4 hN (by first | rfl | assumption) ?_
  refine w_dr6 ?_
  refine w_dr7 ?_
  refine w_dr8 ?_
  refine w_dr9 ?_
  have lp6 : ∀ (K : Nat) (mo : Int) (k : Nat), (6 - k) < K → (k ≤ 6) → (mo = maxN (alK ow s n j) k) → (0 ≤ mo) → VV κ 6 [some (vI ow), some (vI (s : Int)), some (vI n), some (vI j), some (vI mo), some (vI (k : Int)), none, none, none, none] [] w := by
    intro K
    induction K with
    | zero => intros; omega
    | succ K ih6 =>
      intro mo k hm6 hk hm h0
      refine w_il5 hC dX3_mostAlike_6 ?_
      refine v_bipush hC dX3_mostAlike_8 (by decide) ?_
      refine v_ic_ge (tgt := 111) hC dX3_mostAlike_10 rfl (fun h10 => ?_) (fun h10 => ?_)
      · refine w_il4 hC dX3_mostAlike_111 ?_
        refine v_iret hC hR dX3_mostAlike_113 ?_
        rw [show alM ow s n j = mo by rw [hm]; unfold alM; congr 1; omega] at hQ
        exact hQ
      · refine w_il1 hC dX3_mostAlike_13 ?_
        refine w_il5 hC dX3_mostAlike_14 ?_
        refine w_st2 hC st_X3_329 dX3_mostAlike_16 rfl hN (c_hasBit (by omega) (by omega) (fun h14 => ?_) (fun h14 => ?_))
        · refine v_if_eq (tgt := 105) hC dX3_mostAlike_19 rfl (fun h => absurd h (by decide)) (fun _ => ?_)
          refine w_il0 hC dX3_mostAlike_22 ?_
          refine w_il5 hC dX3_mostAlike_23 ?_
          refine w_il2 hC dX3_mostAlike_25 ?_
          refine w_il3 hC dX3_mostAlike_26 ?_
          refine w_st4 hC st_X3_332 dX3_mostAlike_27 rfl hN (c_saidBy hn hj ?_)
          refine w_is6 hC dX3_mostAlike_30 hN (by first | rfl | assumption) ?_
          refine w_ic hC dX3_mostAlike_32 rfl ?_
          refine w_is7 hC dX3_mostAlike_33 hN (by first | rfl | assumption) ?_
          refine w_il5 hC dX3_mostAlike_35 ?_
          refine w_is8 hC dX3_mostAlike_37 hN (by first | rfl | assumption) ?_
          refine w_dr9 ?_
          have lp39 : ∀ (K2 : Nat) (sumal : Int) (o : Nat), (6 - o) < K2 → (k ≤ o ∧ o ≤ 6) → (sumal = sumN (alF ow s n j k) o) → VV κ 39 [some (vI ow), some (vI (s : Int)), some (vI n), some (vI j), some (vI mo), some (vI (k : Int)), some (vI (saN ow k n j)), some (vI sumal), some (vI (o : Int)), none] [] w := by
            intro K2
            induction K2 with
            | zero => intros; omega
            | succ K2 ih39 =>
              intro sumal o hm39 ho hsa
              have hra := alF_r ow s n j k o
              refine w_il8 hC dX3_mostAlike_39 ?_
              refine v_bipush hC dX3_mostAlike_41 (by decide) ?_
              refine v_ic_ge (tgt := 96) hC dX3_mostAlike_43 rfl (fun h43 => ?_) (fun h43 => ?_)
              · refine w_il4 hC dX3_mostAlike_96 ?_
                refine w_il7 hC dX3_mostAlike_98 ?_
                refine w_st2 hC st_X3_322 dX3_mostAlike_100 rfl hN (c_max ?_)
                refine w_is4 hC dX3_mostAlike_103 hN (by first | rfl | assumption) ?_
                refine w_inc5 hC dX3_mostAlike_105 hN (by first | rfl | assumption) (ri_mk (by omega) (by omega)) ?_
                refine v_goto (tgt := 6) hC dX3_mostAlike_108 rfl ?_
                refine w_dr6 ?_
                refine w_dr7 ?_
                refine w_dr8 ?_
                refine w_dr9 ?_
                first | exact ih6 _ (k + 1) (by omega) (by omega) (mx_t hm (by unfold alK; rw [if_pos h14, hsa]; congr 1; omega)) (by omega) | exact ih6 _ (k + 1) (by omega) (by omega) (mx_f hm (by unfold alK; rw [if_neg (by simp [h14])]) h0) h0
              · refine w_il1 hC dX3_mostAlike_46 ?_
                refine w_il8 hC dX3_mostAlike_47 ?_
                refine w_st2 hC st_X3_329 dX3_mostAlike_49 rfl hN (c_hasBit (by omega) (by omega) (fun h47 => ?_) (fun h47 => ?_))
                · refine v_if_eq (tgt := 72) hC dX3_mostAlike_52 rfl (fun h => absurd h (by decide)) (fun _ => ?_)
                  refine w_il0 hC dX3_mostAlike_55 ?_
                  refine w_il8 hC dX3_mostAlike_56 ?_
                  refine w_il2 hC dX3_mostAlike_58 ?_
                  refine w_il3 hC dX3_mostAlike_59 ?_
                  refine w_st4 hC st_X3_332 dX3_mostAlike_60 rfl hN (c_saidBy hn hj ?_)
                  refine w_il6 hC dX3_mostAlike_63 ?_
                  refine v_ic_ne (tgt := 72) hC dX3_mostAlike_65 rfl (fun h65 => ?_) (fun h65 => ?_)
                  · refine w_ic hC dX3_mostAlike_72 rfl ?_
                    refine w_is9 hC dX3_mostAlike_73 hN (by first | rfl | assumption) ?_
                    refine w_il7 hC dX3_mostAlike_75 ?_
                    refine w_il9 hC dX3_mostAlike_77 ?_
                    refine v_if_eq (tgt := 86) hC dX3_mostAlike_79 rfl (fun _ => ?_) (fun h => absurd h (by decide))
                    refine w_ic hC dX3_mostAlike_86 rfl ?_
                    refine w_iadd hC dX3_mostAlike_87 (ri_mk (by omega) (by omega)) ?_
                    refine w_is7 hC dX3_mostAlike_88 hN (by first | rfl | assumption) ?_
                    refine w_inc8 hC dX3_mostAlike_90 hN (by first | rfl | assumption) (ri_mk (by omega) (by omega)) ?_
                    refine v_goto (tgt := 39) hC dX3_mostAlike_93 rfl ?_
                    refine w_dr9 ?_
                    first | exact ih39 _ (o + 1) (by omega) (by omega) (sumN_s hsa (alF_t ho.1 h47 h65)) | exact ih39 _ (o + 1) (by omega) (by omega) (sumN_s hsa (alF_f2 h65)) | exact ih39 _ (o + 1) (by omega) (by omega) (sumN_s hsa (alF_f1 h47))
                  · refine w_ic hC dX3_mostAlike_68 rfl ?_
                    refine v_goto (tgt := 73) hC dX3_mostAlike_69 rfl ?_
                    refine w_is9 hC dX3_mostAlike_73 hN (by first | rfl | assumption) ?_
                    refine w_il7 hC dX3_mostAlike_75 ?_
                    refine w_il9 hC dX3_mostAlike_77 ?_
                    refine v_if_eq (tgt := 86) hC dX3_mostAlike_79 rfl (fun h => absurd h (by decide)) (fun _ => ?_)
                    refine w_ic hC dX3_mostAlike_82 rfl ?_
                    refine v_goto (tgt := 87) hC dX3_mostAlike_83 rfl ?_
                    refine w_iadd hC dX3_mostAlike_87 (ri_mk (by omega) (by omega)) ?_
                    refine w_is7 hC dX3_mostAlike_88 hN (by first | rfl | assumption) ?_
                    refine w_inc8 hC dX3_mostAlike_90 hN (by first | rfl | assumption) (ri_mk (by omega) (by omega)) ?_
                    refine v_goto (tgt := 39) hC dX3_mostAlike_93 rfl ?_
                    refine w_dr9 ?_
                    first | exact ih39 _ (o + 1) (by omega) (by omega) (sumN_s hsa (alF_t ho.1 h47 h65)) | exact ih39 _ (o + 1) (by omega) (by omega) (sumN_s hsa (alF_f2 h65)) | exact ih39 _ (o + 1) (by omega) (by omega) (sumN_s hsa (alF_f1 h47))
                · refine v_if_eq (tgt := 72) hC dX3_mostAlike_52 rfl (fun _ => ?_) (fun h => absurd h (by decide))
                  refine w_ic hC dX3_mostAlike_72 rfl ?_
                  refine w_is9 hC dX3_mostAlike_73 hN (by first | rfl | assumption) ?_
                  refine w_il7 hC dX3_mostAlike_75 ?_
                  refine w_il9 hC dX3_mostAlike_77 ?_
                  refine v_if_eq (tgt := 86) hC dX3_mostAlike_79 rfl (fun _ => ?_) (fun h => absurd h (by decide))
                  refine w_ic hC dX3_mostAlike_86 rfl ?_
                  refine w_iadd hC dX3_mostAlike_87 (ri_mk (by omega) (by omega)) ?_
                  refine w_is7 hC dX3_mostAlike_88 hN (by first | rfl | assumption) ?_
                  refine w_inc8 hC dX3_mostAlike_90 hN (by first | rfl | assumption) (ri_mk (by omega) (by omega)) ?_
                  refine v_goto (tgt := 39) hC dX3_mostAlike_93 rfl ?_
                  refine w_dr9 ?_
                  first | exact ih39 _ (o + 1) (by omega) (by omega) (sumN_s hsa (alF_t ho.1 h47 h65)) | exact ih39 _ (o + 1) (by omega) (by omega) (sumN_s hsa (alF_f2 h65)) | exact ih39 _ (o + 1) (by omega) (by omega) (sumN_s hsa (alF_f1 h47))
          exact lp39 7 0 k (by omega) (by omega) (alF_0 ow s n j k k (Nat.le_refl _)).symm
        · refine v_if_eq (tgt := 105) hC dX3_mostAlike_19 rfl (fun _ => ?_) (fun h => absurd h (by decide))
          refine w_inc5 hC dX3_mostAlike_105 hN (by first | rfl | assumption) (ri_mk (by omega) (by omega)) ?_
          refine v_goto (tgt := 6) hC dX3_mostAlike_108 rfl ?_
          refine w_dr6 ?_
          refine w_dr7 ?_
          refine w_dr8 ?_
          refine w_dr9 ?_
          first | exact ih6 _ (k + 1) (by omega) (by omega) (mx_t hm (by unfold alK; rw [if_pos h14, hsa]; congr 1; omega)) (by omega) | exact ih6 _ (k + 1) (by omega) (by omega) (mx_f hm (by unfold alK; rw [if_neg (by simp [h14])]) h0) h0
  exact lp6 7 0 0 (by omega) (by omega) rfl (by omega)

theorem c_bestQuestion {d : Nat} {w : Wd} {Q : Option MV → Wd → Prop} {ow : Int} {s : Nat} (hs : s < 64) (hQ : Q (some (.inl (bqR ow s))) w) : Call (d + 3) mX3_bestQuestion [vI ow, vI (s : Int)] w Q := by
  refine call_in (ls := [some (vI ow), some (vI (s : Int)), none, none, none, none, none]) (by decide +kernel) rfl (Nat.le_of_ble_eq_true rfl) (fun κ hC hR hN => ?_)
  have hC : ctxB κ RX3 cX3_bestQuestion (d + 3) := hC
  have hN : mlx κ 7 := hN
  refine w_ic hC dX3_bestQuestion_0 rfl ?_
  refine w_is2 hC dX3_bestQuestion_1 hN (by first | rfl | assumption) ?_
  refine v_bipush hC dX3_bestQuestion_2 (by decide) ?_
  refine w_is3 hC dX3_bestQuestion_4 hN (by first | rfl | assumption) ?_
  refine w_ic hC dX3_bestQuestion_5 rfl ?_
  refine w_is4 hC dX3_bestQuestion_6 hN (by first | rfl | assumption) ?_
  refine w_dr5 ?_
  refine w_dr6 ?_
  have lp8 : ∀ (K : Nat) (be fe : Int) (n : Nat), (7 - n) < K → (3 ≤ n ∧ n ≤ 7) → ((be, fe) = bqS (bqF ow s) bqC (6 * (n - 3))) → (s = 0 → n = 3) → VV κ 8 [some (vI ow), some (vI (s : Int)), some (vI be), some (vI fe), some (vI (n : Int)), none, none] [] w := by
    intro K
    induction K with
    | zero => intros; omega
    | succ K ih8 =>
      intro be fe n hm8 hn hp hz
      refine w_il4 hC dX3_bestQuestion_8 ?_
      refine v_bipush hC dX3_bestQuestion_10 (by decide) ?_
      refine v_ic_gt (tgt := 70) hC dX3_bestQuestion_12 rfl (fun h12 => ?_) (fun h12 => ?_)
      · refine w_il2 hC dX3_bestQuestion_70 ?_
        refine v_iret hC hR dX3_bestQuestion_71 ?_
        have hbe : be = bqR ow s := by
          unfold bqR
          by_cases q : s = 0
          · rw [if_pos q]
            have h3 := hz q
            subst h3
            exact congrArg Prod.fst hp
          · rw [if_neg q]
            have h7 : n = 7 := by omega
            subst h7
            exact congrArg Prod.fst hp
        rw [hbe]
        exact hQ
      · refine w_il1 hC dX3_bestQuestion_15 ?_
        refine v_if_eq (tgt := 70) hC dX3_bestQuestion_16 rfl (fun h16 => ?_) (fun h16 => ?_)
        · refine w_il2 hC dX3_bestQuestion_70 ?_
          refine v_iret hC hR dX3_bestQuestion_71 ?_
          have hbe : be = bqR ow s := by
            unfold bqR
            by_cases q : s = 0
            · rw [if_pos q]
              have h3 := hz q
              subst h3
              exact congrArg Prod.fst hp
            · rw [if_neg q]
              have h7 : n = 7 := by omega
              subst h7
              exact congrArg Prod.fst hp
          rw [hbe]
          exact hQ
        · refine w_ic hC dX3_bestQuestion_19 rfl ?_
          refine w_is5 hC dX3_bestQuestion_20 hN (by first | rfl | assumption) ?_
          refine w_dr6 ?_
          have lp22 : ∀ (K2 : Nat) (be fe : Int) (j : Nat), (6 - j) < K2 → (j ≤ 6) → ((be, fe) = bqS (bqF ow s) bqC (6 * (n - 3) + j)) → VV κ 22 [some (vI ow), some (vI (s : Int)), some (vI be), some (vI fe), some (vI (n : Int)), some (vI (j : Int)), none] [] w := by
            intro K2
            induction K2 with
            | zero => intros; omega
            | succ K2 ih22 =>
              intro be fe j hm22 hj hq
              
              refine w_il5 hC dX3_bestQuestion_22 ?_
              refine v_bipush hC dX3_bestQuestion_24 (by decide) ?_
              refine v_ic_ge (tgt := 64) hC dX3_bestQuestion_26 rfl (fun h26 => ?_) (fun h26 => ?_)
              · refine w_inc4 hC dX3_bestQuestion_64 hN (by first | rfl | assumption) (ri_mk (by omega) (by omega)) ?_
                refine v_goto (tgt := 8) hC dX3_bestQuestion_67 rfl ?_
                refine w_dr5 ?_
                refine w_dr6 ?_
                exact ih8 be fe (n + 1) (by omega) (by omega) (by rw [show 6 * (n + 1 - 3) = 6 * (n - 3) + j by omega]; exact hq) (fun q => absurd q (by omega))
              · refine w_il0 hC dX3_bestQuestion_29 ?_
                refine w_il1 hC dX3_bestQuestion_30 ?_
                refine w_il4 hC dX3_bestQuestion_31 ?_
                refine w_il5 hC dX3_bestQuestion_33 ?_
                refine w_st4 hC st_X3_325 dX3_bestQuestion_35 rfl hN (c_mostAlike hs ⟨by omega, by omega⟩ ⟨by omega, by omega⟩ ?_)
                have hal := alM_r ow s n j
                have hbf : bqF ow s (6 * (n - 3) + j) = alM ow s n j := by
                  unfold bqF
                  rw [show (6 * (n - 3) + j) / 6 = n - 3 by omega, show (6 * (n - 3) + j) % 6 = j by omega, show (3 : Int) + ((n - 3 : Nat) : Int) = (n : Int) by omega]
                have hbc : 10 * (n : Int) + (j : Int) = bqC (6 * (n - 3) + j) := by
                  unfold bqC
                  rw [show (6 * (n - 3) + j) / 6 = n - 3 by omega, show (6 * (n - 3) + j) % 6 = j by omega, show (3 : Int) + ((n - 3 : Nat) : Int) = (n : Int) by omega]
                refine w_is6 hC dX3_bestQuestion_38 hN (by first | rfl | assumption) ?_
                refine w_il6 hC dX3_bestQuestion_40 ?_
                refine w_il3 hC dX3_bestQuestion_42 ?_
                refine v_ic_ge (tgt := 58) hC dX3_bestQuestion_43 rfl (fun h43 => ?_) (fun h43 => ?_)
                · refine w_inc5 hC dX3_bestQuestion_58 hN (by first | rfl | assumption) (ri_mk (by omega) (by omega)) ?_
                  refine v_goto (tgt := 22) hC dX3_bestQuestion_61 rfl ?_
                  refine w_dr6 ?_
                  refine ih22 _ _ (j + 1) (by omega) (by omega) ?_
                  rw [show 6 * (n - 3) + (j + 1) = (6 * (n - 3) + j) + 1 from rfl, bqS_s, ← hq, hbf, ← hbc]
                  dsimp only
                  first | rw [if_pos (show alM ow s n j < fe by omega)] | rw [if_neg (show ¬ alM ow s n j < fe by omega)]
                · refine w_il6 hC dX3_bestQuestion_46 ?_
                  refine w_is3 hC dX3_bestQuestion_48 hN (by first | rfl | assumption) ?_
                  refine v_bipush hC dX3_bestQuestion_49 (by decide) ?_
                  refine w_il4 hC dX3_bestQuestion_51 ?_
                  refine w_imul hC dX3_bestQuestion_53 (ri_mk (by omega) (by omega)) ?_
                  refine w_il5 hC dX3_bestQuestion_54 ?_
                  refine w_iadd hC dX3_bestQuestion_56 (ri_mk (by omega) (by omega)) ?_
                  refine w_is2 hC dX3_bestQuestion_57 hN (by first | rfl | assumption) ?_
                  refine w_inc5 hC dX3_bestQuestion_58 hN (by first | rfl | assumption) (ri_mk (by omega) (by omega)) ?_
                  refine v_goto (tgt := 22) hC dX3_bestQuestion_61 rfl ?_
                  refine w_dr6 ?_
                  refine ih22 _ _ (j + 1) (by omega) (by omega) ?_
                  rw [show 6 * (n - 3) + (j + 1) = (6 * (n - 3) + j) + 1 from rfl, bqS_s, ← hq, hbf, ← hbc]
                  dsimp only
                  first | rw [if_pos (show alM ow s n j < fe by omega)] | rw [if_neg (show ¬ alM ow s n j < fe by omega)]
          exact lp22 7 be fe 0 (by omega) (by omega) hp
  exact lp8 8 (-1) 7 3 (by omega) (by omega) rfl (fun _ => rfl)
