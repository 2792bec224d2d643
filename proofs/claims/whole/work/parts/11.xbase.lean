theorem c_within {d : Nat} {w : Wd} {Q : Option MV → Wd → Prop} {n a b : Int} (ht : a ≤ n ∧ n ≤ b → Q (some (.inl 1)) w) (hf : ¬ (a ≤ n ∧ n ≤ b) → Q (some (.inl 0)) w) : Call (d + 0) mX3_within [vI n, vI a, vI b] w Q := by
  refine call_in (ls := [some (vI n), some (vI a), some (vI b)]) (by decide +kernel) rfl (Nat.le_of_ble_eq_true rfl) (fun κ hC hR hN => ?_)
  have hC : ctxB κ RX3 cX3_within (d + 0) := hC
  have hN : mlx κ 3 := hN
  refine w_il0 hC dX3_within_0 ?_
  refine w_il1 hC dX3_within_1 ?_
  refine v_ic_lt (tgt := 14) hC dX3_within_2 rfl (fun h2 => ?_) (fun h2 => ?_)
  · refine w_ic hC dX3_within_14 rfl ?_
    refine v_zret hC hR dX3_within_15 (by first | decide | omega) ?_
    first | exact hf (by omega) | exact ht (by omega)
  · refine w_il0 hC dX3_within_5 ?_
    refine w_il2 hC dX3_within_6 ?_
    refine v_ic_gt (tgt := 14) hC dX3_within_7 rfl (fun h7 => ?_) (fun h7 => ?_)
    · refine w_ic hC dX3_within_14 rfl ?_
      refine v_zret hC hR dX3_within_15 (by first | decide | omega) ?_
      first | exact hf (by omega) | exact ht (by omega)
    · refine w_ic hC dX3_within_10 rfl ?_
      refine v_goto (tgt := 15) hC dX3_within_11 rfl ?_
      refine v_zret hC hR dX3_within_15 (by first | decide | omega) ?_
      first | exact hf (by omega) | exact ht (by omega)

theorem c_hasBit {d : Nat} {w : Wd} {Q : Option MV → Wd → Prop} {s k : Nat} (hs : s < 2147483648) (hk : k < 32) (ht : s.testBit k = true → Q (some (.inl 1)) w) (hf : s.testBit k = false → Q (some (.inl 0)) w) : Call (d + 0) mX3_hasBit [vI s, vI k] w Q := by
  refine call_in (ls := [some (vI s), some (vI k)]) (by decide +kernel) rfl (Nat.le_of_ble_eq_true rfl) (fun κ hC hR hN => ?_)
  have hC : ctxB κ RX3 cX3_hasBit (d + 0) := hC
  have hN : mlx κ 2 := hN
  refine w_il0 hC dX3_hasBit_0 ?_
  refine w_il1 hC dX3_hasBit_1 ?_
  refine v_ishr hC dX3_hasBit_2 ?_
  refine w_ic hC dX3_hasBit_3 rfl ?_
  refine v_iand hC dX3_hasBit_4 ?_
  rw [hasB hs hk]
  refine w_ic hC dX3_hasBit_5 rfl ?_
  refine v_ic_ne (tgt := 13) hC dX3_hasBit_6 rfl (fun h6 => ?_) (fun h6 => ?_)
  · refine w_ic hC dX3_hasBit_13 rfl ?_
    refine v_zret hC hR dX3_hasBit_14 (by first | decide | omega) ?_
    first | exact ht (by cases hb : s.testBit k <;> simp_all) | exact hf (by cases hb : s.testBit k <;> simp_all)
  · refine w_ic hC dX3_hasBit_9 rfl ?_
    refine v_goto (tgt := 14) hC dX3_hasBit_10 rfl ?_
    refine v_zret hC hR dX3_hasBit_14 (by first | decide | omega) ?_
    first | exact ht (by cases hb : s.testBit k <;> simp_all) | exact hf (by cases hb : s.testBit k <;> simp_all)

def atV (w : Wd) (r : Nat) (i : Int) : Int := if 0 ≤ i ∧ i < (szT r : Int) then w r i.toNat else 0
def stV (w : Wd) (r : Nat) (i z : Int) : Wd := if 0 ≤ i ∧ i < (szT r : Int) then up w r i.toNat z else w
theorem atV_in (w : Wd) {r : Nat} {i : Int} (h0 : 0 ≤ i) (h1 : i < (szT r : Int)) : atV w r i = w r i.toNat := if_pos ⟨h0, h1⟩
theorem stV_in (w : Wd) {r : Nat} {i z : Int} (h0 : 0 ≤ i) (h1 : i < (szT r : Int)) : stV w r i z = up w r i.toNat z := if_pos ⟨h0, h1⟩
theorem atV_n (w : Wd) {r : Nat} {i : Nat} (h1 : i < szT r) : atV w r (i : Int) = w r i := by rw [atV_in w (by omega) (by omega)]; rfl
theorem stV_n (w : Wd) {r : Nat} {i : Nat} {z : Int} (h1 : i < szT r) : stV w r (i : Int) z = up w r i z := by rw [stV_in w (by omega) (by omega)]; rfl

theorem c_at {d : Nat} {w : Wd} {Q : Option MV → Wd → Prop} {r : Nat} {i : Int} (hk : kdT r = 5) (hQ : Q (some (.inl (atV w r i))) w) : Call (d + 0) mX3_at [vR r, vI i] w Q := by
  refine call_in (ls := [some (vR r), some (vI i)]) (by decide +kernel) rfl (Nat.le_of_ble_eq_true rfl) (fun κ hC hR hN => ?_)
  have hC : ctxB κ RX3 cX3_at (d + 0) := hC
  have hN : mlx κ 2 := hN
  refine w_il1 hC dX3_at_0 ?_
  refine v_if_lt (tgt := 16) hC dX3_at_1 rfl (fun h1 => ?_) (fun h1 => ?_)
  · refine w_ic hC dX3_at_16 rfl ?_
    refine v_iret hC hR dX3_at_17 ?_
    first | (rw [atV_in w (by omega) (by omega)] at hQ; exact hQ) | (rw [show atV w r i = 0 from if_neg (by omega)] at hQ; exact hQ)
  · refine w_il1 hC dX3_at_4 ?_
    refine w_al0 hC dX3_at_5 ?_
    refine v_alen hC dX3_at_6 hk ?_
    refine v_ic_ge (tgt := 16) hC dX3_at_7 rfl (fun h7 => ?_) (fun h7 => ?_)
    · refine w_ic hC dX3_at_16 rfl ?_
      refine v_iret hC hR dX3_at_17 ?_
      first | (rw [atV_in w (by omega) (by omega)] at hQ; exact hQ) | (rw [show atV w r i = 0 from if_neg (by omega)] at hQ; exact hQ)
    · refine w_al0 hC dX3_at_10 ?_
      refine w_il1 hC dX3_at_11 ?_
      refine v_iald hC dX3_at_12 hk (by omega) (by omega) ?_
      refine v_goto (tgt := 17) hC dX3_at_13 rfl ?_
      refine v_iret hC hR dX3_at_17 ?_
      first | (rw [atV_in w (by omega) (by omega)] at hQ; exact hQ) | (rw [show atV w r i = 0 from if_neg (by omega)] at hQ; exact hQ)

theorem c_atP {d : Nat} {w : Wd} {Q : Option MV → Wd → Prop} {i : Int} (hQ : Q (some (.inl (atV w 50 i))) w) : Call (d + 0) mX3_at [vR 50, vI i] w Q := by
  refine call_in (ls := [some (vR 50), some (vI i)]) (by decide +kernel) rfl (Nat.le_of_ble_eq_true rfl) (fun κ hC hR hN => ?_)
  have hC : ctxB κ RX3 cX3_at (d + 0) := hC
  have hN : mlx κ 2 := hN
  refine w_il1 hC dX3_at_0 ?_
  refine v_if_lt (tgt := 16) hC dX3_at_1 rfl (fun h1 => ?_) (fun h1 => ?_)
  · refine w_ic hC dX3_at_16 rfl ?_
    refine v_iret hC hR dX3_at_17 ?_
    first | (rw [atV_in w (by omega) (by show i < (7 : Int); omega)] at hQ; exact hQ) | (rw [show atV w 50 i = 0 from if_neg (by show ¬ (0 ≤ i ∧ i < (7 : Int)); omega)] at hQ; exact hQ)
  · refine w_il1 hC dX3_at_4 ?_
    refine w_al0 hC dX3_at_5 ?_
    refine v_alenP hC dX3_at_6 ?_
    refine v_ic_ge (tgt := 16) hC dX3_at_7 rfl (fun h7 => ?_) (fun h7 => ?_)
    · refine w_ic hC dX3_at_16 rfl ?_
      refine v_iret hC hR dX3_at_17 ?_
      first | (rw [atV_in w (by omega) (by show i < (7 : Int); omega)] at hQ; exact hQ) | (rw [show atV w 50 i = 0 from if_neg (by show ¬ (0 ≤ i ∧ i < (7 : Int)); omega)] at hQ; exact hQ)
    · refine w_al0 hC dX3_at_10 ?_
      refine w_il1 hC dX3_at_11 ?_
      refine v_ialdP hC dX3_at_12 (by omega) (by omega) ?_
      refine v_goto (tgt := 17) hC dX3_at_13 rfl ?_
      refine v_iret hC hR dX3_at_17 ?_
      first | (rw [atV_in w (by omega) (by show i < (7 : Int); omega)] at hQ; exact hQ) | (rw [show atV w 50 i = 0 from if_neg (by show ¬ (0 ≤ i ∧ i < (7 : Int)); omega)] at hQ; exact hQ)

theorem c_set {d : Nat} {w : Wd} {Q : Option MV → Wd → Prop} {r : Nat} {i z : Int} (hk : kdT r = 5) (hQ : Q none (stV w r i z)) : Call (d + 0) mX3_set [vR r, vI i, vI z] w Q := by
  refine call_in (ls := [some (vR r), some (vI i), some (vI z)]) (by decide +kernel) rfl (Nat.le_of_ble_eq_true rfl) (fun κ hC hR hN => ?_)
  have hC : ctxB κ RX3 cX3_set (d + 0) := hC
  have hN : mlx κ 3 := hN
  refine w_il1 hC dX3_set_0 ?_
  refine v_if_lt (tgt := 14) hC dX3_set_1 rfl (fun h1 => ?_) (fun h1 => ?_)
  · refine v_vret hC hR dX3_set_14 ?_
    first | (rw [stV_in w (by omega) (by omega)] at hQ; exact hQ) | (rw [show stV w r i z = w from if_neg (by omega)] at hQ; exact hQ)
  · refine w_il1 hC dX3_set_4 ?_
    refine w_al0 hC dX3_set_5 ?_
    refine v_alen hC dX3_set_6 hk ?_
    refine v_ic_ge (tgt := 14) hC dX3_set_7 rfl (fun h7 => ?_) (fun h7 => ?_)
    · refine v_vret hC hR dX3_set_14 ?_
      first | (rw [stV_in w (by omega) (by omega)] at hQ; exact hQ) | (rw [show stV w r i z = w from if_neg (by omega)] at hQ; exact hQ)
    · refine w_al0 hC dX3_set_10 ?_
      refine w_il1 hC dX3_set_11 ?_
      refine w_il2 hC dX3_set_12 ?_
      refine v_iast hC dX3_set_13 hk (by omega) (by omega) ?_
      refine v_vret hC hR dX3_set_14 ?_
      first | (rw [stV_in w (by omega) (by omega)] at hQ; exact hQ) | (rw [show stV w r i z = w from if_neg (by omega)] at hQ; exact hQ)

theorem c_isKind {d : Nat} {w : Wd} {Q : Option MV → Wd → Prop} {n : Int} (ht : 0 ≤ n ∧ n ≤ 5 → Q (some (.inl 1)) w) (hf : ¬ (0 ≤ n ∧ n ≤ 5) → Q (some (.inl 0)) w) : Call (d + 1) mX3_isKind [vI n] w Q := by
  refine call_in (ls := [some (vI n)]) (by decide +kernel) rfl (Nat.le_of_ble_eq_true rfl) (fun κ hC hR hN => ?_)
  have hC : ctxB κ RX3 cX3_isKind (d + 1) := hC
  have hN : mlx κ 1 := hN
  refine w_il0 hC dX3_isKind_0 ?_
  refine w_ic hC dX3_isKind_1 rfl ?_
  refine w_ic hC dX3_isKind_2 rfl ?_
  refine w_st3 hC st_X3_50 dX3_isKind_3 rfl hN (c_within (fun h => ?_) (fun h => ?_))
  · refine v_zret hC hR dX3_isKind_6 (by first | decide | omega) ?_
    first | exact ht h | exact hf h
  · refine v_zret hC hR dX3_isKind_6 (by first | decide | omega) ?_
    first | exact ht h | exact hf h

theorem c_isLength {d : Nat} {w : Wd} {Q : Option MV → Wd → Prop} {n : Int} (ht : 3 ≤ n ∧ n ≤ 6 → Q (some (.inl 1)) w) (hf : ¬ (3 ≤ n ∧ n ≤ 6) → Q (some (.inl 0)) w) : Call (d + 1) mX3_isLength [vI n] w Q := by
  refine call_in (ls := [some (vI n)]) (by decide +kernel) rfl (Nat.le_of_ble_eq_true rfl) (fun κ hC hR hN => ?_)
  have hC : ctxB κ RX3 cX3_isLength (d + 1) := hC
  have hN : mlx κ 1 := hN
  refine w_il0 hC dX3_isLength_0 ?_
  refine w_ic hC dX3_isLength_1 rfl ?_
  refine v_bipush hC dX3_isLength_2 (by decide) ?_
  refine w_st3 hC st_X3_50 dX3_isLength_4 rfl hN (c_within (fun h => ?_) (fun h => ?_))
  · refine v_zret hC hR dX3_isLength_7 (by first | decide | omega) ?_
    first | exact ht h | exact hf h
  · refine v_zret hC hR dX3_isLength_7 (by first | decide | omega) ?_
    first | exact ht h | exact hf h

theorem c_isLineNumber {d : Nat} {w : Wd} {Q : Option MV → Wd → Prop} {n : Int} (ht : 0 ≤ n ∧ n ≤ 5 → Q (some (.inl 1)) w) (hf : ¬ (0 ≤ n ∧ n ≤ 5) → Q (some (.inl 0)) w) : Call (d + 1) mX3_isLineNumber [vI n] w Q := by
  refine call_in (ls := [some (vI n)]) (by decide +kernel) rfl (Nat.le_of_ble_eq_true rfl) (fun κ hC hR hN => ?_)
  have hC : ctxB κ RX3 cX3_isLineNumber (d + 1) := hC
  have hN : mlx κ 1 := hN
  refine w_il0 hC dX3_isLineNumber_0 ?_
  refine w_ic hC dX3_isLineNumber_1 rfl ?_
  refine w_ic hC dX3_isLineNumber_2 rfl ?_
  refine w_st3 hC st_X3_50 dX3_isLineNumber_3 rfl hN (c_within (fun h => ?_) (fun h => ?_))
  · refine v_zret hC hR dX3_isLineNumber_6 (by first | decide | omega) ?_
    first | exact ht h | exact hf h
  · refine v_zret hC hR dX3_isLineNumber_6 (by first | decide | omega) ?_
    first | exact ht h | exact hf h

theorem c_isCode {d : Nat} {w : Wd} {Q : Option MV → Wd → Prop} {n c : Int} (hn : 0 ≤ n ∧ n ≤ 6) (ht : 0 ≤ c ∧ c < 10 ^ n.toNat → Q (some (.inl 1)) w) (hf : ¬ (0 ≤ c ∧ c < 10 ^ n.toNat) → Q (some (.inl 0)) w) : Call (d + 1) mX3_isCode [vI n, vI c] w Q := by
  refine call_in (ls := [some (vI n), some (vI c)]) (by decide +kernel) rfl (Nat.le_of_ble_eq_true rfl) (fun κ hC hR hN => ?_)
  have hC : ctxB κ RX3 cX3_isCode (d + 1) := hC
  have hN : mlx κ 2 := hN
  refine w_il1 hC dX3_isCode_0 ?_
  refine v_if_lt (tgt := 19) hC dX3_isCode_1 rfl (fun h1 => ?_) (fun h1 => ?_)
  · refine w_ic hC dX3_isCode_19 rfl ?_
    refine v_zret hC hR dX3_isCode_20 (by first | decide | omega) ?_
    first | exact ht ⟨by omega, by omega⟩ | exact hf (fun h => by omega)
  · refine w_il1 hC dX3_isCode_4 ?_
    refine v_getsP hC dX3_isCode_5 gs_X3_341 ?_
    refine w_il0 hC dX3_isCode_8 ?_
    refine w_st2 hC st_X3_302 dX3_isCode_9 rfl hN (c_atP ?_)
    refine v_ok (fun _ _ hW => ?_)
    rw [atV_in w hn.1 (by show n < (7 : Int); omega), hW.2 n.toNat (by omega)]
    refine v_ic_ge (tgt := 19) hC dX3_isCode_12 rfl (fun h12 => ?_) (fun h12 => ?_)
    · refine w_ic hC dX3_isCode_19 rfl ?_
      refine v_zret hC hR dX3_isCode_20 (by first | decide | omega) ?_
      first | exact ht ⟨by omega, by omega⟩ | exact hf (fun h => by omega)
    · refine w_ic hC dX3_isCode_15 rfl ?_
      refine v_goto (tgt := 20) hC dX3_isCode_16 rfl ?_
      refine v_zret hC hR dX3_isCode_20 (by first | decide | omega) ?_
      first | exact ht ⟨by omega, by omega⟩ | exact hf (fun h => by omega)

theorem c_placeOf {d : Nat} {w : Wd} {Q : Option MV → Wd → Prop} {f n j : Int} (hn : 1 ≤ n ∧ n ≤ 6) (hj : 0 ≤ j ∧ j ≤ 6) (hQ : Q (some (.inl (plN f n j))) w) : Call (d + 0) mX3_placeOf [vI f, vI n, vI j] w Q := by
  refine call_in (ls := [some (vI f), some (vI n), some (vI j), none, none]) (by decide +kernel) rfl (Nat.le_of_ble_eq_true rfl) (fun κ hC hR hN => ?_)
  have hC : ctxB κ RX3 cX3_placeOf (d + 0) := hC
  have hN : mlx κ 5 := hN
  refine w_il1 hC dX3_placeOf_0 ?_
  refine w_ic hC dX3_placeOf_1 rfl ?_
  refine w_isub hC dX3_placeOf_2 (ri_mk (by omega) (by omega)) ?_
  refine w_is3 hC dX3_placeOf_3 hN (by first | rfl | assumption) ?_
  refine w_il1 hC dX3_placeOf_4 ?_
  refine v_if_le (tgt := 14) hC dX3_placeOf_5 rfl (fun h5 => ?_) (fun h5 => ?_)
  · exact absurd h5 (by omega)
  · refine w_il2 hC dX3_placeOf_8 ?_
    refine w_il1 hC dX3_placeOf_9 ?_
    refine v_irem_n hC (by omega) (by omega) dX3_placeOf_10 ?_
    refine v_goto (tgt := 15) hC dX3_placeOf_11 rfl ?_
    refine w_is4 hC dX3_placeOf_15 hN (by first | rfl | assumption) ?_
    refine w_il0 hC dX3_placeOf_17 ?_
    by_cases hs1 : f = 1
    · refine v_tsAt hC 1 (tgt := 52) hs1 dX3_placeOf_18 rfl rfl rfl ?_
      refine w_il3 hC dX3_placeOf_52 ?_
      refine v_iret hC hR dX3_placeOf_53 ?_
      first | exact hQ | (have hQ2 := hQ; unfold plN at hQ2; simp only [*, if_true, if_false, ite_true, ite_false] at hQ2; simpa using hQ2)
    by_cases hs2 : f = 2
    · refine v_tsAt hC 2 (tgt := 54) hs2 dX3_placeOf_18 rfl rfl rfl ?_
      refine w_il1 hC dX3_placeOf_54 ?_
      refine w_ic hC dX3_placeOf_55 rfl ?_
      refine v_idiv_n hC (by omega) (by omega) dX3_placeOf_56 ?_
      refine v_iret hC hR dX3_placeOf_57 ?_
      first | exact hQ | (have hQ2 := hQ; unfold plN at hQ2; simp only [*, if_true, if_false, ite_true, ite_false] at hQ2; simpa using hQ2)
    by_cases hs3 : f = 3
    · refine v_tsAt hC 3 (tgt := 58) hs3 dX3_placeOf_18 rfl rfl rfl ?_
      refine w_il4 hC dX3_placeOf_58 ?_
      refine v_iret hC hR dX3_placeOf_60 ?_
      first | exact hQ | (have hQ2 := hQ; unfold plN at hQ2; simp only [*, if_true, if_false, ite_true, ite_false] at hQ2; simpa using hQ2)
    by_cases hs4 : f = 4
    · refine v_tsAt hC 4 (tgt := 61) hs4 dX3_placeOf_18 rfl rfl rfl ?_
      refine w_il3 hC dX3_placeOf_61 ?_
      refine w_il4 hC dX3_placeOf_62 ?_
      refine v_isub hC dX3_placeOf_64 ?_
      rw [wr_id (by have := Int.emod_nonneg j (show n ≠ 0 by omega); have := Int.emod_lt_of_pos j (show 0 < n by omega); exact ri_mk (by omega) (by omega))]
      refine v_iret hC hR dX3_placeOf_65 ?_
      first | exact hQ | (have hQ2 := hQ; unfold plN at hQ2; simp only [*, if_true, if_false, ite_true, ite_false] at hQ2; simpa using hQ2)
    by_cases hs5 : f = 5
    · refine v_tsAt hC 5 (tgt := 66) hs5 dX3_placeOf_18 rfl rfl rfl ?_
      refine w_il2 hC dX3_placeOf_66 ?_
      refine w_ic hC dX3_placeOf_67 rfl ?_
      refine v_iand hC dX3_placeOf_68 ?_
      rw [bAnd_1 hj.1 (by omega)]
      refine w_ic hC dX3_placeOf_69 rfl ?_
      refine v_ic_ne (tgt := 77) hC dX3_placeOf_70 rfl (fun h70 => ?_) (fun h70 => ?_)
      · refine w_ic hC dX3_placeOf_77 rfl ?_
        refine v_iret hC hR dX3_placeOf_78 ?_
        first | exact hQ | (have hQ2 := hQ; unfold plN at hQ2; simp only [*, if_true, if_false, ite_true, ite_false] at hQ2; simpa using hQ2)
      · refine w_il3 hC dX3_placeOf_73 ?_
        refine v_goto (tgt := 78) hC dX3_placeOf_74 rfl ?_
        refine v_iret hC hR dX3_placeOf_78 ?_
        first | exact hQ | (have hQ2 := hQ; unfold plN at hQ2; simp only [*, if_true, if_false, ite_true, ite_false] at hQ2; simpa using hQ2)
    refine v_tsOut (tgt := 79) hC dX3_placeOf_18 (by omega) rfl ?_
    refine w_ic hC dX3_placeOf_79 rfl ?_
    refine v_iret hC hR dX3_placeOf_80 ?_
    first | exact hQ | (have hQ2 := hQ; unfold plN at hQ2; simp only [*, if_true, if_false, ite_true, ite_false] at hQ2; simpa using hQ2)

theorem qz {Q : Option MV → Wd → Prop} {w : Wd} {a b : Int} (e : a = b) (h : Q (some (.inl a)) w) : Q (some (.inl b)) w := e ▸ h

theorem c_costOf {d : Nat} {w : Wd} {Q : Option MV → Wd → Prop} {k n j : Int} (hn : 0 ≤ n ∧ n ≤ 6) (hj : 0 ≤ j ∧ j ≤ 6) (hQ : Q (some (.inl (coN k n j))) w) : Call (d + 0) mX3_costOf [vI k, vI n, vI j] w Q := by
  refine call_in (ls := [some (vI k), some (vI n), some (vI j), none, none, none]) (by decide +kernel) rfl (Nat.le_of_ble_eq_true rfl) (fun κ hC hR hN => ?_)
  have hC : ctxB κ RX3 cX3_costOf (d + 0) := hC
  have hN : mlx κ 6 := hN
  refine w_il1 hC dX3_costOf_0 ?_
  refine w_is3 hC dX3_costOf_1 hN (by first | rfl | assumption) ?_
  refine w_il3 hC dX3_costOf_2 ?_
  refine w_ic hC dX3_costOf_3 rfl ?_
  refine w_iadd hC dX3_costOf_4 (ri_mk (by omega) (by omega)) ?_
  refine w_is4 hC dX3_costOf_5 hN (by first | rfl | assumption) ?_
  refine w_il3 hC dX3_costOf_7 ?_
  refine w_ic hC dX3_costOf_8 rfl ?_
  refine w_iadd hC dX3_costOf_9 (ri_mk (by omega) (by omega)) ?_
  refine w_ic hC dX3_costOf_10 rfl ?_
  refine v_idiv_n hC (by omega) (by omega) dX3_costOf_11 ?_
  refine w_is5 hC dX3_costOf_12 hN (by first | rfl | assumption) ?_
  refine w_il0 hC dX3_costOf_14 ?_
  by_cases hs1 : k = 1
  · refine v_tsAt hC 1 (tgt := 48) hs1 dX3_costOf_15 rfl rfl rfl ?_
    refine w_il4 hC dX3_costOf_48 ?_
    refine v_iret hC hR dX3_costOf_50 ?_
    exact qz (by unfold coN; (repeat' split) <;> omega) hQ
  by_cases hs2 : k = 2
  · refine v_tsAt hC 2 (tgt := 51) hs2 dX3_costOf_15 rfl rfl rfl ?_
    refine w_il5 hC dX3_costOf_51 ?_
    refine v_iret hC hR dX3_costOf_53 ?_
    exact qz (by unfold coN; (repeat' split) <;> omega) hQ
  by_cases hs3 : k = 3
  · refine v_tsAt hC 3 (tgt := 54) hs3 dX3_costOf_15 rfl rfl rfl ?_
    refine w_il3 hC dX3_costOf_54 ?_
    refine w_il2 hC dX3_costOf_55 ?_
    refine w_iadd hC dX3_costOf_56 (ri_mk (by omega) (by omega)) ?_
    refine v_iret hC hR dX3_costOf_57 ?_
    exact qz (by unfold coN; (repeat' split) <;> omega) hQ
  by_cases hs4 : k = 4
  · refine v_tsAt hC 4 (tgt := 58) hs4 dX3_costOf_15 rfl rfl rfl ?_
    refine w_il2 hC dX3_costOf_58 ?_
    refine v_if_ne (tgt := 66) hC dX3_costOf_59 rfl (fun h59 => ?_) (fun h59 => ?_)
    · refine w_il4 hC dX3_costOf_66 ?_
      refine v_iret hC hR dX3_costOf_68 ?_
      exact qz (by unfold coN; (repeat' split) <;> omega) hQ
    · refine w_ic hC dX3_costOf_62 rfl ?_
      refine v_goto (tgt := 68) hC dX3_costOf_63 rfl ?_
      refine v_iret hC hR dX3_costOf_68 ?_
      exact qz (by unfold coN; (repeat' split) <;> omega) hQ
  by_cases hs5 : k = 5
  · refine v_tsAt hC 5 (tgt := 69) hs5 dX3_costOf_15 rfl rfl rfl ?_
    refine w_il2 hC dX3_costOf_69 ?_
    refine w_ic hC dX3_costOf_70 rfl ?_
    refine v_ic_lt (tgt := 81) hC dX3_costOf_71 rfl (fun h71 => ?_) (fun h71 => ?_)
    · refine w_il5 hC dX3_costOf_81 ?_
      refine v_iret hC hR dX3_costOf_83 ?_
      exact qz (by unfold coN; (repeat' split) <;> omega) hQ
    · refine w_il5 hC dX3_costOf_74 ?_
      refine w_ic hC dX3_costOf_76 rfl ?_
      refine w_iadd hC dX3_costOf_77 (ri_mk (by omega) (by omega)) ?_
      refine v_goto (tgt := 83) hC dX3_costOf_78 rfl ?_
      refine v_iret hC hR dX3_costOf_83 ?_
      exact qz (by unfold coN; (repeat' split) <;> omega) hQ
  refine v_tsOut (tgt := 84) hC dX3_costOf_15 (by omega) rfl ?_
  refine w_il3 hC dX3_costOf_84 ?_
  refine v_iret hC hR dX3_costOf_85 ?_
  exact qz (by unfold coN; (repeat' split) <;> omega) hQ

theorem ltN_step {c n p bh rest : Int} (h : rest / 10 ^ (bh - p).toNat % 10 = ltN c n p) (hb : p < bh) : rest / 10 / 10 ^ (bh - 1 - p).toNat % 10 = ltN c n p := by
  rw [← h]
  have e : (bh - p).toNat = (bh - 1 - p).toNat + 1 := by omega
  rw [e, Int.pow_succ, Int.mul_comm, Int.ediv_ediv_of_nonneg (by decide)]

theorem c_letterOf {d : Nat} {w : Wd} {Q : Option MV → Wd → Prop} {c n p : Int} (hc : 0 ≤ c) (hn : 0 ≤ n ∧ n ≤ 6) (hp : 0 ≤ p ∧ p ≤ 6) (hQ : Q (some (.inl (ltN c n p))) w) : Call (d + 0) mX3_letterOf [vI c, vI n, vI p] w Q := by
  refine call_in (ls := [some (vI c), some (vI n), some (vI p), none, none]) (by decide +kernel) rfl (Nat.le_of_ble_eq_true rfl) (fun κ hC hR hN => ?_)
  have hC : ctxB κ RX3 cX3_letterOf (d + 0) := hC
  have hN : mlx κ 5 := hN
  refine w_il0 hC dX3_letterOf_0 ?_
  refine w_is3 hC dX3_letterOf_1 hN (by first | rfl | assumption) ?_
  refine w_il1 hC dX3_letterOf_2 ?_
  refine w_ic hC dX3_letterOf_3 rfl ?_
  refine w_isub hC dX3_letterOf_4 (ri_mk (by omega) (by omega)) ?_
  refine w_is4 hC dX3_letterOf_5 hN (by first | rfl | assumption) ?_
  have lp7 : ∀ (k : Nat) (rest bh : Int), (bh - p).toNat < k → (0 ≤ rest) → (bh ≤ 6 ∧ -1 ≤ bh) → (rest / 10 ^ (bh - p).toNat % 10 = ltN c n p) → VV κ 7 [some (vI c), some (vI n), some (vI p), some (vI rest), some (vI bh)] [] w := by
    intro k
    induction k with
    | zero => intros; omega
    | succ k ih =>
      intro rest bh hm7 hr hb hv
      refine w_il4 hC dX3_letterOf_7 ?_
      refine w_il2 hC dX3_letterOf_9 ?_
      refine v_ic_le (tgt := 24) hC dX3_letterOf_10 rfl (fun h10 => ?_) (fun h10 => ?_)
      · refine w_il3 hC dX3_letterOf_24 ?_
        refine v_bipush hC dX3_letterOf_25 (by decide) ?_
        refine v_irem_n hC (by omega) (by omega) dX3_letterOf_27 ?_
        refine v_iret hC hR dX3_letterOf_28 ?_
        rw [← hv, show (bh - p).toNat = 0 by omega] at hQ
        simpa using hQ
      · refine w_il3 hC dX3_letterOf_13 ?_
        refine v_bipush hC dX3_letterOf_14 (by decide) ?_
        refine v_idiv_n hC (by omega) (by omega) dX3_letterOf_16 ?_
        refine w_is3 hC dX3_letterOf_17 hN (by first | rfl | assumption) ?_
        refine w_inc4 hC dX3_letterOf_18 hN (by first | rfl | assumption) (ri_mk (by omega) (by omega)) ?_
        refine v_goto (tgt := 7) hC dX3_letterOf_21 rfl ?_
        exact ih (rest / 10) (bh + -1) (by omega) (Int.ediv_nonneg hr (by decide)) (by omega) (ltN_step hv (by omega))
  exact lp7 ((n - 1 - p).toNat + 1) c (n - 1) (by omega) hc (by omega) rfl
