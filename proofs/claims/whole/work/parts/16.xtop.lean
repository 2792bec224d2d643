/-! the calls of the class -/
abbrev cI (w : Wd) (i k : Nat) : Wd := up w i k (wr (w i k + 1))
theorem vb1 : vb 1 := Or.inl rfl
theorem vb9 : vb 9 := Or.inr (Or.inl rfl)
theorem vb17 : vb 17 := Or.inr (Or.inr (Or.inl rfl))
theorem vb25 : vb 25 := Or.inr (Or.inr (Or.inr rfl))
theorem ri_mkL {z : Int} (h1 : -9223372036854775808 ≤ z) (h2 : z < 9223372036854775808) : ri64 z := ⟨h1, h2⟩
theorem VX.fr {w w2 : Wd} {b : Nat} {a : Nat → Int} (h : VX w b a) (e : ∀ i k : Nat, b ≤ i → i < b + 8 → w2 i k = w i k) : VX w2 b a := by
  obtain ⟨⟨x0, x1, x2, x3, x4, x5, x6⟩, xw, xl, xn, xm, xu⟩ := h
  have e0 : ∀ k, w2 b k = w b k := fun k => e b k (by omega) (by omega)
  have ej : ∀ j k, j < 8 → w2 (b + j) k = w (b + j) k := fun j k h => e (b + j) k (by omega) (by omega)
  refine ⟨⟨?_, ?_, ?_, ?_, ?_, ?_, ?_⟩, fun k hk => ?_, fun j hj => ?_, fun k hk => ?_, fun k hk => ?_, fun k hk => ?_⟩
  · rw [e0]; exact x0
  · rw [e0]; exact x1
  · rw [e0]; exact x2
  · rw [e0]; exact x3
  · rw [e0]; exact x4
  · rw [e0]; exact x5
  · rw [e0]; exact x6
  · rw [ej 1 k (by omega), ej 2 k (by omega), ej 3 k (by omega)]; exact xw k hk
  · rw [ej 4 j (by omega)]; exact xl j hj
  · rw [ej 5 k (by omega)]; exact xn k hk
  · rw [ej 6 k (by omega)]; exact xm k hk
  · rw [ej 7 k (by omega)]; exact xu k hk

theorem c_refBad {d : Nat} {w : Wd} {Q : Option MV → Wd → Prop} (hQ : Q (some (.inl (-2))) (cI w 0 10)) : Call (d + 0) mX3_refuse [vR 0, vI (-2)] w Q := by
  refine call_in (ls := [some (vR 0), some (vI (-2))]) (by decide +kernel) rfl (Nat.le_of_ble_eq_true rfl) (fun κ hC hR hN => ?_)
  have hC : ctxB κ RX3 cX3_refuse (d + 0) := hC
  have hN : mlx κ 2 := hN
  refine w_il1 hC dX3_refuse_0 ?_
  refine v_bipush hC dX3_refuse_1 (by decide) ?_
  refine v_ic_ne (tgt := 19) hC dX3_refuse_3 rfl (fun h3 => ?_) (fun h3 => ?_)
  · exact absurd rfl h3
  · refine w_al0 hC dX3_refuse_6 ?_
    refine v_dup hC dX3_refuse_7 rfl ?_
    refine v_getI hC dX3_refuse_8 fd_X3_267 rfl rfl ?_
    refine w_ic hC dX3_refuse_11 rfl ?_
    refine v_iadd hC dX3_refuse_12 ?_
    refine v_putI hC dX3_refuse_13 fp_X3_267 rfl rfl ?_
    refine v_goto (tgt := 48) hC dX3_refuse_16 rfl ?_
    refine w_il1 hC dX3_refuse_48 ?_
    refine v_iret hC hR dX3_refuse_49 ?_
    exact hQ

theorem c_refNo {d : Nat} {w : Wd} {Q : Option MV → Wd → Prop} (hQ : Q (some (.inl (-3))) (cI w 0 11)) : Call (d + 0) mX3_refuse [vR 0, vI (-3)] w Q := by
  refine call_in (ls := [some (vR 0), some (vI (-3))]) (by decide +kernel) rfl (Nat.le_of_ble_eq_true rfl) (fun κ hC hR hN => ?_)
  have hC : ctxB κ RX3 cX3_refuse (d + 0) := hC
  have hN : mlx κ 2 := hN
  refine w_il1 hC dX3_refuse_0 ?_
  refine v_bipush hC dX3_refuse_1 (by decide) ?_
  refine v_ic_ne (tgt := 19) hC dX3_refuse_3 rfl (fun h3 => ?_) (fun h3 => ?_)
  · refine w_il1 hC dX3_refuse_19 ?_
    refine v_bipush hC dX3_refuse_20 (by decide) ?_
    refine v_ic_ne (tgt := 38) hC dX3_refuse_22 rfl (fun h22 => ?_) (fun h22 => ?_)
    · exact absurd rfl h22
    · refine w_al0 hC dX3_refuse_25 ?_
      refine v_dup hC dX3_refuse_26 rfl ?_
      refine v_getI hC dX3_refuse_27 fd_X3_270 rfl rfl ?_
      refine w_ic hC dX3_refuse_30 rfl ?_
      refine v_iadd hC dX3_refuse_31 ?_
      refine v_putI hC dX3_refuse_32 fp_X3_270 rfl rfl ?_
      refine v_goto (tgt := 48) hC dX3_refuse_35 rfl ?_
      refine w_il1 hC dX3_refuse_48 ?_
      refine v_iret hC hR dX3_refuse_49 ?_
      exact hQ
  · exact absurd h3 (by decide)

theorem c_refFull {d : Nat} {w : Wd} {Q : Option MV → Wd → Prop} (hQ : Q (some (.inl (-4))) (cI w 0 12)) : Call (d + 0) mX3_refuse [vR 0, vI (-4)] w Q := by
  refine call_in (ls := [some (vR 0), some (vI (-4))]) (by decide +kernel) rfl (Nat.le_of_ble_eq_true rfl) (fun κ hC hR hN => ?_)
  have hC : ctxB κ RX3 cX3_refuse (d + 0) := hC
  have hN : mlx κ 2 := hN
  refine w_il1 hC dX3_refuse_0 ?_
  refine v_bipush hC dX3_refuse_1 (by decide) ?_
  refine v_ic_ne (tgt := 19) hC dX3_refuse_3 rfl (fun h3 => ?_) (fun h3 => ?_)
  · refine w_il1 hC dX3_refuse_19 ?_
    refine v_bipush hC dX3_refuse_20 (by decide) ?_
    refine v_ic_ne (tgt := 38) hC dX3_refuse_22 rfl (fun h22 => ?_) (fun h22 => ?_)
    · refine w_al0 hC dX3_refuse_38 ?_
      refine v_dup hC dX3_refuse_39 rfl ?_
      refine v_getI hC dX3_refuse_40 fd_X3_273 rfl rfl ?_
      refine w_ic hC dX3_refuse_43 rfl ?_
      refine v_iadd hC dX3_refuse_44 ?_
      refine v_putI hC dX3_refuse_45 fp_X3_273 rfl rfl ?_
      refine w_il1 hC dX3_refuse_48 ?_
      refine v_iret hC hR dX3_refuse_49 ?_
      exact hQ
    · exact absurd h22 (by decide)
  · exact absurd h3 (by decide)

theorem c_verse {d : Nat} {w : Wd} {Q : Option MV → Wd → Prop} {a : Nat → Int} (hv : VX w 1 a) (hA : AOK a) {f m t : Int} (hb0 : ¬ ((0 ≤ f ∧ f ≤ 5) ∧ (1 ≤ m ∧ m ≤ 6) ∧ 0 ≤ t ∧ t < 10 ^ m.toNat) → Q (some (.inl (-2))) (cI w 0 10)) (hk : (0 ≤ f ∧ f ≤ 5) ∧ (1 ≤ m ∧ m ≤ 6) ∧ 0 ≤ t ∧ t < 10 ^ m.toNat → ∀ w2, VX w2 1 (sBegin f m t) → smB w w2 1 → Q (some (.inl (a 3))) w2) : Call (d + 2) mX3_verse [vR 0, vI f, vI m, vI t] w Q := by
  have hb : vb 1 := Or.inl rfl
  have hv0 := hv
  obtain ⟨⟨x0, x1, x2, x3, x4, x5, x6⟩, xw, xl, xn, xm, xu⟩ := hv
  have am := hA.m
  have an := hA.n
  have af := hA.f
  have anc := hA.nc
  have amc := hA.mc
  have auc := hA.uc
  refine call_in (ls := [some (vR 0), some (vI f), some (vI m), some (vI t), none]) (by decide +kernel) rfl (Nat.le_of_ble_eq_true rfl) (fun κ hC hR hN => ?_)
  have hC : ctxB κ RX3 cX3_verse (d + 2) := hC
  have hN : mlx κ 5 := hN
  refine w_il1 hC dX3_verse_0 ?_
  refine w_st1 hC st_X3_46 dX3_verse_1 rfl hN (c_isKind (fun g1 => ?_) (fun g1 => ?_))
  · refine v_if_eq (tgt := 25) hC dX3_verse_4 rfl (fun h => absurd h (by decide)) (fun _ => ?_)
    refine w_il2 hC dX3_verse_7 ?_
    refine w_ic hC dX3_verse_8 rfl ?_
    refine v_bipush hC dX3_verse_9 (by decide) ?_
    refine w_st3 hC st_X3_50 dX3_verse_11 rfl hN (c_within (fun g2 => ?_) (fun g2 => ?_))
    · refine v_if_eq (tgt := 25) hC dX3_verse_14 rfl (fun h => absurd h (by decide)) (fun _ => ?_)
      refine w_il2 hC dX3_verse_17 ?_
      refine w_il3 hC dX3_verse_18 ?_
      refine w_st2 hC st_X3_54 dX3_verse_19 rfl hN (c_isCode ⟨by omega, by omega⟩ (fun g3 => ?_) (fun g3 => ?_))
      · refine v_if_ne (tgt := 32) hC dX3_verse_22 rfl (fun _ => ?_) (fun h => absurd h (by decide))
        refine w_al0 hC dX3_verse_32 ?_
        refine v_getR (off := 1) (j := 1) hC dX3_verse_33 fd_X3_10 rfl rfl rfl ?_
        refine v_getI hC dX3_verse_36 fd_X3_62 rfl rfl ?_
        rw [x3]
        refine w_is4 hC dX3_verse_39 hN (by first | rfl | assumption) ?_
        refine w_al0 hC dX3_verse_41 ?_
        refine v_getR (off := 1) (j := 1) hC dX3_verse_42 fd_X3_10 rfl rfl rfl ?_
        refine w_il1 hC dX3_verse_45 ?_
        refine w_il2 hC dX3_verse_46 ?_
        refine w_il3 hC dX3_verse_47 ?_
        refine w_vi3 hC vi_X3_66 rfl dX3_verse_48 rfl hN (c_begin hb (fun w2 v2 o2 => ?_))
        refine w_il4 hC dX3_verse_51 ?_
        refine v_iret hC hR dX3_verse_53 ?_
        exact hk (by omega) w2 v2 o2
      · refine v_if_ne (tgt := 32) hC dX3_verse_22 rfl (fun h => absurd h (by decide)) (fun _ => ?_)
        refine w_al0 hC dX3_verse_25 ?_
        refine v_bipush hC dX3_verse_26 (by decide) ?_
        refine w_vi1 hC vi_X3_58 rfl dX3_verse_28 rfl hN (c_refBad ?_)
        refine v_iret hC hR dX3_verse_31 ?_
        exact hb0 (by omega)
    · refine v_if_eq (tgt := 25) hC dX3_verse_14 rfl (fun _ => ?_) (fun h => absurd h (by decide))
      refine w_al0 hC dX3_verse_25 ?_
      refine v_bipush hC dX3_verse_26 (by decide) ?_
      refine w_vi1 hC vi_X3_58 rfl dX3_verse_28 rfl hN (c_refBad ?_)
      refine v_iret hC hR dX3_verse_31 ?_
      exact hb0 (by omega)
  · refine v_if_eq (tgt := 25) hC dX3_verse_4 rfl (fun _ => ?_) (fun h => absurd h (by decide))
    refine w_al0 hC dX3_verse_25 ?_
    refine v_bipush hC dX3_verse_26 (by decide) ?_
    refine w_vi1 hC vi_X3_58 rfl dX3_verse_28 rfl hN (c_refBad ?_)
    refine v_iret hC hR dX3_verse_31 ?_
    exact hb0 (by omega)

theorem c_form {d : Nat} {w : Wd} {Q : Option MV → Wd → Prop} {a : Nat → Int} (hv : VX w 1 a) (hA : AOK a) {f : Int} (hb0 : ¬ (0 ≤ f ∧ f ≤ 5) → Q (some (.inl (-2))) (cI w 0 10)) (hk : (0 ≤ f ∧ f ≤ 5) → ∀ w2, VX w2 1 (ua (ua a 0 f) 78 0) → smB w w2 1 → Q (some (.inl (a 0))) w2) : Call (d + 2) mX3_form [vR 0, vI f] w Q := by
  have hb : vb 1 := Or.inl rfl
  have hv0 := hv
  obtain ⟨⟨x0, x1, x2, x3, x4, x5, x6⟩, xw, xl, xn, xm, xu⟩ := hv
  have am := hA.m
  have an := hA.n
  have af := hA.f
  have anc := hA.nc
  have amc := hA.mc
  have auc := hA.uc
  refine call_in (ls := [some (vR 0), some (vI f), none]) (by decide +kernel) rfl (Nat.le_of_ble_eq_true rfl) (fun κ hC hR hN => ?_)
  have hC : ctxB κ RX3 cX3_form (d + 2) := hC
  have hN : mlx κ 3 := hN
  refine w_il1 hC dX3_form_0 ?_
  refine w_st1 hC st_X3_46 dX3_form_1 rfl hN (c_isKind (fun g1 => ?_) (fun g1 => ?_))
  · refine v_if_ne (tgt := 14) hC dX3_form_4 rfl (fun _ => ?_) (fun h => absurd h (by decide))
    refine w_al0 hC dX3_form_14 ?_
    refine v_getR (off := 1) (j := 1) hC dX3_form_15 fd_X3_10 rfl rfl rfl ?_
    refine v_getI hC dX3_form_18 fd_X3_70 rfl rfl ?_
    rw [x0]
    refine w_is2 hC dX3_form_21 hN (by first | rfl | assumption) ?_
    refine w_al0 hC dX3_form_22 ?_
    refine v_getR (off := 1) (j := 1) hC dX3_form_23 fd_X3_10 rfl rfl rfl ?_
    refine w_il1 hC dX3_form_26 ?_
    refine v_putI hC dX3_form_27 fp_X3_70 rfl rfl ?_
    refine w_al0 hC dX3_form_30 ?_
    refine v_getR (off := 1) (j := 1) hC dX3_form_31 fd_X3_10 rfl rfl rfl ?_
    refine w_ic hC dX3_form_34 rfl ?_
    refine v_putI hC dX3_form_35 fp_X3_73 rfl rfl ?_
    refine w_il2 hC dX3_form_38 ?_
    refine v_iret hC hR dX3_form_39 ?_
    refine hk g1 _ ?_ (fun i k hi => by rw [up_id _ _ (by omega), up_id _ _ (by omega)])
    have u : ∀ i k : Nat, ¬ (i = 1 ∧ (k = 0 ∨ k = 6)) → up (up w 1 0 f) 1 6 0 i k = w i k := fun i k h => by rw [up_ne _ _ (by omega), up_ne _ _ (by omega)]
    have ug : ∀ q : Nat, q ≠ 0 → q ≠ 78 → ua (ua a 0 f) 78 0 q = a q := fun q h1 h2 => by unfold ua; rw [if_neg h2, if_neg h1]
    have ug3 := ug 3 (by omega) (by omega)
    have ug34 := ug 34 (by omega) (by omega)
    have ug53 := ug 53 (by omega) (by omega)
    refine ⟨⟨?_, ?_, ?_, ?_, ?_, ?_, ?_⟩, fun k hk => ?_, fun j hj => ?_, fun k hk => ?_, fun k hk => ?_, fun k hk => ?_⟩
    · rw [up_pl _ _ (by omega), up_same]; rfl
    · rw [u _ _ (by omega), x1, ug _ (by omega) (by omega)]
    · rw [u _ _ (by omega), x2, ug _ (by omega) (by omega)]
    · rw [u _ _ (by omega), x3, ug3]
    · rw [u _ _ (by omega), x4, ug34]
    · rw [u _ _ (by omega), x5, ug53]
    · rw [up_same]; rfl
    · rw [u _ _ (by omega), u _ _ (by omega), u _ _ (by omega), ug _ (by omega) (by omega), ug _ (by omega) (by omega), ug _ (by omega) (by omega)]; exact xw k (by omega)
    · rw [u _ _ (by omega), ug _ (by omega) (by omega)]; exact xl j hj
    · rw [u _ _ (by omega), ug _ (by omega) (by omega)]; exact xn k (by omega)
    · rw [u _ _ (by omega), ug _ (by omega) (by omega)]; exact xm k (by omega)
    · rw [show ua (ua a 0 f) 78 0 78 = 0 from rfl] at hk; omega
  · refine v_if_ne (tgt := 14) hC dX3_form_4 rfl (fun h => absurd h (by decide)) (fun _ => ?_)
    refine w_al0 hC dX3_form_7 ?_
    refine v_bipush hC dX3_form_8 (by decide) ?_
    refine w_vi1 hC vi_X3_58 rfl dX3_form_10 rfl hN (c_refBad ?_)
    refine v_iret hC hR dX3_form_13 ?_
    exact hb0 g1

/-- an undo count of 0 -/
theorem VX.un0 {w : Wd} {b : Nat} {a : Nat → Int} (hv : VX w b a) (h3 : a 3 ≤ 8) (h34 : a 34 ≤ 6) (h53 : a 53 ≤ 6) : VX (up w b 6 0) b (ua a 78 0) := by
  obtain ⟨⟨x0, x1, x2, x3, x4, x5, x6⟩, xw, xl, xn, xm, xu⟩ := hv
  have u : ∀ i k : Nat, ¬ (i = b ∧ k = 6) → up w b 6 0 i k = w i k := fun i k h => up_ne _ _ h
  have ug : ∀ q : Nat, q ≠ 78 → ua a 78 0 q = a q := fun q h2 => by unfold ua; rw [if_neg h2]
  have ug3 := ug 3 (by omega)
  have ug34 := ug 34 (by omega)
  have ug53 := ug 53 (by omega)
  refine ⟨⟨?_, ?_, ?_, ?_, ?_, ?_, ?_⟩, fun k hk => ?_, fun j hj => ?_, fun k hk => ?_, fun k hk => ?_, fun k hk => ?_⟩
  · rw [u _ _ (by omega), x0, ug _ (by omega)]
  · rw [u _ _ (by omega), x1, ug _ (by omega)]
  · rw [u _ _ (by omega), x2, ug _ (by omega)]
  · rw [u _ _ (by omega), x3, ug3]
  · rw [u _ _ (by omega), x4, ug34]
  · rw [u _ _ (by omega), x5, ug53]
  · rw [up_same]; rfl
  · rw [u _ _ (by omega), u _ _ (by omega), u _ _ (by omega), ug _ (by omega), ug _ (by omega), ug _ (by omega)]; exact xw k (by omega)
  · rw [u _ _ (by omega), ug _ (by omega)]; exact xl j hj
  · rw [u _ _ (by omega), ug _ (by omega)]; exact xn k (by omega)
  · rw [u _ _ (by omega), ug _ (by omega)]; exact xm k (by omega)
  · rw [show ua a 78 0 78 = 0 from rfl] at hk; omega
/-- a word on a line -/
theorem VX.ln1 {w : Wd} {b : Nat} {a : Nat → Int} {j : Nat} {z : Int} (hv : VX w b a) (hj : j < 6) (h3 : a 3 ≤ 8) : VX (up w (b + 4) j z) b (ua a (28 + j) z) := by
  obtain ⟨⟨x0, x1, x2, x3, x4, x5, x6⟩, xw, xl, xn, xm, xu⟩ := hv
  have u : ∀ i k : Nat, i ≠ b + 4 → up w (b + 4) j z i k = w i k := fun i k h => up_id _ _ h
  have ug : ∀ q : Nat, q < 28 ∨ 34 ≤ q → ua a (28 + j) z q = a q := fun q h2 => by unfold ua; rw [if_neg (by omega)]
  have ug3 := ug 3 (by omega)
  have ug34 := ug 34 (by omega)
  have ug53 := ug 53 (by omega)
  have ug78 := ug 78 (by omega)
  refine ⟨⟨?_, ?_, ?_, ?_, ?_, ?_, ?_⟩, fun k hk => ?_, fun i hi => ?_, fun k hk => ?_, fun k hk => ?_, fun k hk => ?_⟩
  · rw [u _ _ (by omega), x0, ug _ (by omega)]
  · rw [u _ _ (by omega), x1, ug _ (by omega)]
  · rw [u _ _ (by omega), x2, ug _ (by omega)]
  · rw [u _ _ (by omega), x3, ug3]
  · rw [u _ _ (by omega), x4, ug34]
  · rw [u _ _ (by omega), x5, ug53]
  · rw [u _ _ (by omega), x6, ug78]
  · rw [u _ _ (by omega), u _ _ (by omega), u _ _ (by omega), ug _ (by omega), ug _ (by omega), ug _ (by omega)]; exact xw k (by omega)
  · by_cases q : i = j
    · subst q; rw [up_same]; unfold ua; rw [if_pos rfl]
    · rw [up_pl _ _ q, xl i hi]; unfold ua; rw [if_neg (by omega)]
  · rw [u _ _ (by omega), ug _ (by omega)]; exact xn k (by omega)
  · rw [u _ _ (by omega), ug _ (by omega)]; exact xm k (by omega)
  · rw [u _ _ (by omega), ug _ (by omega)]; exact xu k (by omega)

theorem c_word {d : Nat} {w : Wd} {Q : Option MV → Wd → Prop} {a : Nat → Int} (hv : VX w 1 a) (hA : AOK a) {f n c : Int} (hb0 : ¬ ((0 ≤ f ∧ f ≤ 5) ∧ (3 ≤ n ∧ n ≤ 6) ∧ 0 ≤ c ∧ c < 10 ^ n.toNat) → Q (some (.inl (-2))) (cI w 0 10)) (hn0 : (0 ≤ f ∧ f ≤ 5) ∧ (3 ≤ n ∧ n ≤ 6) ∧ 0 ≤ c ∧ c < 10 ^ n.toNat → knB a n c → Q (some (.inl (-3))) (cI w 0 11)) (hf0 : (0 ≤ f ∧ f ≤ 5) ∧ (3 ≤ n ∧ n ≤ 6) ∧ 0 ≤ c ∧ c < 10 ^ n.toNat → ¬ knB a n c → a 3 = 8 → Q (some (.inl (-4))) (cI w 0 12)) (hk : (0 ≤ f ∧ f ≤ 5) ∧ (3 ≤ n ∧ n ≤ 6) ∧ 0 ≤ c ∧ c < 10 ^ n.toNat → ¬ knB a n c → a 3 < 8 → ∀ w2, VX w2 1 (ua (sAddW a f n c) 78 0) → smB w w2 1 → Q (some (.inl (a 3))) w2) : Call (d + 3) mX3_word [vR 0, vI f, vI n, vI c] w Q := by
  have hb : vb 1 := Or.inl rfl
  have hv0 := hv
  obtain ⟨⟨x0, x1, x2, x3, x4, x5, x6⟩, xw, xl, xn, xm, xu⟩ := hv
  have am := hA.m
  have an := hA.n
  have af := hA.f
  have anc := hA.nc
  have amc := hA.mc
  have auc := hA.uc
  refine call_in (ls := [some (vR 0), some (vI f), some (vI n), some (vI c)]) (by decide +kernel) rfl (Nat.le_of_ble_eq_true rfl) (fun κ hC hR hN => ?_)
  have hC : ctxB κ RX3 cX3_word (d + 3) := hC
  have hN : mlx κ 4 := hN
  refine w_il1 hC dX3_word_0 ?_
  refine w_st1 hC st_X3_46 dX3_word_1 rfl hN (c_isKind (fun g1 => ?_) (fun g1 => ?_))
  · refine v_if_eq (tgt := 22) hC dX3_word_4 rfl (fun h => absurd h (by decide)) (fun _ => ?_)
    refine w_il2 hC dX3_word_7 ?_
    refine w_st1 hC st_X3_76 dX3_word_8 rfl hN (c_isLength (fun g2 => ?_) (fun g2 => ?_))
    · refine v_if_eq (tgt := 22) hC dX3_word_11 rfl (fun h => absurd h (by decide)) (fun _ => ?_)
      refine w_il2 hC dX3_word_14 ?_
      refine w_il3 hC dX3_word_15 ?_
      refine w_st2 hC st_X3_54 dX3_word_16 rfl hN (c_isCode ⟨by omega, by omega⟩ (fun g3 => ?_) (fun g3 => ?_))
      · refine v_if_ne (tgt := 29) hC dX3_word_19 rfl (fun _ => ?_) (fun h => absurd h (by decide))
        refine w_al0 hC dX3_word_29 ?_
        refine v_getR (off := 1) (j := 1) hC dX3_word_30 fd_X3_10 rfl rfl rfl ?_
        refine w_il2 hC dX3_word_33 ?_
        refine w_il3 hC dX3_word_34 ?_
        refine w_vi2 hC vi_X3_79 rfl dX3_word_35 rfl hN (c_knows hb hv0 hA (fun g4 => ?_) (fun g4 => ?_))
        · refine v_if_eq (tgt := 48) hC dX3_word_38 rfl (fun h => absurd h (by decide)) (fun _ => ?_)
          refine w_al0 hC dX3_word_41 ?_
          refine v_bipush hC dX3_word_42 (by decide) ?_
          refine w_vi1 hC vi_X3_58 rfl dX3_word_44 rfl hN (c_refNo ?_)
          refine v_iret hC hR dX3_word_47 ?_
          exact hn0 (by omega) g4
        · refine v_if_eq (tgt := 48) hC dX3_word_38 rfl (fun _ => ?_) (fun h => absurd h (by decide))
          refine w_al0 hC dX3_word_48 ?_
          refine v_getR (off := 1) (j := 1) hC dX3_word_49 fd_X3_10 rfl rfl rfl ?_
          refine v_getI hC dX3_word_52 fd_X3_62 rfl rfl ?_
          rw [x3]
          refine v_bipush hC dX3_word_55 (by decide) ?_
          refine v_ic_lt (tgt := 67) hC dX3_word_57 rfl (fun h57 => ?_) (fun h57 => ?_)
          · refine w_al0 hC dX3_word_67 ?_
            refine v_getR (off := 1) (j := 1) hC dX3_word_68 fd_X3_10 rfl rfl rfl ?_
            refine w_il1 hC dX3_word_71 ?_
            refine w_il2 hC dX3_word_72 ?_
            refine w_il3 hC dX3_word_73 ?_
            refine w_vi3 hC vi_X3_82 rfl dX3_word_74 rfl hN (c_addWord hb hv0 ⟨by omega, by omega⟩ anc amc auc (fun w2 v2 o2 => ?_))
            refine w_al0 hC dX3_word_77 ?_
            refine v_getR (off := 1) (j := 1) hC dX3_word_78 fd_X3_10 rfl rfl rfl ?_
            refine w_ic hC dX3_word_81 rfl ?_
            refine v_putI hC dX3_word_82 fp_X3_73 rfl rfl ?_
            have e3 : up w2 1 6 0 1 3 = a 3 + 1 := by rw [up_pl _ _ (by omega), v2.1.2.2.2.1]; unfold sAddW ua; rfl
            refine w_al0 hC dX3_word_85 ?_
            refine v_getR (off := 1) (j := 1) hC dX3_word_86 fd_X3_10 rfl rfl rfl ?_
            refine v_getI hC dX3_word_89 fd_X3_62 rfl rfl ?_
            rw [e3]
            refine w_ic hC dX3_word_92 rfl ?_
            refine w_isub hC dX3_word_93 (ri_mk (by omega) (by omega)) ?_
            refine v_iret hC hR dX3_word_94 ?_
            rw [show a 3 + 1 - 1 = a 3 by omega]
            have q3 : sAddW a f n c 3 = a 3 + 1 := rfl
            have q34 : sAddW a f n c 34 = a 34 := by unfold sAddW ua; rw [if_neg (by omega), if_neg (by omega), if_neg (by omega), if_neg (by omega)]
            have q53 : sAddW a f n c 53 = a 53 := by unfold sAddW ua; rw [if_neg (by omega), if_neg (by omega), if_neg (by omega), if_neg (by omega)]
            exact hk (by omega) g4 (by omega) _ (v2.un0 (by omega) (by omega) (by omega)) (fun i k hi => by rw [up_id _ _ (by omega)]; exact o2 i k hi)
          · refine w_al0 hC dX3_word_60 ?_
            refine v_bipush hC dX3_word_61 (by decide) ?_
            refine w_vi1 hC vi_X3_58 rfl dX3_word_63 rfl hN (c_refFull ?_)
            refine v_iret hC hR dX3_word_66 ?_
            exact hf0 (by omega) g4 (by omega)
      · refine v_if_ne (tgt := 29) hC dX3_word_19 rfl (fun h => absurd h (by decide)) (fun _ => ?_)
        refine w_al0 hC dX3_word_22 ?_
        refine v_bipush hC dX3_word_23 (by decide) ?_
        refine w_vi1 hC vi_X3_58 rfl dX3_word_25 rfl hN (c_refBad ?_)
        refine v_iret hC hR dX3_word_28 ?_
        exact hb0 (by omega)
    · refine v_if_eq (tgt := 22) hC dX3_word_11 rfl (fun _ => ?_) (fun h => absurd h (by decide))
      refine w_al0 hC dX3_word_22 ?_
      refine v_bipush hC dX3_word_23 (by decide) ?_
      refine w_vi1 hC vi_X3_58 rfl dX3_word_25 rfl hN (c_refBad ?_)
      refine v_iret hC hR dX3_word_28 ?_
      exact hb0 (by omega)
  · refine v_if_eq (tgt := 22) hC dX3_word_4 rfl (fun _ => ?_) (fun h => absurd h (by decide))
    refine w_al0 hC dX3_word_22 ?_
    refine v_bipush hC dX3_word_23 (by decide) ?_
    refine w_vi1 hC vi_X3_58 rfl dX3_word_25 rfl hN (c_refBad ?_)
    refine v_iret hC hR dX3_word_28 ?_
    exact hb0 (by omega)

theorem c_append {d : Nat} {w : Wd} {Q : Option MV → Wd → Prop} {c : Int} (hl : 0 ≤ w 33 1 ∧ w 33 1 < 150) (hQ : Q none (up (up w 34 (w 33 1).toNat c) 33 1 (w 33 1 + 1))) : Call (d + 1) mX1_append [vR 33, vI c] w Q := by
  refine call_in (ls := [some (vR 33), some (vI c)]) (by decide +kernel) rfl (Nat.le_of_ble_eq_true rfl) (fun κ hC hR hN => ?_)
  have hC : ctxB κ RX1 cX1_append (d + 1) := hC
  have hN : mlx κ 2 := hN
  refine w_al0 hC dX1_append_0 ?_
  refine v_getR (off := 1) (j := 34) hC dX1_append_1 fd_X1_9 rfl rfl rfl ?_
  refine w_al0 hC dX1_append_4 ?_
  refine v_getI hC dX1_append_5 fd_X1_15 rfl rfl ?_
  refine w_il1 hC dX1_append_8 ?_
  refine w_sn3 hC sn_X1_19 dX1_append_9 rfl hN (c_set rfl ?_)
  rw [stV_in (r := 34) w hl.1 (show w 33 1 < ((szT 34 : Nat) : Int) from hl.2)]
  refine w_al0 hC dX1_append_12 ?_
  refine v_dup hC dX1_append_13 rfl ?_
  refine v_getI hC dX1_append_14 fd_X1_15 rfl rfl ?_
  rw [up_id w c (show 33 ≠ 34 by decide)]
  refine w_ic hC dX1_append_17 rfl ?_
  refine w_iadd hC dX1_append_18 (ri_mk (by omega) (by omega)) ?_
  refine v_putI hC dX1_append_19 fp_X1_15 rfl rfl ?_
  refine v_vret hC hR dX1_append_22 ?_
  exact hQ

theorem c_type {d : Nat} {w : Wd} {Q : Option MV → Wd → Prop} {c : Int} (hl : 0 ≤ w 33 1 ∧ w 33 1 ≤ 150) (hb0 : ¬ (0 ≤ c ∧ c ≤ 127) → Q (some (.inl (-2))) (cI w 0 10)) (hf0 : (0 ≤ c ∧ c ≤ 127) → w 33 1 = 150 → Q (some (.inl (-4))) (cI w 0 12)) (hk : (0 ≤ c ∧ c ≤ 127) → w 33 1 < 150 → Q (some (.inl (w 33 1 + 1))) (up (up w 34 (w 33 1).toNat c) 33 1 (w 33 1 + 1))) : Call (d + 2) mX3_type [vR 0, vI c] w Q := by
  refine call_in (ls := [some (vR 0), some (vI c)]) (by decide +kernel) rfl (Nat.le_of_ble_eq_true rfl) (fun κ hC hR hN => ?_)
  have hC : ctxB κ RX3 cX3_type (d + 2) := hC
  have hN : mlx κ 2 := hN
  refine w_il1 hC dX3_type_0 ?_
  refine w_ic hC dX3_type_1 rfl ?_
  refine v_bipush hC dX3_type_2 (by decide) ?_
  refine w_st3 hC st_X3_50 dX3_type_4 rfl hN (c_within (fun g1 => ?_) (fun g1 => ?_))
  · refine v_if_ne (tgt := 17) hC dX3_type_7 rfl (fun _ => ?_) (fun h => absurd h (by decide))
    refine w_al0 hC dX3_type_17 ?_
    refine v_getR (off := 33) (j := 33) hC dX3_type_18 fd_X3_28 rfl rfl rfl ?_
    refine v_getI hC dX3_type_21 fd_X3_85 rfl rfl ?_
    refine v_sipush hC dX3_type_24 (by decide) ?_
    refine v_ic_lt (tgt := 37) hC dX3_type_27 rfl (fun h27 => ?_) (fun h27 => ?_)
    · refine w_al0 hC dX3_type_37 ?_
      refine v_getR (off := 33) (j := 33) hC dX3_type_38 fd_X3_28 rfl rfl rfl ?_
      refine w_il1 hC dX3_type_41 ?_
      refine w_vi1 hC vi_X3_88 rfl dX3_type_42 rfl hN (c_append ⟨by omega, by omega⟩ ?_)
      refine w_al0 hC dX3_type_45 ?_
      refine v_getR (off := 33) (j := 33) hC dX3_type_46 fd_X3_28 rfl rfl rfl ?_
      refine v_getI hC dX3_type_49 fd_X3_85 rfl rfl ?_
      rw [up_same]
      refine v_iret hC hR dX3_type_52 ?_
      exact hk g1 (by omega)
    · refine w_al0 hC dX3_type_30 ?_
      refine v_bipush hC dX3_type_31 (by decide) ?_
      refine w_vi1 hC vi_X3_58 rfl dX3_type_33 rfl hN (c_refFull ?_)
      refine v_iret hC hR dX3_type_36 ?_
      exact hf0 g1 (by omega)
  · refine v_if_ne (tgt := 17) hC dX3_type_7 rfl (fun h => absurd h (by decide)) (fun _ => ?_)
    refine w_al0 hC dX3_type_10 ?_
    refine v_bipush hC dX3_type_11 (by decide) ?_
    refine w_vi1 hC vi_X3_58 rfl dX3_type_13 rfl hN (c_refBad ?_)
    refine v_iret hC hR dX3_type_16 ?_
    exact hb0 g1

theorem c_clear {d : Nat} {w : Wd} {Q : Option MV → Wd → Prop} (hQ : Q (some (.inl (w 33 1))) (up w 33 1 0)) : Call (d + 0) mX3_clear [vR 0] w Q := by
  refine call_in (ls := [some (vR 0), none]) (by decide +kernel) rfl (Nat.le_of_ble_eq_true rfl) (fun κ hC hR hN => ?_)
  have hC : ctxB κ RX3 cX3_clear (d + 0) := hC
  have hN : mlx κ 2 := hN
  refine w_al0 hC dX3_clear_0 ?_
  refine v_getR (off := 33) (j := 33) hC dX3_clear_1 fd_X3_28 rfl rfl rfl ?_
  refine v_getI hC dX3_clear_4 fd_X3_85 rfl rfl ?_
  refine w_is1 hC dX3_clear_7 hN (by first | rfl | assumption) ?_
  refine w_al0 hC dX3_clear_8 ?_
  refine v_getR (off := 33) (j := 33) hC dX3_clear_9 fd_X3_28 rfl rfl rfl ?_
  refine w_ic hC dX3_clear_12 rfl ?_
  refine v_putI hC dX3_clear_13 fp_X3_85 rfl rfl ?_
  refine w_il1 hC dX3_clear_16 ?_
  refine v_iret hC hR dX3_clear_17 ?_
  exact hQ

theorem sKeep_at {a : Nat → Int} (hA : AOK a) {q : Nat} (hq : q < 78) : sKeep a q = a q := by
  have au := hA.uc
  unfold sKeep
  split
  next h =>
    unfold sKeep1 sDrop
    rw [if_neg (by omega), if_neg (by simp only [ite_true]; omega), if_neg (by omega), if_neg (by omega)]
  next h =>
    unfold sKeep1
    rw [if_neg (by omega), if_neg (by omega)]

/-- after a write on a line: what isRight asks -/
theorem isR_up {a a2 : Nat → Int} {j n : Int} (h2 : ∀ q : Nat, q < 28 → a2 q = a q) (hj : 0 ≤ j ∧ j < a 1) (hn : 0 ≤ n ∧ n < a 3) (h3 : a 3 ≤ 8) (hv : a2 (28 + j.toNat) = n) : isR a2 j ↔ fitB a (a 0) n j := by
  have e0 := h2 0 (by omega)
  have e1 := h2 1 (by omega)
  have e2 := h2 2 (by omega)
  unfold isR fitB lBy tgL wOn
  rw [e1, if_pos hj, hv, e0, e2, h2 _ (by omega), h2 _ (by omega)]
  exact ⟨fun h => h.2, fun h => ⟨by omega, h⟩⟩
theorem fit_congr {a a2 : Nat → Int} (h2 : ∀ q : Nat, q < 28 → a2 q = a q) {f n j : Int} (hn : 0 ≤ n ∧ n < 8) : fitB a2 f n j ↔ fitB a f n j := by
  unfold fitB lBy tgL
  rw [h2 1 (by omega), h2 2 (by omega), h2 _ (by omega), h2 _ (by omega)]

theorem c_puts {d : Nat} {w : Wd} {Q : Option MV → Wd → Prop} {a : Nat → Int} (hv : VX w 1 a) (hA : AOK a) {j n : Int} (hb0 : ¬ ((0 ≤ j ∧ j < a 1) ∧ 0 ≤ n ∧ n < a 3) → Q (some (.inl (-2))) (cI w 0 10)) (hn0 : ((0 ≤ j ∧ j < a 1) ∧ 0 ≤ n ∧ n < a 3) → ¬ (a (28 + j.toNat) = -1 ∧ lnOf a n = -1) → Q (some (.inl (-3))) (cI w 0 11)) (hOK : (0 ≤ j ∧ j < a 1) ∧ 0 ≤ n ∧ n < a 3 → a (28 + j.toNat) = -1 ∧ lnOf a n = -1 → AOK (ua (sKeep a) (28 + j.toNat) n)) (hk : (0 ≤ j ∧ j < a 1) ∧ 0 ≤ n ∧ n < a 3 → a (28 + j.toNat) = -1 ∧ lnOf a n = -1 → ∀ z w2, (z = 1 ∧ fitB a (a 0) n j ∨ z = 0 ∧ ¬ fitB a (a 0) n j) → VX w2 1 (ua (sKeep a) (28 + j.toNat) n) → smB w w2 1 → Q (some (.inl z)) w2) : Call (d + 4) mX3_puts [vR 0, vI j, vI n] w Q := by
  have hb : vb 1 := Or.inl rfl
  have hv0 := hv
  obtain ⟨⟨x0, x1, x2, x3, x4, x5, x6⟩, xw, xl, xn, xm, xu⟩ := hv
  have am := hA.m
  have an := hA.n
  have af := hA.f
  have anc := hA.nc
  have amc := hA.mc
  have auc := hA.uc
  refine call_in (ls := [some (vR 0), some (vI j), some (vI n)]) (by decide +kernel) rfl (Nat.le_of_ble_eq_true rfl) (fun κ hC hR hN => ?_)
  have hC : ctxB κ RX3 cX3_puts (d + 4) := hC
  have hN : mlx κ 3 := hN
  refine w_al0 hC dX3_puts_0 ?_
  refine v_getR (off := 1) (j := 1) hC dX3_puts_1 fd_X3_10 rfl rfl rfl ?_
  refine w_il1 hC dX3_puts_4 ?_
  refine w_vi1 hC vi_X3_106 rfl dX3_puts_5 rfl hN (c_hasLine hb hv0 hA (fun g1 => ?_) (fun g1 => ?_))
  · refine v_if_eq (tgt := 22) hC dX3_puts_8 rfl (fun h => absurd h (by decide)) (fun _ => ?_)
    refine w_al0 hC dX3_puts_11 ?_
    refine v_getR (off := 1) (j := 1) hC dX3_puts_12 fd_X3_10 rfl rfl rfl ?_
    refine w_il2 hC dX3_puts_15 ?_
    refine w_vi1 hC vi_X3_109 rfl dX3_puts_16 rfl hN (c_hasWord hb hv0 hA (fun g2 => ?_) (fun g2 => ?_))
    · refine v_if_ne (tgt := 29) hC dX3_puts_19 rfl (fun _ => ?_) (fun h => absurd h (by decide))
      refine w_al0 hC dX3_puts_29 ?_
      refine v_getR (off := 1) (j := 1) hC dX3_puts_30 fd_X3_10 rfl rfl rfl ?_
      refine w_il1 hC dX3_puts_33 ?_
      refine w_vi1 hC vi_X3_112 rfl dX3_puts_34 rfl hN (c_wordOn hb hv0 hA ?_)
      rw [show wOn a j = a (28 + j.toNat) from if_pos g1]
      refine w_ic hC dX3_puts_37 rfl ?_
      refine v_ic_ne (tgt := 53) hC dX3_puts_38 rfl (fun h38 => ?_) (fun h38 => ?_)
      · refine w_al0 hC dX3_puts_53 ?_
        refine v_bipush hC dX3_puts_54 (by decide) ?_
        refine w_vi1 hC vi_X3_58 rfl dX3_puts_56 rfl hN (c_refNo ?_)
        refine v_iret hC hR dX3_puts_59 ?_
        exact hn0 ⟨g1, g2⟩ (by omega)
      · refine w_al0 hC dX3_puts_41 ?_
        refine v_getR (off := 1) (j := 1) hC dX3_puts_42 fd_X3_10 rfl rfl rfl ?_
        refine w_il2 hC dX3_puts_45 ?_
        refine w_vi1 hC vi_X3_115 rfl dX3_puts_46 rfl hN (c_lineOf hb hv0 hA ?_)
        refine w_ic hC dX3_puts_49 rfl ?_
        refine v_ic_eq (tgt := 60) hC dX3_puts_50 rfl (fun h50 => ?_) (fun h50 => ?_)
        · refine w_al0 hC dX3_puts_60 ?_
          refine v_getR (off := 1) (j := 1) hC dX3_puts_61 fd_X3_10 rfl rfl rfl ?_
          refine w_vi0 hC vi_X3_118 rfl dX3_puts_64 rfl hN (c_keepForUndo hb hv0 an anc amc auc (fun w2 v2 o2 => ?_))
          have kq : ∀ q : Nat, q < 78 → sKeep a q = a q := fun q h => sKeep_at hA h
          have k3 := kq 3 (by omega)
          refine w_al0 hC dX3_puts_67 ?_
          refine v_getR (off := 1) (j := 1) hC dX3_puts_68 fd_X3_10 rfl rfl rfl ?_
          refine v_getR (off := 4) (j := 5) hC dX3_puts_71 fd_X3_121 rfl rfl rfl ?_
          refine w_il1 hC dX3_puts_74 ?_
          refine w_il2 hC dX3_puts_75 ?_
          refine w_st3 hC st_X3_125 dX3_puts_76 rfl hN (c_set rfl ?_)
          have c2 : a (28 + j.toNat) = -1 ∧ lnOf a n = -1 := ⟨by omega, by omega⟩
          have k1 := hk ⟨g1, g2⟩ c2
          have ok3 := hOK ⟨g1, g2⟩ c2
          obtain ⟨jn, rfl⟩ := Int.eq_ofNat_of_zero_le g1.1
          rw [stV_n w2 (show jn < 6 by omega)]
          have v3 := v2.ln1 (j := jn) (z := n) (by omega) (by omega)
          rw [Int.toNat_natCast] at ok3 k1
          have hu : ∀ q : Nat, q < 28 → ua (sKeep a) (28 + jn) n q = a q := fun q h => by unfold ua; rw [if_neg (by omega)]; exact kq q (by omega)
          have hr := isR_up hu g1 g2 an.2 (show ua (sKeep a) (28 + jn) n (28 + ((jn : Nat) : Int).toNat) = n by rw [Int.toNat_natCast]; unfold ua; rw [if_pos rfl])
          have o3 : smB w (up w2 5 jn n) 1 := fun i k hi => by rw [up_id _ _ (by omega)]; exact o2 i k hi
          refine w_al0 hC dX3_puts_79 ?_
          refine v_getR (off := 1) (j := 1) hC dX3_puts_80 fd_X3_10 rfl rfl rfl ?_
          refine w_il1 hC dX3_puts_83 ?_
          refine w_vi1 hC vi_X3_129 rfl dX3_puts_84 rfl hN (c_isRight hb v3 ok3 ⟨by omega, by omega⟩ (fun g5 => ?_) (fun g5 => ?_))
          · refine v_if_eq (tgt := 94) hC dX3_puts_87 rfl (fun h => absurd h (by decide)) (fun _ => ?_)
            refine w_ic hC dX3_puts_90 rfl ?_
            refine v_goto (tgt := 95) hC dX3_puts_91 rfl ?_
            refine v_iret hC hR dX3_puts_95 ?_
            first | exact k1 1 _ (Or.inl ⟨rfl, hr.mp g5⟩) v3 o3 | exact k1 0 _ (Or.inr ⟨rfl, fun q => g5 (hr.mpr q)⟩) v3 o3
          · refine v_if_eq (tgt := 94) hC dX3_puts_87 rfl (fun _ => ?_) (fun h => absurd h (by decide))
            refine w_ic hC dX3_puts_94 rfl ?_
            refine v_iret hC hR dX3_puts_95 ?_
            first | exact k1 1 _ (Or.inl ⟨rfl, hr.mp g5⟩) v3 o3 | exact k1 0 _ (Or.inr ⟨rfl, fun q => g5 (hr.mpr q)⟩) v3 o3
        · refine w_al0 hC dX3_puts_53 ?_
          refine v_bipush hC dX3_puts_54 (by decide) ?_
          refine w_vi1 hC vi_X3_58 rfl dX3_puts_56 rfl hN (c_refNo ?_)
          refine v_iret hC hR dX3_puts_59 ?_
          exact hn0 ⟨g1, g2⟩ (by omega)
    · refine v_if_ne (tgt := 29) hC dX3_puts_19 rfl (fun h => absurd h (by decide)) (fun _ => ?_)
      refine w_al0 hC dX3_puts_22 ?_
      refine v_bipush hC dX3_puts_23 (by decide) ?_
      refine w_vi1 hC vi_X3_58 rfl dX3_puts_25 rfl hN (c_refBad ?_)
      refine v_iret hC hR dX3_puts_28 ?_
      exact hb0 (by omega)
  · refine v_if_eq (tgt := 22) hC dX3_puts_8 rfl (fun _ => ?_) (fun h => absurd h (by decide))
    refine w_al0 hC dX3_puts_22 ?_
    refine v_bipush hC dX3_puts_23 (by decide) ?_
    refine w_vi1 hC vi_X3_58 rfl dX3_puts_25 rfl hN (c_refBad ?_)
    refine v_iret hC hR dX3_puts_28 ?_
    exact hb0 (by omega)

theorem c_takes {d : Nat} {w : Wd} {Q : Option MV → Wd → Prop} {a : Nat → Int} (hv : VX w 1 a) (hA : AOK a) {j : Int} (hb0 : ¬ (0 ≤ j ∧ j < a 1) → Q (some (.inl (-2))) (cI w 0 10)) (hn0 : (0 ≤ j ∧ j < a 1) → a (28 + j.toNat) = -1 → Q (some (.inl (-3))) (cI w 0 11)) (hk : (0 ≤ j ∧ j < a 1) → a (28 + j.toNat) ≠ -1 → ∀ w2, VX w2 1 (ua (sKeep a) (28 + j.toNat) (-1)) → smB w w2 1 → Q (some (.inl (a (28 + j.toNat)))) w2) : Call (d + 3) mX3_takes [vR 0, vI j] w Q := by
  have hb : vb 1 := Or.inl rfl
  have hv0 := hv
  obtain ⟨⟨x0, x1, x2, x3, x4, x5, x6⟩, xw, xl, xn, xm, xu⟩ := hv
  have am := hA.m
  have an := hA.n
  have af := hA.f
  have anc := hA.nc
  have amc := hA.mc
  have auc := hA.uc
  refine call_in (ls := [some (vR 0), some (vI j), none]) (by decide +kernel) rfl (Nat.le_of_ble_eq_true rfl) (fun κ hC hR hN => ?_)
  have hC : ctxB κ RX3 cX3_takes (d + 3) := hC
  have hN : mlx κ 3 := hN
  refine w_al0 hC dX3_takes_0 ?_
  refine v_getR (off := 1) (j := 1) hC dX3_takes_1 fd_X3_10 rfl rfl rfl ?_
  refine w_il1 hC dX3_takes_4 ?_
  refine w_vi1 hC vi_X3_106 rfl dX3_takes_5 rfl hN (c_hasLine hb hv0 hA (fun g1 => ?_) (fun g1 => ?_))
  · refine v_if_ne (tgt := 18) hC dX3_takes_8 rfl (fun _ => ?_) (fun h => absurd h (by decide))
    refine w_al0 hC dX3_takes_18 ?_
    refine v_getR (off := 1) (j := 1) hC dX3_takes_19 fd_X3_10 rfl rfl rfl ?_
    refine w_il1 hC dX3_takes_22 ?_
    refine w_vi1 hC vi_X3_112 rfl dX3_takes_23 rfl hN (c_wordOn hb hv0 hA ?_)
    rw [show wOn a j = a (28 + j.toNat) from if_pos g1]
    refine w_is2 hC dX3_takes_26 hN (by first | rfl | assumption) ?_
    refine w_il2 hC dX3_takes_27 ?_
    refine w_ic hC dX3_takes_28 rfl ?_
    refine v_ic_ne (tgt := 39) hC dX3_takes_29 rfl (fun h29 => ?_) (fun h29 => ?_)
    · refine w_al0 hC dX3_takes_39 ?_
      refine v_getR (off := 1) (j := 1) hC dX3_takes_40 fd_X3_10 rfl rfl rfl ?_
      refine w_vi0 hC vi_X3_118 rfl dX3_takes_43 rfl hN (c_keepForUndo hb hv0 an anc amc auc (fun w2 v2 o2 => ?_))
      have kq : ∀ q : Nat, q < 78 → sKeep a q = a q := fun q h => sKeep_at hA h
      have k3 := kq 3 (by omega)
      refine w_al0 hC dX3_takes_46 ?_
      refine v_getR (off := 1) (j := 1) hC dX3_takes_47 fd_X3_10 rfl rfl rfl ?_
      refine v_getR (off := 4) (j := 5) hC dX3_takes_50 fd_X3_121 rfl rfl rfl ?_
      refine w_il1 hC dX3_takes_53 ?_
      refine w_ic hC dX3_takes_54 rfl ?_
      refine w_st3 hC st_X3_125 dX3_takes_55 rfl hN (c_set rfl ?_)
      refine w_il2 hC dX3_takes_58 ?_
      refine v_iret hC hR dX3_takes_59 ?_
      obtain ⟨jn, rfl⟩ := Int.eq_ofNat_of_zero_le g1.1
      rw [stV_n w2 (show jn < 6 by omega)]
      rw [Int.toNat_natCast] at hk h29 ⊢
      exact hk g1 h29 _ (v2.ln1 (j := jn) (by omega) (by omega)) (fun i k hi => by rw [up_id _ _ (by omega)]; exact o2 i k hi)
    · refine w_al0 hC dX3_takes_32 ?_
      refine v_bipush hC dX3_takes_33 (by decide) ?_
      refine w_vi1 hC vi_X3_58 rfl dX3_takes_35 rfl hN (c_refNo ?_)
      refine v_iret hC hR dX3_takes_38 ?_
      exact hn0 g1 h29
  · refine v_if_ne (tgt := 18) hC dX3_takes_8 rfl (fun h => absurd h (by decide)) (fun _ => ?_)
    refine w_al0 hC dX3_takes_11 ?_
    refine v_bipush hC dX3_takes_12 (by decide) ?_
    refine w_vi1 hC vi_X3_58 rfl dX3_takes_14 rfl hN (c_refBad ?_)
    refine v_iret hC hR dX3_takes_17 ?_
    exact hb0 g1

theorem c_swaps {d : Nat} {w : Wd} {Q : Option MV → Wd → Prop} {a : Nat → Int} (hv : VX w 1 a) (hA : AOK a) {j k : Int} (hb0 : ¬ ((0 ≤ j ∧ j < a 1) ∧ (0 ≤ k ∧ k < a 1) ∧ j ≠ k) → Q (some (.inl (-2))) (cI w 0 10)) (hn0 : ((0 ≤ j ∧ j < a 1) ∧ (0 ≤ k ∧ k < a 1) ∧ j ≠ k) → (a (28 + j.toNat) = -1 ∧ a (28 + k.toNat) = -1) → Q (some (.inl (-3))) (cI w 0 11)) (hOK : (0 ≤ j ∧ j < a 1) ∧ (0 ≤ k ∧ k < a 1) ∧ j ≠ k → ¬ (a (28 + j.toNat) = -1 ∧ a (28 + k.toNat) = -1) → AOK (ua (ua (sKeep a) (28 + j.toNat) (a (28 + k.toNat))) (28 + k.toNat) (a (28 + j.toNat)))) (hk : (0 ≤ j ∧ j < a 1) ∧ (0 ≤ k ∧ k < a 1) ∧ j ≠ k → ¬ (a (28 + j.toNat) = -1 ∧ a (28 + k.toNat) = -1) → ∀ w2, VX w2 1 (ua (ua (sKeep a) (28 + j.toNat) (a (28 + k.toNat))) (28 + k.toNat) (a (28 + j.toNat))) → smB w w2 1 → Q (some (.inl (rtL (ua (ua (sKeep a) (28 + j.toNat) (a (28 + k.toNat))) (28 + k.toNat) (a (28 + j.toNat)))))) w2) : Call (d + 5) mX3_swaps [vR 0, vI j, vI k] w Q := by
  have hb : vb 1 := Or.inl rfl
  have hv0 := hv
  obtain ⟨⟨x0, x1, x2, x3, x4, x5, x6⟩, xw, xl, xn, xm, xu⟩ := hv
  have am := hA.m
  have an := hA.n
  have af := hA.f
  have anc := hA.nc
  have amc := hA.mc
  have auc := hA.uc
  refine call_in (ls := [some (vR 0), some (vI j), some (vI k), none, none]) (by decide +kernel) rfl (Nat.le_of_ble_eq_true rfl) (fun κ hC hR hN => ?_)
  have hC : ctxB κ RX3 cX3_swaps (d + 5) := hC
  have hN : mlx κ 5 := hN
  have tl : (0 ≤ j ∧ j < a 1) → (0 ≤ k ∧ k < a 1) → (j ≠ k) → (¬ (a (28 + j.toNat) = -1 ∧ a (28 + k.toNat) = -1)) → VV κ 71 [some (vR 0), some (vI j), some (vI k), some (vI (a (28 + j.toNat))), some (vI (a (28 + k.toNat)))] [] w := by
    intro  g1 g2 h24 hor
    refine w_al0 hC dX3_swaps_71 ?_
    refine v_getR (off := 1) (j := 1) hC dX3_swaps_72 fd_X3_10 rfl rfl rfl ?_
    refine w_vi0 hC vi_X3_118 rfl dX3_swaps_75 rfl hN (c_keepForUndo hb hv0 an anc amc auc (fun w2 v2 o2 => ?_))
    have kq : ∀ q : Nat, q < 78 → sKeep a q = a q := fun q h => sKeep_at hA h
    have k3 := kq 3 (by omega)
    have ok3 := hOK ⟨g1, g2, h24⟩ hor
    obtain ⟨jn, rfl⟩ := Int.eq_ofNat_of_zero_le g1.1
    obtain ⟨kn, rfl⟩ := Int.eq_ofNat_of_zero_le g2.1
    rw [Int.toNat_natCast, Int.toNat_natCast] at ok3 hk ⊢
    refine w_al0 hC dX3_swaps_78 ?_
    refine v_getR (off := 1) (j := 1) hC dX3_swaps_79 fd_X3_10 rfl rfl rfl ?_
    refine v_getR (off := 4) (j := 5) hC dX3_swaps_82 fd_X3_121 rfl rfl rfl ?_
    refine w_il1 hC dX3_swaps_85 ?_
    refine w_il4 hC dX3_swaps_86 ?_
    refine w_st3 hC st_X3_125 dX3_swaps_88 rfl hN (c_set rfl ?_)
    rw [stV_n w2 (show jn < 6 by omega)]
    have v3 := v2.ln1 (j := jn) (z := a (28 + kn)) (by omega) (by omega)
    refine w_al0 hC dX3_swaps_91 ?_
    refine v_getR (off := 1) (j := 1) hC dX3_swaps_92 fd_X3_10 rfl rfl rfl ?_
    refine v_getR (off := 4) (j := 5) hC dX3_swaps_95 fd_X3_121 rfl rfl rfl ?_
    refine w_il2 hC dX3_swaps_98 ?_
    refine w_il3 hC dX3_swaps_99 ?_
    refine w_st3 hC st_X3_125 dX3_swaps_100 rfl hN (c_set rfl ?_)
    rw [stV_n _ (show kn < 6 by omega)]
    have v4 := v3.ln1 (j := kn) (z := a (28 + jn)) (by omega) (by unfold ua; rw [if_neg (by omega)]; omega)
    refine w_al0 hC dX3_swaps_103 ?_
    refine v_getR (off := 1) (j := 1) hC dX3_swaps_104 fd_X3_10 rfl rfl rfl ?_
    refine w_vi0 hC vi_X3_132 rfl dX3_swaps_107 rfl hN (c_rightLines hb v4 ok3 ?_)
    refine v_iret hC hR dX3_swaps_110 ?_
    exact hk ⟨g1, g2, h24⟩ hor _ v4 (fun i q hi => by rw [up_id _ _ (by omega), up_id _ _ (by omega)]; exact o2 i q hi)
  refine w_al0 hC dX3_swaps_0 ?_
  refine v_getR (off := 1) (j := 1) hC dX3_swaps_1 fd_X3_10 rfl rfl rfl ?_
  refine w_il1 hC dX3_swaps_4 ?_
  refine w_vi1 hC vi_X3_106 rfl dX3_swaps_5 rfl hN (c_hasLine hb hv0 hA (fun g1 => ?_) (fun g1 => ?_))
  · refine v_if_eq (tgt := 27) hC dX3_swaps_8 rfl (fun h => absurd h (by decide)) (fun _ => ?_)
    refine w_al0 hC dX3_swaps_11 ?_
    refine v_getR (off := 1) (j := 1) hC dX3_swaps_12 fd_X3_10 rfl rfl rfl ?_
    refine w_il2 hC dX3_swaps_15 ?_
    refine w_vi1 hC vi_X3_106 rfl dX3_swaps_16 rfl hN (c_hasLine hb hv0 hA (fun g2 => ?_) (fun g2 => ?_))
    · refine v_if_eq (tgt := 27) hC dX3_swaps_19 rfl (fun h => absurd h (by decide)) (fun _ => ?_)
      refine w_il1 hC dX3_swaps_22 ?_
      refine w_il2 hC dX3_swaps_23 ?_
      refine v_ic_ne (tgt := 34) hC dX3_swaps_24 rfl (fun h24 => ?_) (fun h24 => ?_)
      · refine w_al0 hC dX3_swaps_34 ?_
        refine v_getR (off := 1) (j := 1) hC dX3_swaps_35 fd_X3_10 rfl rfl rfl ?_
        refine w_il1 hC dX3_swaps_38 ?_
        refine w_vi1 hC vi_X3_112 rfl dX3_swaps_39 rfl hN (c_wordOn hb hv0 hA ?_)
        rw [show wOn a j = a (28 + j.toNat) from if_pos g1]
        refine w_is3 hC dX3_swaps_42 hN (by first | rfl | assumption) ?_
        refine w_al0 hC dX3_swaps_43 ?_
        refine v_getR (off := 1) (j := 1) hC dX3_swaps_44 fd_X3_10 rfl rfl rfl ?_
        refine w_il2 hC dX3_swaps_47 ?_
        refine w_vi1 hC vi_X3_112 rfl dX3_swaps_48 rfl hN (c_wordOn hb hv0 hA ?_)
        rw [show wOn a k = a (28 + k.toNat) from if_pos g2]
        refine w_is4 hC dX3_swaps_51 hN (by first | rfl | assumption) ?_
        refine w_il3 hC dX3_swaps_53 ?_
        refine w_ic hC dX3_swaps_54 rfl ?_
        refine v_ic_ne (tgt := 71) hC dX3_swaps_55 rfl (fun h55 => ?_) (fun h55 => ?_)
        · exact tl g1 g2 (by omega) (by omega)
        · refine w_il4 hC dX3_swaps_58 ?_
          refine w_ic hC dX3_swaps_60 rfl ?_
          refine v_ic_ne (tgt := 71) hC dX3_swaps_61 rfl (fun h61 => ?_) (fun h61 => ?_)
          · exact tl g1 g2 (by omega) (by omega)
          · refine w_al0 hC dX3_swaps_64 ?_
            refine v_bipush hC dX3_swaps_65 (by decide) ?_
            refine w_vi1 hC vi_X3_58 rfl dX3_swaps_67 rfl hN (c_refNo ?_)
            refine v_iret hC hR dX3_swaps_70 ?_
            exact hn0 ⟨g1, g2, h24⟩ (by omega)
      · refine w_al0 hC dX3_swaps_27 ?_
        refine v_bipush hC dX3_swaps_28 (by decide) ?_
        refine w_vi1 hC vi_X3_58 rfl dX3_swaps_30 rfl hN (c_refBad ?_)
        refine v_iret hC hR dX3_swaps_33 ?_
        exact hb0 (by omega)
    · refine v_if_eq (tgt := 27) hC dX3_swaps_19 rfl (fun _ => ?_) (fun h => absurd h (by decide))
      refine w_al0 hC dX3_swaps_27 ?_
      refine v_bipush hC dX3_swaps_28 (by decide) ?_
      refine w_vi1 hC vi_X3_58 rfl dX3_swaps_30 rfl hN (c_refBad ?_)
      refine v_iret hC hR dX3_swaps_33 ?_
      exact hb0 (by omega)
  · refine v_if_eq (tgt := 27) hC dX3_swaps_8 rfl (fun _ => ?_) (fun h => absurd h (by decide))
    refine w_al0 hC dX3_swaps_27 ?_
    refine v_bipush hC dX3_swaps_28 (by decide) ?_
    refine w_vi1 hC vi_X3_58 rfl dX3_swaps_30 rfl hN (c_refBad ?_)
    refine v_iret hC hR dX3_swaps_33 ?_
    exact hb0 (by omega)

theorem c_undo {d : Nat} {w : Wd} {Q : Option MV → Wd → Prop} {a : Nat → Int} (hv : VX w 1 a) (hA : AOK a) (hn0 : a 78 = 0 → Q (some (.inl (-3))) (cI w 0 11)) (hOK : 0 < a 78 → AOK (sUndo a)) (hk : 0 < a 78 → ∀ w2, VX w2 1 (sUndo a) → smB w w2 1 → Q (some (.inl (rtL (sUndo a)))) w2) : Call (d + 5) mX3_undo [vR 0] w Q := by
  have hb : vb 1 := Or.inl rfl
  have hv0 := hv
  obtain ⟨⟨x0, x1, x2, x3, x4, x5, x6⟩, xw, xl, xn, xm, xu⟩ := hv
  have am := hA.m
  have an := hA.n
  have af := hA.f
  have anc := hA.nc
  have amc := hA.mc
  have auc := hA.uc
  refine call_in (ls := [some (vR 0)]) (by decide +kernel) rfl (Nat.le_of_ble_eq_true rfl) (fun κ hC hR hN => ?_)
  have hC : ctxB κ RX3 cX3_undo (d + 5) := hC
  have hN : mlx κ 1 := hN
  refine w_al0 hC dX3_undo_0 ?_
  refine v_getR (off := 1) (j := 1) hC dX3_undo_1 fd_X3_10 rfl rfl rfl ?_
  refine v_getI hC dX3_undo_4 fd_X3_73 rfl rfl ?_
  rw [x6]
  refine v_if_gt (tgt := 17) hC dX3_undo_7 rfl (fun h7 => ?_) (fun h7 => ?_)
  · refine w_al0 hC dX3_undo_17 ?_
    refine v_getR (off := 1) (j := 1) hC dX3_undo_18 fd_X3_10 rfl rfl rfl ?_
    refine w_vi0 hC vi_X3_136 rfl dX3_undo_21 rfl hN (c_undoLast hb hv0 an anc amc ⟨by omega, by omega⟩ (fun w2 v2 o2 => ?_))
    refine w_al0 hC dX3_undo_24 ?_
    refine v_getR (off := 1) (j := 1) hC dX3_undo_25 fd_X3_10 rfl rfl rfl ?_
    refine w_vi0 hC vi_X3_132 rfl dX3_undo_28 rfl hN (c_rightLines hb v2 (hOK (by omega)) ?_)
    refine v_iret hC hR dX3_undo_31 ?_
    exact hk (by omega) w2 v2 o2
  · refine w_al0 hC dX3_undo_10 ?_
    refine v_bipush hC dX3_undo_11 (by decide) ?_
    refine w_vi1 hC vi_X3_58 rfl dX3_undo_13 rfl hN (c_refNo ?_)
    refine v_iret hC hR dX3_undo_16 ?_
    exact hn0 (by omega)

def ofV (a : Nat → Int) (n x : Int) : Int := if x = 3 then lnOf a n else a (4 + 8 * x.toNat + n.toNat)
def abV (a : Nat → Int) (j x : Int) : Int := if x = 0 then wOn a j else if x = 1 then (if wOn a j = -1 then -1 else lBy a (a 0) (wOn a j) j) else if x = 2 then csL a j else if x = 3 then (if isRb a j = true then 1 else 0) else tgL a j

theorem c_of {d : Nat} {w : Wd} {Q : Option MV → Wd → Prop} {a : Nat → Int} (hv : VX w 1 a) (hA : AOK a) {n x : Int} (hb0 : ¬ ((0 ≤ n ∧ n < a 3) ∧ 0 ≤ x ∧ x ≤ 3) → Q (some (.inl (-2))) (cI w 0 10)) (hk : (0 ≤ n ∧ n < a 3) ∧ 0 ≤ x ∧ x ≤ 3 → Q (some (.inl (ofV a n x))) w) : Call (d + 3) mX3_of [vR 0, vI n, vI x] w Q := by
  have hb : vb 1 := Or.inl rfl
  have hv0 := hv
  obtain ⟨⟨x0, x1, x2, x3, x4, x5, x6⟩, xw, xl, xn, xm, xu⟩ := hv
  have am := hA.m
  have an := hA.n
  have af := hA.f
  have anc := hA.nc
  have amc := hA.mc
  have auc := hA.uc
  refine call_in (ls := [some (vR 0), some (vI n), some (vI x)]) (by decide +kernel) rfl (Nat.le_of_ble_eq_true rfl) (fun κ hC hR hN => ?_)
  have hC : ctxB κ RX3 cX3_of (d + 3) := hC
  have hN : mlx κ 3 := hN
  refine w_al0 hC dX3_of_0 ?_
  refine v_getR (off := 1) (j := 1) hC dX3_of_1 fd_X3_10 rfl rfl rfl ?_
  refine w_il1 hC dX3_of_4 ?_
  refine w_vi1 hC vi_X3_109 rfl dX3_of_5 rfl hN (c_hasWord hb hv0 hA (fun g1 => ?_) (fun g1 => ?_))
  · refine v_if_eq (tgt := 20) hC dX3_of_8 rfl (fun h => absurd h (by decide)) (fun _ => ?_)
    refine w_il2 hC dX3_of_11 ?_
    refine w_ic hC dX3_of_12 rfl ?_
    refine w_ic hC dX3_of_13 rfl ?_
    refine w_st3 hC st_X3_50 dX3_of_14 rfl hN (c_within (fun g2 => ?_) (fun g2 => ?_))
    · refine v_if_ne (tgt := 27) hC dX3_of_17 rfl (fun _ => ?_) (fun h => absurd h (by decide))
      refine w_il2 hC dX3_of_27 ?_
      by_cases hs0 : x = 0
      · refine v_tsAt hC 0 (tgt := 56) hs0 dX3_of_28 rfl rfl rfl ?_
        refine w_al0 hC dX3_of_56 ?_
        refine v_getR (off := 1) (j := 1) hC dX3_of_57 fd_X3_10 rfl rfl rfl ?_
        refine w_il1 hC dX3_of_60 ?_
        refine w_vi1 hC vi_X3_139 rfl dX3_of_61 rfl hN (c_kindOf hb hv0 hA g1 ?_)
        refine v_iret hC hR dX3_of_64 ?_
        first | exact hb0 (by omega) | exact qz (by unfold ofV; rw [if_neg (by omega)]; congr 1; omega) (hk ⟨g1, g2⟩) | exact qz (by unfold ofV; rw [if_pos (by omega)]) (hk ⟨g1, g2⟩)
      by_cases hs1 : x = 1
      · refine v_tsAt hC 1 (tgt := 65) hs1 dX3_of_28 rfl rfl rfl ?_
        refine w_al0 hC dX3_of_65 ?_
        refine v_getR (off := 1) (j := 1) hC dX3_of_66 fd_X3_10 rfl rfl rfl ?_
        refine w_il1 hC dX3_of_69 ?_
        refine w_vi1 hC vi_X3_142 rfl dX3_of_70 rfl hN (c_lengthOf hb hv0 hA g1 ?_)
        refine v_iret hC hR dX3_of_73 ?_
        first | exact hb0 (by omega) | exact qz (by unfold ofV; rw [if_neg (by omega)]; congr 1; omega) (hk ⟨g1, g2⟩) | exact qz (by unfold ofV; rw [if_pos (by omega)]) (hk ⟨g1, g2⟩)
      by_cases hs2 : x = 2
      · refine v_tsAt hC 2 (tgt := 74) hs2 dX3_of_28 rfl rfl rfl ?_
        refine w_al0 hC dX3_of_74 ?_
        refine v_getR (off := 1) (j := 1) hC dX3_of_75 fd_X3_10 rfl rfl rfl ?_
        refine w_il1 hC dX3_of_78 ?_
        refine w_vi1 hC vi_X3_145 rfl dX3_of_79 rfl hN (c_codeOf hb hv0 hA g1 ?_)
        refine v_iret hC hR dX3_of_82 ?_
        first | exact hb0 (by omega) | exact qz (by unfold ofV; rw [if_neg (by omega)]; congr 1; omega) (hk ⟨g1, g2⟩) | exact qz (by unfold ofV; rw [if_pos (by omega)]) (hk ⟨g1, g2⟩)
      refine v_tsOut (tgt := 83) hC dX3_of_28 (by omega) rfl ?_
      refine w_al0 hC dX3_of_83 ?_
      refine v_getR (off := 1) (j := 1) hC dX3_of_84 fd_X3_10 rfl rfl rfl ?_
      refine w_il1 hC dX3_of_87 ?_
      refine w_vi1 hC vi_X3_115 rfl dX3_of_88 rfl hN (c_lineOf hb hv0 hA ?_)
      refine v_iret hC hR dX3_of_91 ?_
      first | exact hb0 (by omega) | exact qz (by unfold ofV; rw [if_neg (by omega)]; congr 1; omega) (hk ⟨g1, g2⟩) | exact qz (by unfold ofV; rw [if_pos (by omega)]) (hk ⟨g1, g2⟩)
    · refine v_if_ne (tgt := 27) hC dX3_of_17 rfl (fun h => absurd h (by decide)) (fun _ => ?_)
      refine w_al0 hC dX3_of_20 ?_
      refine v_bipush hC dX3_of_21 (by decide) ?_
      refine w_vi1 hC vi_X3_58 rfl dX3_of_23 rfl hN (c_refBad ?_)
      refine v_iret hC hR dX3_of_26 ?_
      exact hb0 (by omega)
  · refine v_if_eq (tgt := 20) hC dX3_of_8 rfl (fun _ => ?_) (fun h => absurd h (by decide))
    refine w_al0 hC dX3_of_20 ?_
    refine v_bipush hC dX3_of_21 (by decide) ?_
    refine w_vi1 hC vi_X3_58 rfl dX3_of_23 rfl hN (c_refBad ?_)
    refine v_iret hC hR dX3_of_26 ?_
    exact hb0 (by omega)

theorem c_about {d : Nat} {w : Wd} {Q : Option MV → Wd → Prop} {a : Nat → Int} (hv : VX w 1 a) (hA : AOK a) {j x : Int} (hb0 : ¬ ((0 ≤ j ∧ j < a 1) ∧ 0 ≤ x ∧ x ≤ 4) → Q (some (.inl (-2))) (cI w 0 10)) (hk : (0 ≤ j ∧ j < a 1) ∧ 0 ≤ x ∧ x ≤ 4 → Q (some (.inl (abV a j x))) w) : Call (d + 4) mX3_about [vR 0, vI j, vI x] w Q := by
  have hb : vb 1 := Or.inl rfl
  have hv0 := hv
  obtain ⟨⟨x0, x1, x2, x3, x4, x5, x6⟩, xw, xl, xn, xm, xu⟩ := hv
  have am := hA.m
  have an := hA.n
  have af := hA.f
  have anc := hA.nc
  have amc := hA.mc
  have auc := hA.uc
  refine call_in (ls := [some (vR 0), some (vI j), some (vI x), none]) (by decide +kernel) rfl (Nat.le_of_ble_eq_true rfl) (fun κ hC hR hN => ?_)
  have hC : ctxB κ RX3 cX3_about (d + 4) := hC
  have hN : mlx κ 4 := hN
  refine w_al0 hC dX3_about_0 ?_
  refine v_getR (off := 1) (j := 1) hC dX3_about_1 fd_X3_10 rfl rfl rfl ?_
  refine w_il1 hC dX3_about_4 ?_
  refine w_vi1 hC vi_X3_106 rfl dX3_about_5 rfl hN (c_hasLine hb hv0 hA (fun g1 => ?_) (fun g1 => ?_))
  · refine v_if_eq (tgt := 20) hC dX3_about_8 rfl (fun h => absurd h (by decide)) (fun _ => ?_)
    refine w_il2 hC dX3_about_11 ?_
    refine w_ic hC dX3_about_12 rfl ?_
    refine w_ic hC dX3_about_13 rfl ?_
    refine w_st3 hC st_X3_50 dX3_about_14 rfl hN (c_within (fun g2 => ?_) (fun g2 => ?_))
    · refine v_if_ne (tgt := 27) hC dX3_about_17 rfl (fun _ => ?_) (fun h => absurd h (by decide))
      refine w_al0 hC dX3_about_27 ?_
      refine v_getR (off := 1) (j := 1) hC dX3_about_28 fd_X3_10 rfl rfl rfl ?_
      refine w_il1 hC dX3_about_31 ?_
      refine w_vi1 hC vi_X3_112 rfl dX3_about_32 rfl hN (c_wordOn hb hv0 hA ?_)
      have hw := wOn_r hA j
      refine w_is3 hC dX3_about_35 hN (by first | rfl | assumption) ?_
      refine w_il2 hC dX3_about_36 ?_
      by_cases hs0 : x = 0
      · refine v_tsAt hC 0 (tgt := 68) hs0 dX3_about_37 rfl rfl rfl ?_
        refine w_il3 hC dX3_about_68 ?_
        refine v_iret hC hR dX3_about_69 ?_
        first
          | exact hb0 (by omega)
          | exact qz (by unfold abV; rw [if_pos (by omega)]) (hk ⟨g1, g2⟩)
          | exact qz (by unfold abV; rw [if_neg (by omega), if_pos (by omega), if_pos (by omega)]) (hk ⟨g1, g2⟩)
          | exact qz (by unfold abV; rw [if_neg (by omega), if_pos (by omega), if_neg (by omega)]) (hk ⟨g1, g2⟩)
          | exact qz (by unfold abV; rw [if_neg (by omega), if_neg (by omega), if_pos (by omega)]) (hk ⟨g1, g2⟩)
          | exact qz (by unfold abV; rw [if_neg (by omega), if_neg (by omega), if_neg (by omega), if_pos (by omega), if_pos (isRb_iff.mpr g3)]) (hk ⟨g1, g2⟩)
          | exact qz (by unfold abV; rw [if_neg (by omega), if_neg (by omega), if_neg (by omega), if_pos (by omega), if_neg (fun q => g3 (isRb_iff.mp q))]) (hk ⟨g1, g2⟩)
          | exact qz (by unfold abV; rw [if_neg (by omega), if_neg (by omega), if_neg (by omega), if_neg (by omega)]) (hk ⟨g1, g2⟩)
      by_cases hs1 : x = 1
      · refine v_tsAt hC 1 (tgt := 70) hs1 dX3_about_37 rfl rfl rfl ?_
        refine w_il3 hC dX3_about_70 ?_
        refine w_ic hC dX3_about_71 rfl ?_
        refine v_ic_ne (tgt := 79) hC dX3_about_72 rfl (fun h72 => ?_) (fun h72 => ?_)
        · refine w_al0 hC dX3_about_79 ?_
          refine v_getR (off := 1) (j := 1) hC dX3_about_80 fd_X3_10 rfl rfl rfl ?_
          refine w_al0 hC dX3_about_83 ?_
          refine v_getR (off := 1) (j := 1) hC dX3_about_84 fd_X3_10 rfl rfl rfl ?_
          refine v_getI hC dX3_about_87 fd_X3_70 rfl rfl ?_
          rw [x0]
          refine w_il3 hC dX3_about_90 ?_
          refine w_il1 hC dX3_about_91 ?_
          refine w_vi3 hC vi_X3_148 rfl dX3_about_92 rfl hN (c_letterBy hb hv0 hA ⟨by omega, by omega⟩ ⟨by omega, by omega⟩ ?_)
          refine v_iret hC hR dX3_about_95 ?_
          first
            | exact hb0 (by omega)
            | exact qz (by unfold abV; rw [if_pos (by omega)]) (hk ⟨g1, g2⟩)
            | exact qz (by unfold abV; rw [if_neg (by omega), if_pos (by omega), if_pos (by omega)]) (hk ⟨g1, g2⟩)
            | exact qz (by unfold abV; rw [if_neg (by omega), if_pos (by omega), if_neg (by omega)]) (hk ⟨g1, g2⟩)
            | exact qz (by unfold abV; rw [if_neg (by omega), if_neg (by omega), if_pos (by omega)]) (hk ⟨g1, g2⟩)
            | exact qz (by unfold abV; rw [if_neg (by omega), if_neg (by omega), if_neg (by omega), if_pos (by omega), if_pos (isRb_iff.mpr g3)]) (hk ⟨g1, g2⟩)
            | exact qz (by unfold abV; rw [if_neg (by omega), if_neg (by omega), if_neg (by omega), if_pos (by omega), if_neg (fun q => g3 (isRb_iff.mp q))]) (hk ⟨g1, g2⟩)
            | exact qz (by unfold abV; rw [if_neg (by omega), if_neg (by omega), if_neg (by omega), if_neg (by omega)]) (hk ⟨g1, g2⟩)
        · refine w_ic hC dX3_about_75 rfl ?_
          refine v_goto (tgt := 95) hC dX3_about_76 rfl ?_
          refine v_iret hC hR dX3_about_95 ?_
          first
            | exact hb0 (by omega)
            | exact qz (by unfold abV; rw [if_pos (by omega)]) (hk ⟨g1, g2⟩)
            | exact qz (by unfold abV; rw [if_neg (by omega), if_pos (by omega), if_pos (by omega)]) (hk ⟨g1, g2⟩)
            | exact qz (by unfold abV; rw [if_neg (by omega), if_pos (by omega), if_neg (by omega)]) (hk ⟨g1, g2⟩)
            | exact qz (by unfold abV; rw [if_neg (by omega), if_neg (by omega), if_pos (by omega)]) (hk ⟨g1, g2⟩)
            | exact qz (by unfold abV; rw [if_neg (by omega), if_neg (by omega), if_neg (by omega), if_pos (by omega), if_pos (isRb_iff.mpr g3)]) (hk ⟨g1, g2⟩)
            | exact qz (by unfold abV; rw [if_neg (by omega), if_neg (by omega), if_neg (by omega), if_pos (by omega), if_neg (fun q => g3 (isRb_iff.mp q))]) (hk ⟨g1, g2⟩)
            | exact qz (by unfold abV; rw [if_neg (by omega), if_neg (by omega), if_neg (by omega), if_neg (by omega)]) (hk ⟨g1, g2⟩)
      by_cases hs2 : x = 2
      · refine v_tsAt hC 2 (tgt := 96) hs2 dX3_about_37 rfl rfl rfl ?_
        refine w_al0 hC dX3_about_96 ?_
        refine v_getR (off := 1) (j := 1) hC dX3_about_97 fd_X3_10 rfl rfl rfl ?_
        refine w_il1 hC dX3_about_100 ?_
        refine w_vi1 hC vi_X3_152 rfl dX3_about_101 rfl hN (c_costOnLine hb hv0 hA ⟨by omega, by omega⟩ ?_)
        refine v_iret hC hR dX3_about_104 ?_
        first
          | exact hb0 (by omega)
          | exact qz (by unfold abV; rw [if_pos (by omega)]) (hk ⟨g1, g2⟩)
          | exact qz (by unfold abV; rw [if_neg (by omega), if_pos (by omega), if_pos (by omega)]) (hk ⟨g1, g2⟩)
          | exact qz (by unfold abV; rw [if_neg (by omega), if_pos (by omega), if_neg (by omega)]) (hk ⟨g1, g2⟩)
          | exact qz (by unfold abV; rw [if_neg (by omega), if_neg (by omega), if_pos (by omega)]) (hk ⟨g1, g2⟩)
          | exact qz (by unfold abV; rw [if_neg (by omega), if_neg (by omega), if_neg (by omega), if_pos (by omega), if_pos (isRb_iff.mpr g3)]) (hk ⟨g1, g2⟩)
          | exact qz (by unfold abV; rw [if_neg (by omega), if_neg (by omega), if_neg (by omega), if_pos (by omega), if_neg (fun q => g3 (isRb_iff.mp q))]) (hk ⟨g1, g2⟩)
          | exact qz (by unfold abV; rw [if_neg (by omega), if_neg (by omega), if_neg (by omega), if_neg (by omega)]) (hk ⟨g1, g2⟩)
      by_cases hs3 : x = 3
      · refine v_tsAt hC 3 (tgt := 105) hs3 dX3_about_37 rfl rfl rfl ?_
        refine w_al0 hC dX3_about_105 ?_
        refine v_getR (off := 1) (j := 1) hC dX3_about_106 fd_X3_10 rfl rfl rfl ?_
        refine w_il1 hC dX3_about_109 ?_
        refine w_vi1 hC vi_X3_129 rfl dX3_about_110 rfl hN (c_isRight hb hv0 hA ⟨by omega, by omega⟩ (fun g3 => ?_) (fun g3 => ?_))
        · refine v_if_eq (tgt := 120) hC dX3_about_113 rfl (fun h => absurd h (by decide)) (fun _ => ?_)
          refine w_ic hC dX3_about_116 rfl ?_
          refine v_goto (tgt := 121) hC dX3_about_117 rfl ?_
          refine v_iret hC hR dX3_about_121 ?_
          first
            | exact hb0 (by omega)
            | exact qz (by unfold abV; rw [if_pos (by omega)]) (hk ⟨g1, g2⟩)
            | exact qz (by unfold abV; rw [if_neg (by omega), if_pos (by omega), if_pos (by omega)]) (hk ⟨g1, g2⟩)
            | exact qz (by unfold abV; rw [if_neg (by omega), if_pos (by omega), if_neg (by omega)]) (hk ⟨g1, g2⟩)
            | exact qz (by unfold abV; rw [if_neg (by omega), if_neg (by omega), if_pos (by omega)]) (hk ⟨g1, g2⟩)
            | exact qz (by unfold abV; rw [if_neg (by omega), if_neg (by omega), if_neg (by omega), if_pos (by omega), if_pos (isRb_iff.mpr g3)]) (hk ⟨g1, g2⟩)
            | exact qz (by unfold abV; rw [if_neg (by omega), if_neg (by omega), if_neg (by omega), if_pos (by omega), if_neg (fun q => g3 (isRb_iff.mp q))]) (hk ⟨g1, g2⟩)
            | exact qz (by unfold abV; rw [if_neg (by omega), if_neg (by omega), if_neg (by omega), if_neg (by omega)]) (hk ⟨g1, g2⟩)
        · refine v_if_eq (tgt := 120) hC dX3_about_113 rfl (fun _ => ?_) (fun h => absurd h (by decide))
          refine w_ic hC dX3_about_120 rfl ?_
          refine v_iret hC hR dX3_about_121 ?_
          first
            | exact hb0 (by omega)
            | exact qz (by unfold abV; rw [if_pos (by omega)]) (hk ⟨g1, g2⟩)
            | exact qz (by unfold abV; rw [if_neg (by omega), if_pos (by omega), if_pos (by omega)]) (hk ⟨g1, g2⟩)
            | exact qz (by unfold abV; rw [if_neg (by omega), if_pos (by omega), if_neg (by omega)]) (hk ⟨g1, g2⟩)
            | exact qz (by unfold abV; rw [if_neg (by omega), if_neg (by omega), if_pos (by omega)]) (hk ⟨g1, g2⟩)
            | exact qz (by unfold abV; rw [if_neg (by omega), if_neg (by omega), if_neg (by omega), if_pos (by omega), if_pos (isRb_iff.mpr g3)]) (hk ⟨g1, g2⟩)
            | exact qz (by unfold abV; rw [if_neg (by omega), if_neg (by omega), if_neg (by omega), if_pos (by omega), if_neg (fun q => g3 (isRb_iff.mp q))]) (hk ⟨g1, g2⟩)
            | exact qz (by unfold abV; rw [if_neg (by omega), if_neg (by omega), if_neg (by omega), if_neg (by omega)]) (hk ⟨g1, g2⟩)
      refine v_tsOut (tgt := 122) hC dX3_about_37 (by omega) rfl ?_
      refine w_al0 hC dX3_about_122 ?_
      refine v_getR (off := 1) (j := 1) hC dX3_about_123 fd_X3_10 rfl rfl rfl ?_
      refine w_il1 hC dX3_about_126 ?_
      refine w_vi1 hC vi_X3_155 rfl dX3_about_127 rfl hN (c_targetLetter hb hv0 hA ⟨by omega, by omega⟩ ?_)
      refine v_iret hC hR dX3_about_130 ?_
      first
        | exact hb0 (by omega)
        | exact qz (by unfold abV; rw [if_pos (by omega)]) (hk ⟨g1, g2⟩)
        | exact qz (by unfold abV; rw [if_neg (by omega), if_pos (by omega), if_pos (by omega)]) (hk ⟨g1, g2⟩)
        | exact qz (by unfold abV; rw [if_neg (by omega), if_pos (by omega), if_neg (by omega)]) (hk ⟨g1, g2⟩)
        | exact qz (by unfold abV; rw [if_neg (by omega), if_neg (by omega), if_pos (by omega)]) (hk ⟨g1, g2⟩)
        | exact qz (by unfold abV; rw [if_neg (by omega), if_neg (by omega), if_neg (by omega), if_pos (by omega), if_pos (isRb_iff.mpr g3)]) (hk ⟨g1, g2⟩)
        | exact qz (by unfold abV; rw [if_neg (by omega), if_neg (by omega), if_neg (by omega), if_pos (by omega), if_neg (fun q => g3 (isRb_iff.mp q))]) (hk ⟨g1, g2⟩)
        | exact qz (by unfold abV; rw [if_neg (by omega), if_neg (by omega), if_neg (by omega), if_neg (by omega)]) (hk ⟨g1, g2⟩)
    · refine v_if_ne (tgt := 27) hC dX3_about_17 rfl (fun h => absurd h (by decide)) (fun _ => ?_)
      refine w_al0 hC dX3_about_20 ?_
      refine v_bipush hC dX3_about_21 (by decide) ?_
      refine w_vi1 hC vi_X3_58 rfl dX3_about_23 rfl hN (c_refBad ?_)
      refine v_iret hC hR dX3_about_26 ?_
      exact hb0 (by omega)
  · refine v_if_eq (tgt := 20) hC dX3_about_8 rfl (fun _ => ?_) (fun h => absurd h (by decide))
    refine w_al0 hC dX3_about_20 ?_
    refine v_bipush hC dX3_about_21 (by decide) ?_
    refine w_vi1 hC vi_X3_58 rfl dX3_about_23 rfl hN (c_refBad ?_)
    refine v_iret hC hR dX3_about_26 ?_
    exact hb0 (by omega)

theorem c_fits {d : Nat} {w : Wd} {Q : Option MV → Wd → Prop} {a : Nat → Int} (hv : VX w 1 a) (hA : AOK a) {n j : Int} (hb0 : ¬ ((0 ≤ n ∧ n < a 3) ∧ 0 ≤ j ∧ j < a 1) → Q (some (.inl (-2))) (cI w 0 10)) (hk1 : (0 ≤ n ∧ n < a 3) ∧ 0 ≤ j ∧ j < a 1 → fitB a (a 0) n j → Q (some (.inl 1)) w) (hk0 : (0 ≤ n ∧ n < a 3) ∧ 0 ≤ j ∧ j < a 1 → ¬ fitB a (a 0) n j → Q (some (.inl 0)) w) : Call (d + 3) mX3_fits [vR 0, vI n, vI j] w Q := by
  have hb : vb 1 := Or.inl rfl
  have hv0 := hv
  obtain ⟨⟨x0, x1, x2, x3, x4, x5, x6⟩, xw, xl, xn, xm, xu⟩ := hv
  have am := hA.m
  have an := hA.n
  have af := hA.f
  have anc := hA.nc
  have amc := hA.mc
  have auc := hA.uc
  refine call_in (ls := [some (vR 0), some (vI n), some (vI j)]) (by decide +kernel) rfl (Nat.le_of_ble_eq_true rfl) (fun κ hC hR hN => ?_)
  have hC : ctxB κ RX3 cX3_fits (d + 3) := hC
  have hN : mlx κ 3 := hN
  refine w_al0 hC dX3_fits_0 ?_
  refine v_getR (off := 1) (j := 1) hC dX3_fits_1 fd_X3_10 rfl rfl rfl ?_
  refine w_il1 hC dX3_fits_4 ?_
  refine w_vi1 hC vi_X3_109 rfl dX3_fits_5 rfl hN (c_hasWord hb hv0 hA (fun g1 => ?_) (fun g1 => ?_))
  · refine v_if_eq (tgt := 22) hC dX3_fits_8 rfl (fun h => absurd h (by decide)) (fun _ => ?_)
    refine w_al0 hC dX3_fits_11 ?_
    refine v_getR (off := 1) (j := 1) hC dX3_fits_12 fd_X3_10 rfl rfl rfl ?_
    refine w_il2 hC dX3_fits_15 ?_
    refine w_vi1 hC vi_X3_106 rfl dX3_fits_16 rfl hN (c_hasLine hb hv0 hA (fun g2 => ?_) (fun g2 => ?_))
    · refine v_if_ne (tgt := 29) hC dX3_fits_19 rfl (fun _ => ?_) (fun h => absurd h (by decide))
      refine w_al0 hC dX3_fits_29 ?_
      refine v_getR (off := 1) (j := 1) hC dX3_fits_30 fd_X3_10 rfl rfl rfl ?_
      refine w_al0 hC dX3_fits_33 ?_
      refine v_getR (off := 1) (j := 1) hC dX3_fits_34 fd_X3_10 rfl rfl rfl ?_
      refine v_getI hC dX3_fits_37 fd_X3_70 rfl rfl ?_
      rw [x0]
      refine w_il1 hC dX3_fits_40 ?_
      refine w_il2 hC dX3_fits_41 ?_
      refine w_vi3 hC vi_X3_158 rfl dX3_fits_42 rfl hN (c_fitsBy hb hv0 hA g1 ⟨by omega, by omega⟩ (fun g3 => ?_) (fun g3 => ?_))
      · refine v_if_eq (tgt := 52) hC dX3_fits_45 rfl (fun h => absurd h (by decide)) (fun _ => ?_)
        refine w_ic hC dX3_fits_48 rfl ?_
        refine v_goto (tgt := 53) hC dX3_fits_49 rfl ?_
        refine v_iret hC hR dX3_fits_53 ?_
        first | exact hk1 ⟨g1, g2⟩ g3 | exact hk0 ⟨g1, g2⟩ g3
      · refine v_if_eq (tgt := 52) hC dX3_fits_45 rfl (fun _ => ?_) (fun h => absurd h (by decide))
        refine w_ic hC dX3_fits_52 rfl ?_
        refine v_iret hC hR dX3_fits_53 ?_
        first | exact hk1 ⟨g1, g2⟩ g3 | exact hk0 ⟨g1, g2⟩ g3
    · refine v_if_ne (tgt := 29) hC dX3_fits_19 rfl (fun h => absurd h (by decide)) (fun _ => ?_)
      refine w_al0 hC dX3_fits_22 ?_
      refine v_bipush hC dX3_fits_23 (by decide) ?_
      refine w_vi1 hC vi_X3_58 rfl dX3_fits_25 rfl hN (c_refBad ?_)
      refine v_iret hC hR dX3_fits_28 ?_
      exact hb0 (by omega)
  · refine v_if_eq (tgt := 22) hC dX3_fits_8 rfl (fun _ => ?_) (fun h => absurd h (by decide))
    refine w_al0 hC dX3_fits_22 ?_
    refine v_bipush hC dX3_fits_23 (by decide) ?_
    refine w_vi1 hC vi_X3_58 rfl dX3_fits_25 rfl hN (c_refBad ?_)
    refine v_iret hC hR dX3_fits_28 ?_
    exact hb0 (by omega)

theorem c_note {d : Nat} {w : Wd} {Q : Option MV → Wd → Prop} {a : Nat → Int} (hv : VX w 1 a) (hA : AOK a) {n j x : Int} (hb0 : ¬ ((3 ≤ n ∧ n ≤ 6) ∧ (0 ≤ j ∧ j ≤ 5) ∧ 0 ≤ x ∧ x ≤ 5) → Q (some (.inl (-2))) (cI w 0 10)) (hf0 : (3 ≤ n ∧ n ≤ 6) ∧ (0 ≤ j ∧ j ≤ 5) ∧ 0 ≤ x ∧ x ≤ 5 → a 34 = 6 → Q (some (.inl (-4))) (cI w 0 12)) (hk : (3 ≤ n ∧ n ≤ 6) ∧ (0 ≤ j ∧ j ≤ 5) ∧ 0 ≤ x ∧ x ≤ 5 → a 34 < 6 → ∀ w2, VX w2 1 (sNote a n j x) → smB w w2 1 → Q (some (.inl (a 34 + 1))) w2) : Call (d + 2) mX3_note [vR 0, vI n, vI j, vI x] w Q := by
  have hb : vb 1 := Or.inl rfl
  have hv0 := hv
  obtain ⟨⟨x0, x1, x2, x3, x4, x5, x6⟩, xw, xl, xn, xm, xu⟩ := hv
  have am := hA.m
  have an := hA.n
  have af := hA.f
  have anc := hA.nc
  have amc := hA.mc
  have auc := hA.uc
  refine call_in (ls := [some (vR 0), some (vI n), some (vI j), some (vI x)]) (by decide +kernel) rfl (Nat.le_of_ble_eq_true rfl) (fun κ hC hR hN => ?_)
  have hC : ctxB κ RX3 cX3_note (d + 2) := hC
  have hN : mlx κ 4 := hN
  refine w_il1 hC dX3_note_0 ?_
  refine w_st1 hC st_X3_76 dX3_note_1 rfl hN (c_isLength (fun g1 => ?_) (fun g1 => ?_))
  · refine v_if_eq (tgt := 23) hC dX3_note_4 rfl (fun h => absurd h (by decide)) (fun _ => ?_)
    refine w_il2 hC dX3_note_7 ?_
    refine w_st1 hC st_X3_204 dX3_note_8 rfl hN (c_isLineNumber (fun g2 => ?_) (fun g2 => ?_))
    · refine v_if_eq (tgt := 23) hC dX3_note_11 rfl (fun h => absurd h (by decide)) (fun _ => ?_)
      refine w_il3 hC dX3_note_14 ?_
      refine w_ic hC dX3_note_15 rfl ?_
      refine w_ic hC dX3_note_16 rfl ?_
      refine w_st3 hC st_X3_50 dX3_note_17 rfl hN (c_within (fun g3 => ?_) (fun g3 => ?_))
      · refine v_if_ne (tgt := 30) hC dX3_note_20 rfl (fun _ => ?_) (fun h => absurd h (by decide))
        refine w_al0 hC dX3_note_30 ?_
        refine v_getR (off := 1) (j := 1) hC dX3_note_31 fd_X3_10 rfl rfl rfl ?_
        refine v_getI hC dX3_note_34 fd_X3_207 rfl rfl ?_
        rw [x4]
        refine v_bipush hC dX3_note_37 (by decide) ?_
        refine v_ic_lt (tgt := 49) hC dX3_note_39 rfl (fun h39 => ?_) (fun h39 => ?_)
        · refine w_al0 hC dX3_note_49 ?_
          refine v_getR (off := 1) (j := 1) hC dX3_note_50 fd_X3_10 rfl rfl rfl ?_
          refine w_il1 hC dX3_note_53 ?_
          refine w_il2 hC dX3_note_54 ?_
          refine w_il3 hC dX3_note_55 ?_
          refine w_vi3 hC vi_X3_210 rfl dX3_note_56 rfl hN (c_addNote hb hv0 ⟨by omega, by omega⟩ an amc auc (fun w2 v2 o2 => ?_))
          refine w_al0 hC dX3_note_59 ?_
          refine v_getR (off := 1) (j := 1) hC dX3_note_60 fd_X3_10 rfl rfl rfl ?_
          refine v_getI hC dX3_note_63 fd_X3_207 rfl rfl ?_
          rw [v2.1.2.2.2.2.1]
          refine v_iret hC hR dX3_note_66 ?_
          exact hk (by omega) (by omega) w2 v2 o2
        · refine w_al0 hC dX3_note_42 ?_
          refine v_bipush hC dX3_note_43 (by decide) ?_
          refine w_vi1 hC vi_X3_58 rfl dX3_note_45 rfl hN (c_refFull ?_)
          refine v_iret hC hR dX3_note_48 ?_
          exact hf0 (by omega) (by omega)
      · refine v_if_ne (tgt := 30) hC dX3_note_20 rfl (fun h => absurd h (by decide)) (fun _ => ?_)
        refine w_al0 hC dX3_note_23 ?_
        refine v_bipush hC dX3_note_24 (by decide) ?_
        refine w_vi1 hC vi_X3_58 rfl dX3_note_26 rfl hN (c_refBad ?_)
        refine v_iret hC hR dX3_note_29 ?_
        exact hb0 (by omega)
    · refine v_if_eq (tgt := 23) hC dX3_note_11 rfl (fun _ => ?_) (fun h => absurd h (by decide))
      refine w_al0 hC dX3_note_23 ?_
      refine v_bipush hC dX3_note_24 (by decide) ?_
      refine w_vi1 hC vi_X3_58 rfl dX3_note_26 rfl hN (c_refBad ?_)
      refine v_iret hC hR dX3_note_29 ?_
      exact hb0 (by omega)
  · refine v_if_eq (tgt := 23) hC dX3_note_4 rfl (fun _ => ?_) (fun h => absurd h (by decide))
    refine w_al0 hC dX3_note_23 ?_
    refine v_bipush hC dX3_note_24 (by decide) ?_
    refine w_vi1 hC vi_X3_58 rfl dX3_note_26 rfl hN (c_refBad ?_)
    refine v_iret hC hR dX3_note_29 ?_
    exact hb0 (by omega)

theorem c_mark {d : Nat} {w : Wd} {Q : Option MV → Wd → Prop} {a : Nat → Int} (hv : VX w 1 a) (hA : AOK a) {wd n j x : Int} (hb0 : ¬ ((0 ≤ wd ∧ wd < a 3) ∧ (3 ≤ n ∧ n ≤ 6) ∧ (0 ≤ j ∧ j ≤ 5) ∧ 0 ≤ x ∧ x ≤ 20) → Q (some (.inl (-2))) (cI w 0 10)) (hf0 : (0 ≤ wd ∧ wd < a 3) ∧ (3 ≤ n ∧ n ≤ 6) ∧ (0 ≤ j ∧ j ≤ 5) ∧ 0 ≤ x ∧ x ≤ 20 → a 53 = 6 → Q (some (.inl (-4))) (cI w 0 12)) (hk : (0 ≤ wd ∧ wd < a 3) ∧ (3 ≤ n ∧ n ≤ 6) ∧ (0 ≤ j ∧ j ≤ 5) ∧ 0 ≤ x ∧ x ≤ 20 → a 53 < 6 → ∀ w2, VX w2 1 (sMark a wd n j x) → smB w w2 1 → Q (some (.inl (a 53 + 1))) w2) : Call (d + 2) mX3_mark [vR 0, vI wd, vI n, vI j, vI x] w Q := by
  have hb : vb 1 := Or.inl rfl
  have hv0 := hv
  obtain ⟨⟨x0, x1, x2, x3, x4, x5, x6⟩, xw, xl, xn, xm, xu⟩ := hv
  have am := hA.m
  have an := hA.n
  have af := hA.f
  have anc := hA.nc
  have amc := hA.mc
  have auc := hA.uc
  refine call_in (ls := [some (vR 0), some (vI wd), some (vI n), some (vI j), some (vI x)]) (by decide +kernel) rfl (Nat.le_of_ble_eq_true rfl) (fun κ hC hR hN => ?_)
  have hC : ctxB κ RX3 cX3_mark (d + 2) := hC
  have hN : mlx κ 5 := hN
  refine w_al0 hC dX3_mark_0 ?_
  refine v_getR (off := 1) (j := 1) hC dX3_mark_1 fd_X3_10 rfl rfl rfl ?_
  refine w_il1 hC dX3_mark_4 ?_
  refine w_vi1 hC vi_X3_109 rfl dX3_mark_5 rfl hN (c_hasWord hb hv0 hA (fun g0 => ?_) (fun g0 => ?_))
  · refine v_if_eq (tgt := 36) hC dX3_mark_8 rfl (fun h => absurd h (by decide)) (fun _ => ?_)
    refine w_il2 hC dX3_mark_11 ?_
    refine w_st1 hC st_X3_76 dX3_mark_12 rfl hN (c_isLength (fun g1 => ?_) (fun g1 => ?_))
    · refine v_if_eq (tgt := 36) hC dX3_mark_15 rfl (fun h => absurd h (by decide)) (fun _ => ?_)
      refine w_il3 hC dX3_mark_18 ?_
      refine w_st1 hC st_X3_204 dX3_mark_19 rfl hN (c_isLineNumber (fun g2 => ?_) (fun g2 => ?_))
      · refine v_if_eq (tgt := 36) hC dX3_mark_22 rfl (fun h => absurd h (by decide)) (fun _ => ?_)
        refine w_il4 hC dX3_mark_25 ?_
        refine w_ic hC dX3_mark_27 rfl ?_
        refine v_bipush hC dX3_mark_28 (by decide) ?_
        refine w_st3 hC st_X3_50 dX3_mark_30 rfl hN (c_within (fun g3 => ?_) (fun g3 => ?_))
        · refine v_if_ne (tgt := 43) hC dX3_mark_33 rfl (fun _ => ?_) (fun h => absurd h (by decide))
          refine w_al0 hC dX3_mark_43 ?_
          refine v_getR (off := 1) (j := 1) hC dX3_mark_44 fd_X3_10 rfl rfl rfl ?_
          refine v_getI hC dX3_mark_47 fd_X3_213 rfl rfl ?_
          rw [x5]
          refine v_bipush hC dX3_mark_50 (by decide) ?_
          refine v_ic_lt (tgt := 62) hC dX3_mark_52 rfl (fun h52 => ?_) (fun h52 => ?_)
          · refine w_al0 hC dX3_mark_62 ?_
            refine v_getR (off := 1) (j := 1) hC dX3_mark_63 fd_X3_10 rfl rfl rfl ?_
            refine w_il1 hC dX3_mark_66 ?_
            refine w_il2 hC dX3_mark_67 ?_
            refine w_il3 hC dX3_mark_68 ?_
            refine w_il4 hC dX3_mark_69 ?_
            refine w_vi4 hC vi_X3_216 rfl dX3_mark_71 rfl hN (c_addMark hb hv0 ⟨by omega, by omega⟩ an anc auc (fun w2 v2 o2 => ?_))
            refine w_al0 hC dX3_mark_74 ?_
            refine v_getR (off := 1) (j := 1) hC dX3_mark_75 fd_X3_10 rfl rfl rfl ?_
            refine v_getI hC dX3_mark_78 fd_X3_213 rfl rfl ?_
            rw [v2.1.2.2.2.2.2.1]
            refine v_iret hC hR dX3_mark_81 ?_
            exact hk (by omega) (by omega) w2 v2 o2
          · refine w_al0 hC dX3_mark_55 ?_
            refine v_bipush hC dX3_mark_56 (by decide) ?_
            refine w_vi1 hC vi_X3_58 rfl dX3_mark_58 rfl hN (c_refFull ?_)
            refine v_iret hC hR dX3_mark_61 ?_
            exact hf0 (by omega) (by omega)
        · refine v_if_ne (tgt := 43) hC dX3_mark_33 rfl (fun h => absurd h (by decide)) (fun _ => ?_)
          refine w_al0 hC dX3_mark_36 ?_
          refine v_bipush hC dX3_mark_37 (by decide) ?_
          refine w_vi1 hC vi_X3_58 rfl dX3_mark_39 rfl hN (c_refBad ?_)
          refine v_iret hC hR dX3_mark_42 ?_
          exact hb0 (by omega)
      · refine v_if_eq (tgt := 36) hC dX3_mark_22 rfl (fun _ => ?_) (fun h => absurd h (by decide))
        refine w_al0 hC dX3_mark_36 ?_
        refine v_bipush hC dX3_mark_37 (by decide) ?_
        refine w_vi1 hC vi_X3_58 rfl dX3_mark_39 rfl hN (c_refBad ?_)
        refine v_iret hC hR dX3_mark_42 ?_
        exact hb0 (by omega)
    · refine v_if_eq (tgt := 36) hC dX3_mark_15 rfl (fun _ => ?_) (fun h => absurd h (by decide))
      refine w_al0 hC dX3_mark_36 ?_
      refine v_bipush hC dX3_mark_37 (by decide) ?_
      refine w_vi1 hC vi_X3_58 rfl dX3_mark_39 rfl hN (c_refBad ?_)
      refine v_iret hC hR dX3_mark_42 ?_
      exact hb0 (by omega)
  · refine v_if_eq (tgt := 36) hC dX3_mark_8 rfl (fun _ => ?_) (fun h => absurd h (by decide))
    refine w_al0 hC dX3_mark_36 ?_
    refine v_bipush hC dX3_mark_37 (by decide) ?_
    refine w_vi1 hC vi_X3_58 rfl dX3_mark_39 rfl hN (c_refBad ?_)
    refine v_iret hC hR dX3_mark_42 ?_
    exact hb0 (by omega)

theorem VX.no0 {w : Wd} {b : Nat} {a : Nat → Int} (hv : VX w b a) (h3 : a 3 ≤ 8) (h53 : a 53 ≤ 6) (h78 : a 78 ≤ 8) : VX (up w b 4 0) b (ua a 34 0) := by
  obtain ⟨⟨x0, x1, x2, x3, x4, x5, x6⟩, xw, xl, xn, xm, xu⟩ := hv
  have u : ∀ i k : Nat, ¬ (i = b ∧ k = 4) → up w b 4 0 i k = w i k := fun i k h => up_ne _ _ h
  have ug : ∀ q : Nat, q ≠ 34 → ua a 34 0 q = a q := fun q h2 => by unfold ua; rw [if_neg h2]
  have ug3 := ug 3 (by omega)
  have ug78 := ug 78 (by omega)
  have ug53 := ug 53 (by omega)
  refine ⟨⟨?_, ?_, ?_, ?_, ?_, ?_, ?_⟩, fun k hk => ?_, fun j hj => ?_, fun k hk => ?_, fun k hk => ?_, fun k hk => ?_⟩
  · rw [u _ _ (by omega), x0, ug _ (by omega)]
  · rw [u _ _ (by omega), x1, ug _ (by omega)]
  · rw [u _ _ (by omega), x2, ug _ (by omega)]
  · rw [u _ _ (by omega), x3, ug3]
  · rw [up_same]; rfl
  · rw [u _ _ (by omega), x5, ug53]
  · rw [u _ _ (by omega), x6, ug78]
  · rw [u _ _ (by omega), u _ _ (by omega), u _ _ (by omega), ug _ (by omega), ug _ (by omega), ug _ (by omega)]; exact xw k (by omega)
  · rw [u _ _ (by omega), ug _ (by omega)]; exact xl j hj
  · rw [show ua a 34 0 34 = 0 from rfl] at hk; omega
  · rw [u _ _ (by omega), ug _ (by omega)]; exact xm k (by omega)
  · rw [u _ _ (by omega), ug _ (by omega)]; exact xu k (by omega)
theorem VX.ma0 {w : Wd} {b : Nat} {a : Nat → Int} (hv : VX w b a) (h3 : a 3 ≤ 8) (h34 : a 34 ≤ 6) (h78 : a 78 ≤ 8) : VX (up w b 5 0) b (ua a 53 0) := by
  obtain ⟨⟨x0, x1, x2, x3, x4, x5, x6⟩, xw, xl, xn, xm, xu⟩ := hv
  have u : ∀ i k : Nat, ¬ (i = b ∧ k = 5) → up w b 5 0 i k = w i k := fun i k h => up_ne _ _ h
  have ug : ∀ q : Nat, q ≠ 53 → ua a 53 0 q = a q := fun q h2 => by unfold ua; rw [if_neg h2]
  have ug3 := ug 3 (by omega)
  have ug78 := ug 78 (by omega)
  have ug34 := ug 34 (by omega)
  refine ⟨⟨?_, ?_, ?_, ?_, ?_, ?_, ?_⟩, fun k hk => ?_, fun j hj => ?_, fun k hk => ?_, fun k hk => ?_, fun k hk => ?_⟩
  · rw [u _ _ (by omega), x0, ug _ (by omega)]
  · rw [u _ _ (by omega), x1, ug _ (by omega)]
  · rw [u _ _ (by omega), x2, ug _ (by omega)]
  · rw [u _ _ (by omega), x3, ug3]
  · rw [u _ _ (by omega), x4, ug34]
  · rw [up_same]; rfl
  · rw [u _ _ (by omega), x6, ug78]
  · rw [u _ _ (by omega), u _ _ (by omega), u _ _ (by omega), ug _ (by omega), ug _ (by omega), ug _ (by omega)]; exact xw k (by omega)
  · rw [u _ _ (by omega), ug _ (by omega)]; exact xl j hj
  · rw [u _ _ (by omega), ug _ (by omega)]; exact xn k (by omega)
  · rw [show ua a 53 0 53 = 0 from rfl] at hk; omega
  · rw [u _ _ (by omega), ug _ (by omega)]; exact xu k (by omega)

theorem c_forget {d : Nat} {w : Wd} {Q : Option MV → Wd → Prop} {a : Nat → Int} (hv : VX w 1 a) (hA : AOK a) {x : Int} (hb0 : ¬ (0 ≤ x ∧ x ≤ 1) → Q (some (.inl (-2))) (cI w 0 10)) (hk0 : x = 0 → ∀ w2, VX w2 1 (ua a 34 0) → smB w w2 1 → Q (some (.inl (a 34))) w2) (hk1 : x = 1 → ∀ w2, VX w2 1 (ua a 53 0) → smB w w2 1 → Q (some (.inl (a 53))) w2) : Call (d + 1) mX3_forget [vR 0, vI x] w Q := by
  have hb : vb 1 := Or.inl rfl
  have hv0 := hv
  obtain ⟨⟨x0, x1, x2, x3, x4, x5, x6⟩, xw, xl, xn, xm, xu⟩ := hv
  have am := hA.m
  have an := hA.n
  have af := hA.f
  have anc := hA.nc
  have amc := hA.mc
  have auc := hA.uc
  refine call_in (ls := [some (vR 0), some (vI x), none]) (by decide +kernel) rfl (Nat.le_of_ble_eq_true rfl) (fun κ hC hR hN => ?_)
  have hC : ctxB κ RX3 cX3_forget (d + 1) := hC
  have hN : mlx κ 3 := hN
  refine w_il1 hC dX3_forget_0 ?_
  refine w_ic hC dX3_forget_1 rfl ?_
  refine w_ic hC dX3_forget_2 rfl ?_
  refine w_st3 hC st_X3_50 dX3_forget_3 rfl hN (c_within (fun g1 => ?_) (fun g1 => ?_))
  · refine v_if_ne (tgt := 16) hC dX3_forget_6 rfl (fun _ => ?_) (fun h => absurd h (by decide))
    refine w_il1 hC dX3_forget_16 ?_
    refine v_if_ne (tgt := 30) hC dX3_forget_17 rfl (fun h17 => ?_) (fun h17 => ?_)
    · refine w_al0 hC dX3_forget_30 ?_
      refine v_getR (off := 1) (j := 1) hC dX3_forget_31 fd_X3_10 rfl rfl rfl ?_
      refine v_getI hC dX3_forget_34 fd_X3_213 rfl rfl ?_
      rw [x5]
      refine w_is2 hC dX3_forget_37 hN (by first | rfl | assumption) ?_
      refine w_il1 hC dX3_forget_38 ?_
      refine v_if_ne (tgt := 53) hC dX3_forget_39 rfl (fun h39 => ?_) (fun h39 => ?_)
      · refine w_al0 hC dX3_forget_53 ?_
        refine v_getR (off := 1) (j := 1) hC dX3_forget_54 fd_X3_10 rfl rfl rfl ?_
        refine w_ic hC dX3_forget_57 rfl ?_
        refine v_putI hC dX3_forget_58 fp_X3_213 rfl rfl ?_
        refine w_il2 hC dX3_forget_61 ?_
        refine v_iret hC hR dX3_forget_62 ?_
        first | exact absurd h17 h39 | exact absurd h39 h17 | exact hk0 (by omega) _ (hv0.no0 an.2 amc.2 auc.2) (fun i k hi => up_id _ _ (by omega)) | exact hk1 (by omega) _ (hv0.ma0 an.2 anc.2 auc.2) (fun i k hi => up_id _ _ (by omega))
      · refine w_al0 hC dX3_forget_42 ?_
        refine v_getR (off := 1) (j := 1) hC dX3_forget_43 fd_X3_10 rfl rfl rfl ?_
        refine w_ic hC dX3_forget_46 rfl ?_
        refine v_putI hC dX3_forget_47 fp_X3_207 rfl rfl ?_
        refine v_goto (tgt := 61) hC dX3_forget_50 rfl ?_
        refine w_il2 hC dX3_forget_61 ?_
        refine v_iret hC hR dX3_forget_62 ?_
        first | exact absurd h17 h39 | exact absurd h39 h17 | exact hk0 (by omega) _ (hv0.no0 an.2 amc.2 auc.2) (fun i k hi => up_id _ _ (by omega)) | exact hk1 (by omega) _ (hv0.ma0 an.2 anc.2 auc.2) (fun i k hi => up_id _ _ (by omega))
    · refine w_al0 hC dX3_forget_20 ?_
      refine v_getR (off := 1) (j := 1) hC dX3_forget_21 fd_X3_10 rfl rfl rfl ?_
      refine v_getI hC dX3_forget_24 fd_X3_207 rfl rfl ?_
      rw [x4]
      refine v_goto (tgt := 37) hC dX3_forget_27 rfl ?_
      refine w_is2 hC dX3_forget_37 hN (by first | rfl | assumption) ?_
      refine w_il1 hC dX3_forget_38 ?_
      refine v_if_ne (tgt := 53) hC dX3_forget_39 rfl (fun h39 => ?_) (fun h39 => ?_)
      · refine w_al0 hC dX3_forget_53 ?_
        refine v_getR (off := 1) (j := 1) hC dX3_forget_54 fd_X3_10 rfl rfl rfl ?_
        refine w_ic hC dX3_forget_57 rfl ?_
        refine v_putI hC dX3_forget_58 fp_X3_213 rfl rfl ?_
        refine w_il2 hC dX3_forget_61 ?_
        refine v_iret hC hR dX3_forget_62 ?_
        first | exact absurd h17 h39 | exact absurd h39 h17 | exact hk0 (by omega) _ (hv0.no0 an.2 amc.2 auc.2) (fun i k hi => up_id _ _ (by omega)) | exact hk1 (by omega) _ (hv0.ma0 an.2 anc.2 auc.2) (fun i k hi => up_id _ _ (by omega))
      · refine w_al0 hC dX3_forget_42 ?_
        refine v_getR (off := 1) (j := 1) hC dX3_forget_43 fd_X3_10 rfl rfl rfl ?_
        refine w_ic hC dX3_forget_46 rfl ?_
        refine v_putI hC dX3_forget_47 fp_X3_207 rfl rfl ?_
        refine v_goto (tgt := 61) hC dX3_forget_50 rfl ?_
        refine w_il2 hC dX3_forget_61 ?_
        refine v_iret hC hR dX3_forget_62 ?_
        first | exact absurd h17 h39 | exact absurd h39 h17 | exact hk0 (by omega) _ (hv0.no0 an.2 amc.2 auc.2) (fun i k hi => up_id _ _ (by omega)) | exact hk1 (by omega) _ (hv0.ma0 an.2 anc.2 auc.2) (fun i k hi => up_id _ _ (by omega))
  · refine v_if_ne (tgt := 16) hC dX3_forget_6 rfl (fun h => absurd h (by decide)) (fun _ => ?_)
    refine w_al0 hC dX3_forget_9 ?_
    refine v_bipush hC dX3_forget_10 (by decide) ?_
    refine w_vi1 hC vi_X3_58 rfl dX3_forget_12 rfl hN (c_refBad ?_)
    refine v_iret hC hR dX3_forget_15 ?_
    exact hb0 g1

theorem c_is {d : Nat} {w : Wd} {Q : Option MV → Wd → Prop} {a : Nat → Int} (hv : VX w 1 a) (hA : AOK a) (hQ : Q (some (.inl ((mkM (nAgr a) 6 : Nat) : Int))) w) : Call (d + 3) mX3_is [vR 0] w Q := by
  have hb : vb 1 := Or.inl rfl
  have hv0 := hv
  obtain ⟨⟨x0, x1, x2, x3, x4, x5, x6⟩, xw, xl, xn, xm, xu⟩ := hv
  have am := hA.m
  have an := hA.n
  have af := hA.f
  have anc := hA.nc
  have amc := hA.mc
  have auc := hA.uc
  refine call_in (ls := [some (vR 0)]) (by decide +kernel) rfl (Nat.le_of_ble_eq_true rfl) (fun κ hC hR hN => ?_)
  have hC : ctxB κ RX3 cX3_is (d + 3) := hC
  have hN : mlx κ 1 := hN
  refine w_al0 hC dX3_is_0 ?_
  refine v_getR (off := 1) (j := 1) hC dX3_is_1 fd_X3_10 rfl rfl rfl ?_
  refine w_vi0 hC vi_X3_220 rfl dX3_is_4 rfl hN (c_formsByNotes hb hv0 hA ?_)
  refine v_iret hC hR dX3_is_7 ?_
  exact hQ

theorem c_look {d : Nat} {w : Wd} {Q : Option MV → Wd → Prop} {a : Nat → Int} (hv : VX w 1 a) (hA : AOK a) (hQ : Q (some (.inl (bqR 0 (mkM (nAgr a) 6)))) w) : Call (d + 4) mX3_look [vR 0] w Q := by
  have hb : vb 1 := Or.inl rfl
  have hv0 := hv
  obtain ⟨⟨x0, x1, x2, x3, x4, x5, x6⟩, xw, xl, xn, xm, xu⟩ := hv
  have am := hA.m
  have an := hA.n
  have af := hA.f
  have anc := hA.nc
  have amc := hA.mc
  have auc := hA.uc
  refine call_in (ls := [some (vR 0)]) (by decide +kernel) rfl (Nat.le_of_ble_eq_true rfl) (fun κ hC hR hN => ?_)
  have hC : ctxB κ RX3 cX3_look (d + 4) := hC
  have hN : mlx κ 1 := hN
  refine w_ic hC dX3_look_0 rfl ?_
  refine w_al0 hC dX3_look_1 ?_
  refine v_getR (off := 1) (j := 1) hC dX3_look_2 fd_X3_10 rfl rfl rfl ?_
  refine w_vi0 hC vi_X3_220 rfl dX3_look_5 rfl hN (c_formsByNotes hb hv0 hA ?_)
  refine w_st2 hC st_X3_223 dX3_look_8 rfl hN (c_bestQuestion (mkM_lt _ 6) ?_)
  refine v_iret hC hR dX3_look_11 ?_
  exact hQ

theorem c_kinds {d : Nat} {w : Wd} {Q : Option MV → Wd → Prop} {a : Nat → Int} (hv : VX w 1 a) (hA : AOK a) {n : Int} (hb0 : ¬ (0 ≤ n ∧ n < a 3) → Q (some (.inl (-2))) (cI w 0 10)) (hk : 0 ≤ n ∧ n < a 3 → Q (some (.inl ((mkM (mAgr a n) 6 : Nat) : Int))) w) : Call (d + 3) mX3_kinds [vR 0, vI n] w Q := by
  have hb : vb 1 := Or.inl rfl
  have hv0 := hv
  obtain ⟨⟨x0, x1, x2, x3, x4, x5, x6⟩, xw, xl, xn, xm, xu⟩ := hv
  have am := hA.m
  have an := hA.n
  have af := hA.f
  have anc := hA.nc
  have amc := hA.mc
  have auc := hA.uc
  refine call_in (ls := [some (vR 0), some (vI n)]) (by decide +kernel) rfl (Nat.le_of_ble_eq_true rfl) (fun κ hC hR hN => ?_)
  have hC : ctxB κ RX3 cX3_kinds (d + 3) := hC
  have hN : mlx κ 2 := hN
  refine w_al0 hC dX3_kinds_0 ?_
  refine v_getR (off := 1) (j := 1) hC dX3_kinds_1 fd_X3_10 rfl rfl rfl ?_
  refine w_il1 hC dX3_kinds_4 ?_
  refine w_vi1 hC vi_X3_109 rfl dX3_kinds_5 rfl hN (c_hasWord hb hv0 hA (fun g1 => ?_) (fun g1 => ?_))
  · refine v_if_ne (tgt := 18) hC dX3_kinds_8 rfl (fun _ => ?_) (fun h => absurd h (by decide))
    refine w_al0 hC dX3_kinds_18 ?_
    refine v_getR (off := 1) (j := 1) hC dX3_kinds_19 fd_X3_10 rfl rfl rfl ?_
    refine w_il1 hC dX3_kinds_22 ?_
    refine w_vi1 hC vi_X3_227 rfl dX3_kinds_23 rfl hN (c_kindsByMarks hb hv0 hA ?_)
    refine v_iret hC hR dX3_kinds_26 ?_
    exact hk g1
  · refine v_if_ne (tgt := 18) hC dX3_kinds_8 rfl (fun h => absurd h (by decide)) (fun _ => ?_)
    refine w_al0 hC dX3_kinds_11 ?_
    refine v_bipush hC dX3_kinds_12 (by decide) ?_
    refine w_vi1 hC vi_X3_58 rfl dX3_kinds_14 rfl hN (c_refBad ?_)
    refine v_iret hC hR dX3_kinds_17 ?_
    exact hb0 g1

theorem c_ask {d : Nat} {w : Wd} {Q : Option MV → Wd → Prop} {a : Nat → Int} (hv : VX w 1 a) (hA : AOK a) {n : Int} (hb0 : ¬ (0 ≤ n ∧ n < a 3) → Q (some (.inl (-2))) (cI w 0 10)) (hk : 0 ≤ n ∧ n < a 3 → Q (some (.inl (bqR 1 (mkM (mAgr a n) 6)))) w) : Call (d + 4) mX3_ask [vR 0, vI n] w Q := by
  have hb : vb 1 := Or.inl rfl
  have hv0 := hv
  obtain ⟨⟨x0, x1, x2, x3, x4, x5, x6⟩, xw, xl, xn, xm, xu⟩ := hv
  have am := hA.m
  have an := hA.n
  have af := hA.f
  have anc := hA.nc
  have amc := hA.mc
  have auc := hA.uc
  refine call_in (ls := [some (vR 0), some (vI n)]) (by decide +kernel) rfl (Nat.le_of_ble_eq_true rfl) (fun κ hC hR hN => ?_)
  have hC : ctxB κ RX3 cX3_ask (d + 4) := hC
  have hN : mlx κ 2 := hN
  refine w_al0 hC dX3_ask_0 ?_
  refine v_getR (off := 1) (j := 1) hC dX3_ask_1 fd_X3_10 rfl rfl rfl ?_
  refine w_il1 hC dX3_ask_4 ?_
  refine w_vi1 hC vi_X3_109 rfl dX3_ask_5 rfl hN (c_hasWord hb hv0 hA (fun g1 => ?_) (fun g1 => ?_))
  · refine v_if_ne (tgt := 18) hC dX3_ask_8 rfl (fun _ => ?_) (fun h => absurd h (by decide))
    refine w_ic hC dX3_ask_18 rfl ?_
    refine w_al0 hC dX3_ask_19 ?_
    refine v_getR (off := 1) (j := 1) hC dX3_ask_20 fd_X3_10 rfl rfl rfl ?_
    refine w_il1 hC dX3_ask_23 ?_
    refine w_vi1 hC vi_X3_227 rfl dX3_ask_24 rfl hN (c_kindsByMarks hb hv0 hA ?_)
    refine w_st2 hC st_X3_223 dX3_ask_27 rfl hN (c_bestQuestion (mkM_lt _ 6) ?_)
    refine v_iret hC hR dX3_ask_30 ?_
    exact hk g1
  · refine v_if_ne (tgt := 18) hC dX3_ask_8 rfl (fun h => absurd h (by decide)) (fun _ => ?_)
    refine w_al0 hC dX3_ask_11 ?_
    refine v_bipush hC dX3_ask_12 (by decide) ?_
    refine w_vi1 hC vi_X3_58 rfl dX3_ask_14 rfl hN (c_refBad ?_)
    refine v_iret hC hR dX3_ask_17 ?_
    exact hb0 g1

theorem c_part {d : Nat} {w : Wd} {Q : Option MV → Wd → Prop} {x : Int} (hb0 : ¬ (0 ≤ x ∧ x ≤ 1) → Q (some (.inr (.inl (-2)))) (cI w 0 10)) (hk0 : x = 0 → Q (some (.inr (.inl (w 0 8)))) w) (hk1 : x = 1 → Q (some (.inr (.inl (w 0 9)))) w) : Call (d + 1) mX3_part [vR 0, vI x] w Q := by
  refine call_in (ls := [some (vR 0), some (vI x)]) (by decide +kernel) rfl (Nat.le_of_ble_eq_true rfl) (fun κ hC hR hN => ?_)
  have hC : ctxB κ RX3 cX3_part (d + 1) := hC
  have hN : mlx κ 2 := hN
  refine w_il1 hC dX3_part_0 ?_
  refine w_ic hC dX3_part_1 rfl ?_
  refine w_ic hC dX3_part_2 rfl ?_
  refine w_st3 hC st_X3_50 dX3_part_3 rfl hN (c_within (fun g1 => ?_) (fun g1 => ?_))
  · refine v_if_ne (tgt := 17) hC dX3_part_6 rfl (fun _ => ?_) (fun h => absurd h (by decide))
    refine w_il1 hC dX3_part_17 ?_
    refine v_if_ne (tgt := 28) hC dX3_part_18 rfl (fun h18 => ?_) (fun h18 => ?_)
    · refine w_al0 hC dX3_part_28 ?_
      refine v_getL hC dX3_part_29 fd_X3_43 rfl rfl ?_
      refine v_lret hC hR dX3_part_32 ?_
      first | exact hk0 (by omega) | exact hk1 (by omega)
    · refine w_al0 hC dX3_part_21 ?_
      refine v_getL hC dX3_part_22 fd_X3_39 rfl rfl ?_
      refine v_goto (tgt := 32) hC dX3_part_25 rfl ?_
      refine v_lret hC hR dX3_part_32 ?_
      first | exact hk0 (by omega) | exact hk1 (by omega)
  · refine v_if_ne (tgt := 17) hC dX3_part_6 rfl (fun h => absurd h (by decide)) (fun _ => ?_)
    refine w_al0 hC dX3_part_9 ?_
    refine v_bipush hC dX3_part_10 (by decide) ?_
    refine w_vi1 hC vi_X3_58 rfl dX3_part_12 rfl hN (c_refBad ?_)
    refine v_i2l hC dX3_part_15 ?_
    refine v_lret hC hR dX3_part_16 ?_
    exact hb0 g1

theorem c_image {d : Nat} {w : Wd} {Q : Option MV → Wd → Prop} {a : Nat → Int} (hv : VX w 1 a) (hA : AOK a) {x : Int} (hb0 : ¬ (0 ≤ x ∧ x ≤ 1) → Q (some (.inl (-2))) (cI w 0 10)) (hk0 : x = 0 → ∀ w2, VX w2 17 a → w2 0 4 = 1 → (∀ i k : Nat, (i < 17 ∨ 25 ≤ i) → ¬ (i = 0 ∧ k = 4) → w2 i k = w i k) → Q (some (.inl 1)) w2) (hk1 : x = 1 → ∀ w2, VX w2 25 a → w2 0 5 = 1 → (∀ i k : Nat, (i < 25 ∨ 33 ≤ i) → ¬ (i = 0 ∧ k = 5) → w2 i k = w i k) → Q (some (.inl 1)) w2) : Call (d + 3) mX3_image [vR 0, vI x] w Q := by
  have hb : vb 1 := Or.inl rfl
  have hv0 := hv
  obtain ⟨⟨x0, x1, x2, x3, x4, x5, x6⟩, xw, xl, xn, xm, xu⟩ := hv
  have am := hA.m
  have an := hA.n
  have af := hA.f
  have anc := hA.nc
  have amc := hA.mc
  have auc := hA.uc
  refine call_in (ls := [some (vR 0), some (vI x)]) (by decide +kernel) rfl (Nat.le_of_ble_eq_true rfl) (fun κ hC hR hN => ?_)
  have hC : ctxB κ RX3 cX3_image (d + 3) := hC
  have hN : mlx κ 2 := hN
  refine w_il1 hC dX3_image_0 ?_
  refine w_ic hC dX3_image_1 rfl ?_
  refine w_ic hC dX3_image_2 rfl ?_
  refine w_st3 hC st_X3_50 dX3_image_3 rfl hN (c_within (fun g1 => ?_) (fun g1 => ?_))
  · refine v_if_ne (tgt := 16) hC dX3_image_6 rfl (fun _ => ?_) (fun h => absurd h (by decide))
    refine w_il1 hC dX3_image_16 ?_
    refine v_if_ne (tgt := 39) hC dX3_image_17 rfl (fun h17 => ?_) (fun h17 => ?_)
    · refine w_al0 hC dX3_image_39 ?_
      refine v_getR (off := 25) (j := 25) hC dX3_image_40 fd_X3_22 rfl rfl rfl ?_
      refine w_al0 hC dX3_image_43 ?_
      refine v_getR (off := 1) (j := 1) hC dX3_image_44 fd_X3_10 rfl rfl rfl ?_
      refine w_vi1 hC vi_X3_99 rfl dX3_image_47 rfl hN (c_copyFrom vb25 hb (by decide) hv0 an anc amc auc (fun w2 v2 o2 => ?_))
      refine w_al0 hC dX3_image_50 ?_
      refine w_ic hC dX3_image_51 rfl ?_
      refine v_putZ hC dX3_image_52 fp_X3_264 rfl rfl (by first | decide | omega) ?_
      refine w_ic hC dX3_image_55 rfl ?_
      refine v_iret hC hR dX3_image_56 ?_
      first | exact hk0 (by omega) _ (v2.fr (fun i k h1 h2 => up_id _ _ (by omega))) (up_same _ _ _ _) (fun i k h1 h2 => by rw [up_ne _ _ h2]; exact o2 i k h1) | exact hk1 (by omega) _ (v2.fr (fun i k h1 h2 => up_id _ _ (by omega))) (up_same _ _ _ _) (fun i k h1 h2 => by rw [up_ne _ _ h2]; exact o2 i k h1)
    · refine w_al0 hC dX3_image_20 ?_
      refine v_getR (off := 17) (j := 17) hC dX3_image_21 fd_X3_19 rfl rfl rfl ?_
      refine w_al0 hC dX3_image_24 ?_
      refine v_getR (off := 1) (j := 1) hC dX3_image_25 fd_X3_10 rfl rfl rfl ?_
      refine w_vi1 hC vi_X3_99 rfl dX3_image_28 rfl hN (c_copyFrom vb17 hb (by decide) hv0 an anc amc auc (fun w2 v2 o2 => ?_))
      refine w_al0 hC dX3_image_31 ?_
      refine w_ic hC dX3_image_32 rfl ?_
      refine v_putZ hC dX3_image_33 fp_X3_260 rfl rfl (by first | decide | omega) ?_
      refine v_goto (tgt := 55) hC dX3_image_36 rfl ?_
      refine w_ic hC dX3_image_55 rfl ?_
      refine v_iret hC hR dX3_image_56 ?_
      first | exact hk0 (by omega) _ (v2.fr (fun i k h1 h2 => up_id _ _ (by omega))) (up_same _ _ _ _) (fun i k h1 h2 => by rw [up_ne _ _ h2]; exact o2 i k h1) | exact hk1 (by omega) _ (v2.fr (fun i k h1 h2 => up_id _ _ (by omega))) (up_same _ _ _ _) (fun i k h1 h2 => by rw [up_ne _ _ h2]; exact o2 i k h1)
  · refine v_if_ne (tgt := 16) hC dX3_image_6 rfl (fun h => absurd h (by decide)) (fun _ => ?_)
    refine w_al0 hC dX3_image_9 ?_
    refine v_bipush hC dX3_image_10 (by decide) ?_
    refine w_vi1 hC vi_X3_58 rfl dX3_image_12 rfl hN (c_refBad ?_)
    refine v_iret hC hR dX3_image_15 ?_
    exact hb0 g1

theorem c_from {d : Nat} {w : Wd} {Q : Option MV → Wd → Prop} {a0 a1 : Nat → Int} (h0 : w 0 4 ≠ 0 → VX w 17 a0 ∧ AOK a0) (h1 : w 0 5 ≠ 0 → VX w 25 a1 ∧ AOK a1) {x : Int} (hb0 : ¬ (0 ≤ x ∧ x ≤ 1) → Q (some (.inl (-2))) (cI w 0 10)) (hn0 : x = 0 → w 0 4 = 0 → Q (some (.inl (-3))) (cI w 0 11)) (hn1 : x = 1 → w 0 5 = 0 → Q (some (.inl (-3))) (cI w 0 11)) (hk0 : x = 0 → w 0 4 ≠ 0 → ∀ w2, VX w2 1 a0 → smB w w2 1 → Q (some (.inl 1)) w2) (hk1 : x = 1 → w 0 5 ≠ 0 → ∀ w2, VX w2 1 a1 → smB w w2 1 → Q (some (.inl 1)) w2) : Call (d + 3) mX3_from [vR 0, vI x] w Q := by
  refine call_in (ls := [some (vR 0), some (vI x), none]) (by decide +kernel) rfl (Nat.le_of_ble_eq_true rfl) (fun κ hC hR hN => ?_)
  have hC : ctxB κ RX3 cX3_from (d + 3) := hC
  have hN : mlx κ 3 := hN
  have tl0 : (x = 0) → (w 0 4 ≠ 0) → VV κ 51 [some (vR 0), some (vI x), some (vI (w 0 4))] [vR 1] w := by
    intro  q hk
    obtain ⟨hvx, hax⟩ := h0 hk
    have hvb := vb17
    refine w_al0 hC dX3_from_51 ?_
    refine v_getR (off := 17) (j := 17) hC dX3_from_52 fd_X3_19 rfl rfl rfl ?_
    refine v_goto (tgt := 62) hC dX3_from_55 rfl ?_
    refine w_vi1 hC vi_X3_99 rfl dX3_from_62 rfl hN (c_copyFrom vb1 hvb (by decide) hvx hax.n hax.nc hax.mc hax.uc (fun w2 v2 o2 => ?_))
    refine w_ic hC dX3_from_65 rfl ?_
    refine v_iret hC hR dX3_from_66 ?_
    first | exact hk0 q hk w2 v2 o2 | exact hk1 q hk w2 v2 o2
  have tl1 : (x = 1) → (w 0 5 ≠ 0) → VV κ 58 [some (vR 0), some (vI x), some (vI (w 0 5))] [vR 1] w := by
    intro  q hk
    obtain ⟨hvx, hax⟩ := h1 hk
    have hvb := vb25
    refine w_al0 hC dX3_from_58 ?_
    refine v_getR (off := 25) (j := 25) hC dX3_from_59 fd_X3_22 rfl rfl rfl ?_
    refine w_vi1 hC vi_X3_99 rfl dX3_from_62 rfl hN (c_copyFrom vb1 hvb (by decide) hvx hax.n hax.nc hax.mc hax.uc (fun w2 v2 o2 => ?_))
    refine w_ic hC dX3_from_65 rfl ?_
    refine v_iret hC hR dX3_from_66 ?_
    first | exact hk0 q hk w2 v2 o2 | exact hk1 q hk w2 v2 o2
  refine w_il1 hC dX3_from_0 ?_
  refine w_ic hC dX3_from_1 rfl ?_
  refine w_ic hC dX3_from_2 rfl ?_
  refine w_st3 hC st_X3_50 dX3_from_3 rfl hN (c_within (fun g1 => ?_) (fun g1 => ?_))
  · refine v_if_ne (tgt := 16) hC dX3_from_6 rfl (fun _ => ?_) (fun h => absurd h (by decide))
    refine w_il1 hC dX3_from_16 ?_
    refine v_if_ne (tgt := 27) hC dX3_from_17 rfl (fun h17 => ?_) (fun h17 => ?_)
    · refine w_al0 hC dX3_from_27 ?_
      refine v_getZ hC dX3_from_28 fd_X3_264 rfl rfl ?_
      refine w_is2 hC dX3_from_31 hN (by first | rfl | assumption) ?_
      refine w_il2 hC dX3_from_32 ?_
      refine v_if_ne (tgt := 43) hC dX3_from_33 rfl (fun h33 => ?_) (fun h33 => ?_)
      · refine w_al0 hC dX3_from_43 ?_
        refine v_getR (off := 1) (j := 1) hC dX3_from_44 fd_X3_10 rfl rfl rfl ?_
        refine w_il1 hC dX3_from_47 ?_
        refine v_if_ne (tgt := 58) hC dX3_from_48 rfl (fun h48 => ?_) (fun h48 => ?_)
        · first | (exfalso; omega) | exact tl1 (by omega) h33
        · first | (exfalso; omega) | exact tl0 (by omega) h33
      · refine w_al0 hC dX3_from_36 ?_
        refine v_bipush hC dX3_from_37 (by decide) ?_
        refine w_vi1 hC vi_X3_58 rfl dX3_from_39 rfl hN (c_refNo ?_)
        refine v_iret hC hR dX3_from_42 ?_
        first | exact hn0 (by omega) h33 | exact hn1 (by omega) h33
    · refine w_al0 hC dX3_from_20 ?_
      refine v_getZ hC dX3_from_21 fd_X3_260 rfl rfl ?_
      refine v_goto (tgt := 31) hC dX3_from_24 rfl ?_
      refine w_is2 hC dX3_from_31 hN (by first | rfl | assumption) ?_
      refine w_il2 hC dX3_from_32 ?_
      refine v_if_ne (tgt := 43) hC dX3_from_33 rfl (fun h33 => ?_) (fun h33 => ?_)
      · refine w_al0 hC dX3_from_43 ?_
        refine v_getR (off := 1) (j := 1) hC dX3_from_44 fd_X3_10 rfl rfl rfl ?_
        refine w_il1 hC dX3_from_47 ?_
        refine v_if_ne (tgt := 58) hC dX3_from_48 rfl (fun h48 => ?_) (fun h48 => ?_)
        · first | (exfalso; omega) | exact tl1 (by omega) h33
        · first | (exfalso; omega) | exact tl0 (by omega) h33
      · refine w_al0 hC dX3_from_36 ?_
        refine v_bipush hC dX3_from_37 (by decide) ?_
        refine w_vi1 hC vi_X3_58 rfl dX3_from_39 rfl hN (c_refNo ?_)
        refine v_iret hC hR dX3_from_42 ?_
        first | exact hn0 (by omega) h33 | exact hn1 (by omega) h33
  · refine v_if_ne (tgt := 16) hC dX3_from_6 rfl (fun h => absurd h (by decide)) (fun _ => ?_)
    refine w_al0 hC dX3_from_9 ?_
    refine v_bipush hC dX3_from_10 (by decide) ?_
    refine w_vi1 hC vi_X3_58 rfl dX3_from_12 rfl hN (c_refBad ?_)
    refine v_iret hC hR dX3_from_15 ?_
    exact hb0 g1

theorem c_status {d : Nat} {w : Wd} {Q : Option MV → Wd → Prop} {x : Int} (hb0 : ¬ (0 ≤ x ∧ x ≤ 2) → Q (some (.inl (-1))) (cI w 0 10)) (hk : 0 ≤ x ∧ x ≤ 2 → Q (some (.inl (w 0 (10 + x.toNat)))) w) : Call (d + 1) mX3_status [vR 0, vI x] w Q := by
  refine call_in (ls := [some (vR 0), some (vI x)]) (by decide +kernel) rfl (Nat.le_of_ble_eq_true rfl) (fun κ hC hR hN => ?_)
  have hC : ctxB κ RX3 cX3_status (d + 1) := hC
  have hN : mlx κ 2 := hN
  refine w_il1 hC dX3_status_0 ?_
  by_cases hs0 : x = 0
  · refine v_tsAt hC 0 (tgt := 28) hs0 dX3_status_1 rfl rfl rfl ?_
    refine w_al0 hC dX3_status_28 ?_
    refine v_getI hC dX3_status_29 fd_X3_267 rfl rfl ?_
    refine v_iret hC hR dX3_status_32 ?_
    exact qz (by congr 1; omega) (hk (by omega))
  by_cases hs1 : x = 1
  · refine v_tsAt hC 1 (tgt := 33) hs1 dX3_status_1 rfl rfl rfl ?_
    refine w_al0 hC dX3_status_33 ?_
    refine v_getI hC dX3_status_34 fd_X3_270 rfl rfl ?_
    refine v_iret hC hR dX3_status_37 ?_
    exact qz (by congr 1; omega) (hk (by omega))
  by_cases hs2 : x = 2
  · refine v_tsAt hC 2 (tgt := 38) hs2 dX3_status_1 rfl rfl rfl ?_
    refine w_al0 hC dX3_status_38 ?_
    refine v_getI hC dX3_status_39 fd_X3_273 rfl rfl ?_
    refine v_iret hC hR dX3_status_42 ?_
    exact qz (by congr 1; omega) (hk (by omega))
  refine v_tsOut (tgt := 43) hC dX3_status_1 (by omega) rfl ?_
  refine w_al0 hC dX3_status_43 ?_
  refine v_bipush hC dX3_status_44 (by decide) ?_
  refine w_vi1 hC vi_X3_58 rfl dX3_status_46 rfl hN (c_refBad ?_)
  refine v_pop hC dX3_status_49 rfl ?_
  refine w_ic hC dX3_status_50 rfl ?_
  refine v_iret hC hR dX3_status_51 ?_
  exact hb0 (by omega)

def hmV (len : Int) (a : Nat → Int) (x : Int) : Int := if x = 0 then a 3 else if x = 1 then a 1 else if x = 2 then a 0 else if x = 3 then a 2 else if x = 4 then fiL a else if x = 5 then rtL a else if x = 6 then ctL a else if x = 7 then a 34 else if x = 8 then a 53 else if x = 9 then a 78 else len

theorem c_howMany {d : Nat} {w : Wd} {Q : Option MV → Wd → Prop} {a : Nat → Int} (hv : VX w 1 a) (hA : AOK a) {x : Int} (hx : 0 ≤ x ∧ x ≤ 10) (hQ : Q (some (.inl (hmV (w 33 1) a x))) w) : Call (d + 5) mX3_howMany [vR 0, vI x] w Q := by
  have hb : vb 1 := Or.inl rfl
  have hv0 := hv
  obtain ⟨⟨x0, x1, x2, x3, x4, x5, x6⟩, xw, xl, xn, xm, xu⟩ := hv
  have am := hA.m
  have an := hA.n
  have af := hA.f
  have anc := hA.nc
  have amc := hA.mc
  have auc := hA.uc
  refine call_in (ls := [some (vR 0), some (vI x)]) (by decide +kernel) rfl (Nat.le_of_ble_eq_true rfl) (fun κ hC hR hN => ?_)
  have hC : ctxB κ RX3 cX3_howMany (d + 5) := hC
  have hN : mlx κ 2 := hN
  refine w_il1 hC dX3_howMany_0 ?_
  by_cases hs0 : x = 0
  · refine v_tsAt hC 0 (tgt := 56) hs0 dX3_howMany_1 rfl rfl rfl ?_
    refine w_al0 hC dX3_howMany_56 ?_
    refine v_getR (off := 1) (j := 1) hC dX3_howMany_57 fd_X3_10 rfl rfl rfl ?_
    refine v_getI hC dX3_howMany_60 fd_X3_62 rfl rfl ?_
    rw [x3]
    refine v_iret hC hR dX3_howMany_63 ?_
    exact qz (by unfold hmV; rw [if_pos (by omega)]) hQ
  by_cases hs1 : x = 1
  · refine v_tsAt hC 1 (tgt := 64) hs1 dX3_howMany_1 rfl rfl rfl ?_
    refine w_al0 hC dX3_howMany_64 ?_
    refine v_getR (off := 1) (j := 1) hC dX3_howMany_65 fd_X3_10 rfl rfl rfl ?_
    refine v_getI hC dX3_howMany_68 fd_X3_186 rfl rfl ?_
    rw [x1]
    refine v_iret hC hR dX3_howMany_71 ?_
    exact qz (by unfold hmV; rw [if_neg (by omega), if_pos (by omega)]) hQ
  by_cases hs2 : x = 2
  · refine v_tsAt hC 2 (tgt := 72) hs2 dX3_howMany_1 rfl rfl rfl ?_
    refine w_al0 hC dX3_howMany_72 ?_
    refine v_getR (off := 1) (j := 1) hC dX3_howMany_73 fd_X3_10 rfl rfl rfl ?_
    refine v_getI hC dX3_howMany_76 fd_X3_70 rfl rfl ?_
    rw [x0]
    refine v_iret hC hR dX3_howMany_79 ?_
    exact qz (by unfold hmV; rw [if_neg (by omega), if_neg (by omega), if_pos (by omega)]) hQ
  by_cases hs3 : x = 3
  · refine v_tsAt hC 3 (tgt := 80) hs3 dX3_howMany_1 rfl rfl rfl ?_
    refine w_al0 hC dX3_howMany_80 ?_
    refine v_getR (off := 1) (j := 1) hC dX3_howMany_81 fd_X3_10 rfl rfl rfl ?_
    refine v_getI hC dX3_howMany_84 fd_X3_293 rfl rfl ?_
    rw [x2]
    refine v_iret hC hR dX3_howMany_87 ?_
    exact qz (by unfold hmV; rw [if_neg (by omega), if_neg (by omega), if_neg (by omega), if_pos (by omega)]) hQ
  by_cases hs4 : x = 4
  · refine v_tsAt hC 4 (tgt := 88) hs4 dX3_howMany_1 rfl rfl rfl ?_
    refine w_al0 hC dX3_howMany_88 ?_
    refine v_getR (off := 1) (j := 1) hC dX3_howMany_89 fd_X3_10 rfl rfl rfl ?_
    refine w_vi0 hC vi_X3_296 rfl dX3_howMany_92 rfl hN (c_filledLines hb hv0 hA ?_)
    refine v_iret hC hR dX3_howMany_95 ?_
    exact qz (by unfold hmV; rw [if_neg (by omega), if_neg (by omega), if_neg (by omega), if_neg (by omega), if_pos (by omega)]) hQ
  by_cases hs5 : x = 5
  · refine v_tsAt hC 5 (tgt := 96) hs5 dX3_howMany_1 rfl rfl rfl ?_
    refine w_al0 hC dX3_howMany_96 ?_
    refine v_getR (off := 1) (j := 1) hC dX3_howMany_97 fd_X3_10 rfl rfl rfl ?_
    refine w_vi0 hC vi_X3_132 rfl dX3_howMany_100 rfl hN (c_rightLines hb hv0 hA ?_)
    refine v_iret hC hR dX3_howMany_103 ?_
    exact qz (by unfold hmV; rw [if_neg (by omega), if_neg (by omega), if_neg (by omega), if_neg (by omega), if_neg (by omega), if_pos (by omega)]) hQ
  by_cases hs6 : x = 6
  · refine v_tsAt hC 6 (tgt := 104) hs6 dX3_howMany_1 rfl rfl rfl ?_
    refine w_al0 hC dX3_howMany_104 ?_
    refine v_getR (off := 1) (j := 1) hC dX3_howMany_105 fd_X3_10 rfl rfl rfl ?_
    refine w_vi0 hC vi_X3_299 rfl dX3_howMany_108 rfl hN (c_costOfLines hb hv0 hA ?_)
    refine v_iret hC hR dX3_howMany_111 ?_
    exact qz (by unfold hmV; rw [if_neg (by omega), if_neg (by omega), if_neg (by omega), if_neg (by omega), if_neg (by omega), if_neg (by omega), if_pos (by omega)]) hQ
  by_cases hs7 : x = 7
  · refine v_tsAt hC 7 (tgt := 112) hs7 dX3_howMany_1 rfl rfl rfl ?_
    refine w_al0 hC dX3_howMany_112 ?_
    refine v_getR (off := 1) (j := 1) hC dX3_howMany_113 fd_X3_10 rfl rfl rfl ?_
    refine v_getI hC dX3_howMany_116 fd_X3_207 rfl rfl ?_
    rw [x4]
    refine v_iret hC hR dX3_howMany_119 ?_
    exact qz (by unfold hmV; rw [if_neg (by omega), if_neg (by omega), if_neg (by omega), if_neg (by omega), if_neg (by omega), if_neg (by omega), if_neg (by omega), if_pos (by omega)]) hQ
  by_cases hs8 : x = 8
  · refine v_tsAt hC 8 (tgt := 120) hs8 dX3_howMany_1 rfl rfl rfl ?_
    refine w_al0 hC dX3_howMany_120 ?_
    refine v_getR (off := 1) (j := 1) hC dX3_howMany_121 fd_X3_10 rfl rfl rfl ?_
    refine v_getI hC dX3_howMany_124 fd_X3_213 rfl rfl ?_
    rw [x5]
    refine v_iret hC hR dX3_howMany_127 ?_
    exact qz (by unfold hmV; rw [if_neg (by omega), if_neg (by omega), if_neg (by omega), if_neg (by omega), if_neg (by omega), if_neg (by omega), if_neg (by omega), if_neg (by omega), if_pos (by omega)]) hQ
  by_cases hs9 : x = 9
  · refine v_tsAt hC 9 (tgt := 128) hs9 dX3_howMany_1 rfl rfl rfl ?_
    refine w_al0 hC dX3_howMany_128 ?_
    refine v_getR (off := 1) (j := 1) hC dX3_howMany_129 fd_X3_10 rfl rfl rfl ?_
    refine v_getI hC dX3_howMany_132 fd_X3_73 rfl rfl ?_
    rw [x6]
    refine v_iret hC hR dX3_howMany_135 ?_
    exact qz (by unfold hmV; rw [if_neg (by omega), if_neg (by omega), if_neg (by omega), if_neg (by omega), if_neg (by omega), if_neg (by omega), if_neg (by omega), if_neg (by omega), if_neg (by omega), if_pos (by omega)]) hQ
  refine v_tsOut (tgt := 136) hC dX3_howMany_1 (by omega) rfl ?_
  refine w_al0 hC dX3_howMany_136 ?_
  refine v_getR (off := 33) (j := 33) hC dX3_howMany_137 fd_X3_28 rfl rfl rfl ?_
  refine v_getI hC dX3_howMany_140 fd_X3_85 rfl rfl ?_
  refine v_iret hC hR dX3_howMany_143 ?_
  exact qz (by unfold hmV; rw [if_neg (by omega), if_neg (by omega), if_neg (by omega), if_neg (by omega), if_neg (by omega), if_neg (by omega), if_neg (by omega), if_neg (by omega), if_neg (by omega), if_neg (by omega)]) hQ

theorem c_count {d : Nat} {w : Wd} {Q : Option MV → Wd → Prop} {a : Nat → Int} (hv : VX w 1 a) (hA : AOK a) {x : Int} (hb0 : ¬ (0 ≤ x ∧ x ≤ 10) → Q (some (.inl (-2))) (cI w 0 10)) (hk : 0 ≤ x ∧ x ≤ 10 → Q (some (.inl (hmV (w 33 1) a x))) w) : Call (d + 6) mX3_count [vR 0, vI x] w Q := by
  have hb : vb 1 := Or.inl rfl
  have hv0 := hv
  obtain ⟨⟨x0, x1, x2, x3, x4, x5, x6⟩, xw, xl, xn, xm, xu⟩ := hv
  have am := hA.m
  have an := hA.n
  have af := hA.f
  have anc := hA.nc
  have amc := hA.mc
  have auc := hA.uc
  refine call_in (ls := [some (vR 0), some (vI x)]) (by decide +kernel) rfl (Nat.le_of_ble_eq_true rfl) (fun κ hC hR hN => ?_)
  have hC : ctxB κ RX3 cX3_count (d + 6) := hC
  have hN : mlx κ 2 := hN
  refine w_il1 hC dX3_count_0 ?_
  refine w_ic hC dX3_count_1 rfl ?_
  refine v_bipush hC dX3_count_2 (by decide) ?_
  refine w_st3 hC st_X3_50 dX3_count_4 rfl hN (c_within (fun g1 => ?_) (fun g1 => ?_))
  · refine v_if_ne (tgt := 17) hC dX3_count_7 rfl (fun _ => ?_) (fun h => absurd h (by decide))
    refine w_al0 hC dX3_count_17 ?_
    refine w_il1 hC dX3_count_18 ?_
    refine w_vi1 hC vi_X3_276 rfl dX3_count_19 rfl hN (c_howMany hv0 hA g1 ?_)
    refine v_iret hC hR dX3_count_22 ?_
    exact hk g1
  · refine v_if_ne (tgt := 17) hC dX3_count_7 rfl (fun h => absurd h (by decide)) (fun _ => ?_)
    refine w_al0 hC dX3_count_10 ?_
    refine v_bipush hC dX3_count_11 (by decide) ?_
    refine w_vi1 hC vi_X3_58 rfl dX3_count_13 rfl hN (c_refBad ?_)
    refine v_iret hC hR dX3_count_16 ?_
    exact hb0 g1

def hS (h z : Int) : Int := wrL (wrL (31 * h) + z)
def hF (f : Nat → Int) (h : Int) : Nat → Int
  | 0 => h
  | n + 1 => hS (hF f h n) (f n)
def hW (a : Nat → Int) (h : Int) : Nat → Int
  | 0 => h
  | n + 1 => hS (hS (hS (hW a h n) (a (4 + n))) (a (12 + n))) (a (20 + n))
def dgV (len up dn : Int) (a : Nat → Int) : Int := hS (hS (hF (fun k => a (54 + k)) (hF (fun k => a (35 + k)) (hF (fun k => a (28 + k)) (hW a (hF (fun k => hmV len a k) 1861 11) (a 3).toNat) (a 1).toNat) (3 * a 34).toNat) (4 * a 53).toNat) up) dn
theorem hF_congr {f g : Nat → Int} {h : Int} (n : Nat) (e : ∀ k, k < n → f k = g k) : hF f h n = hF g h n := by
  induction n with
  | zero => rfl
  | succ n ih =>
    show hS (hF f h n) (f n) = hS (hF g h n) (g n)
    rw [ih (fun k hk => e k (by omega)), e n (by omega)]
theorem hF_s {f : Nat → Int} {h z v : Int} {n : Nat} (e : z = hF f h n) (hv : f n = v) : hS z v = hF f h (n + 1) := by rw [e, ← hv]; rfl

theorem c_digestRow {d : Nat} {w : Wd} {Q : Option MV → Wd → Prop} {r n : Nat} {h : Int} (hk : kdT r = 5) (hn : n ≤ szT r) (hQ : Q (some (.inr (.inl (hF (w r) h n)))) w) : Call (d + 1) mX3_digestRow [vL h, vR r, vI (n : Int)] w Q := by
  have hz9 : ∀ i, i < 50 → szT i ≤ 1792 := by decide +kernel
  refine call_in (ls := [some (vL h), none, some (vR r), some (vI (n : Int)), none, none, none]) (by decide +kernel) rfl (Nat.le_of_ble_eq_true rfl) (fun κ hC hR hN => ?_)
  have hC : ctxB κ RX3 cX3_digestRow (d + 1) := hC
  have hN : mlx κ 7 := hN
  refine w_ll0 hC dX3_digestRow_0 ?_
  refine w_ls4 hC dX3_digestRow_1 hN (by first | rfl | assumption) ?_
  refine w_ic hC dX3_digestRow_3 rfl ?_
  refine w_is6 hC dX3_digestRow_4 hN (by first | rfl | assumption) ?_
  refine w_dr1 ?_
  refine w_dr5 ?_
  have lp6 : ∀ (K : Nat) (z : Int) (k : Nat), (n - k) < K → (k ≤ n) → (z = hF (w r) h k) → VV κ 6 [some (vL h), none, some (vR r), some (vI (n : Int)), some (vL z), none, some (vI (k : Int))] [] w := by
    intro K
    induction K with
    | zero => intros; omega
    | succ K ih6 =>
      intro z k hm6 hk2 hz
      have hzr : szT r ≤ 1792 := hz9 r (kdT_lt (by omega))
      refine w_il6 hC dX3_digestRow_6 ?_
      refine w_il3 hC dX3_digestRow_8 ?_
      refine v_ic_ge (tgt := 34) hC dX3_digestRow_9 rfl (fun h9 => ?_) (fun h9 => ?_)
      · refine w_ll4 hC dX3_digestRow_34 ?_
        refine v_lret hC hR dX3_digestRow_36 ?_
        rw [show k = n by omega] at hz
        rw [hz]
        exact hQ
      · refine v_ldc2 (n := 31) hC dX3_digestRow_12 kl_X3_281 rfl (ckL_ok rfl) ?_
        refine w_ll4 hC dX3_digestRow_15 ?_
        refine v_lmul hC dX3_digestRow_17 ?_
        refine w_al2 hC dX3_digestRow_18 ?_
        refine w_il6 hC dX3_digestRow_19 ?_
        refine w_st2 hC st_X3_302 dX3_digestRow_21 rfl hN (c_at hk ?_)
        rw [atV_n w (by omega)]
        refine v_i2l hC dX3_digestRow_24 ?_
        refine v_ladd hC dX3_digestRow_25 ?_
        refine w_ls4 hC dX3_digestRow_26 hN (by first | rfl | assumption) ?_
        refine w_inc6 hC dX3_digestRow_28 hN (by first | rfl | assumption) (ri_mk (by omega) (by omega)) ?_
        refine v_goto (tgt := 6) hC dX3_digestRow_31 rfl ?_
        refine w_dr1 ?_
        refine w_dr5 ?_
        exact ih6 _ (k + 1) (by omega) (by omega) (hF_s hz rfl)
  exact lp6 (n + 1) h 0 (by omega) (by omega) rfl

theorem c_digest {d : Nat} {w : Wd} {Q : Option MV → Wd → Prop} {a : Nat → Int} (hv : VX w 1 a) (hA : AOK a) (hQ : Q (some (.inr (.inl (dgV (w 33 1) (w 0 8) (w 0 9) a)))) w) : Call (d + 6) mX3_digest [vR 0] w Q := by
  have hb : vb 1 := Or.inl rfl
  have hv0 := hv
  obtain ⟨⟨x0, x1, x2, x3, x4, x5, x6⟩, xw, xl, xn, xm, xu⟩ := hv
  have am := hA.m
  have an := hA.n
  have af := hA.f
  have anc := hA.nc
  have amc := hA.mc
  have auc := hA.uc
  obtain ⟨n3, h3⟩ := Int.eq_ofNat_of_zero_le an.1
  obtain ⟨nm, hm⟩ := Int.eq_ofNat_of_zero_le (show 0 ≤ a 1 by omega)
  obtain ⟨nn, hn⟩ := Int.eq_ofNat_of_zero_le anc.1
  obtain ⟨nk, hk⟩ := Int.eq_ofNat_of_zero_le amc.1
  refine call_in (ls := [some (vR 0), none, none, none]) (by decide +kernel) rfl (Nat.le_of_ble_eq_true rfl) (fun κ hC hR hN => ?_)
  have hC : ctxB κ RX3 cX3_digest (d + 6) := hC
  have hN : mlx κ 4 := hN
  refine v_ldc2 (n := 1861) hC dX3_digest_0 kl_X3_279 rfl (ckL_ok rfl) ?_
  refine w_ls1 hC dX3_digest_3 hN (by first | rfl | assumption) ?_
  refine w_ic hC dX3_digest_4 rfl ?_
  refine w_is3 hC dX3_digest_5 hN (by first | rfl | assumption) ?_
  refine w_dr2 ?_
  have lp6 : ∀ (K : Nat) (z : Int) (k : Nat), (11 - k) < K → (k ≤ 11) → (z = hF (fun k => hmV (w 33 1) a k) 1861 k) → VV κ 6 [some (vR 0), some (vL z), none, some (vI (k : Int))] [] w := by
    intro K
    induction K with
    | zero => intros; omega
    | succ K ih6 =>
      intro z k hm6 hk2 hz
      refine w_il3 hC dX3_digest_6 ?_
      refine v_bipush hC dX3_digest_7 (by decide) ?_
      refine v_ic_gt (tgt := 31) hC dX3_digest_9 rfl (fun h9 => ?_) (fun h9 => ?_)
      · refine w_ic hC dX3_digest_31 rfl ?_
        refine w_is3 hC dX3_digest_32 hN (by first | rfl | assumption) ?_
        refine w_dr2 ?_
        have lp33 : ∀ (K2 : Nat) (z2 : Int) (q : Nat), (n3 - q) < K2 → (q ≤ n3) → (z2 = hW a z q) → VV κ 33 [some (vR 0), some (vL z2), none, some (vI (q : Int))] [] w := by
          intro K2
          induction K2 with
          | zero => intros; omega
          | succ K2 ih33 =>
            intro z2 q hm33 hk3 hz2
            refine w_il3 hC dX3_digest_33 ?_
            refine w_al0 hC dX3_digest_34 ?_
            refine v_getR (off := 1) (j := 1) hC dX3_digest_35 fd_X3_10 rfl rfl rfl ?_
            refine v_getI hC dX3_digest_38 fd_X3_62 rfl rfl ?_
            rw [x3, h3]
            refine v_ic_ge (tgt := 98) hC dX3_digest_41 rfl (fun h41 => ?_) (fun h41 => ?_)
            · refine w_ll1 hC dX3_digest_98 ?_
              refine w_al0 hC dX3_digest_99 ?_
              refine v_getR (off := 1) (j := 1) hC dX3_digest_100 fd_X3_10 rfl rfl rfl ?_
              refine v_getR (off := 4) (j := 5) hC dX3_digest_103 fd_X3_121 rfl rfl rfl ?_
              refine w_al0 hC dX3_digest_106 ?_
              refine v_getR (off := 1) (j := 1) hC dX3_digest_107 fd_X3_10 rfl rfl rfl ?_
              refine v_getI hC dX3_digest_110 fd_X3_186 rfl rfl ?_
              rw [x1, hm]
              refine w_st3 hC st_X3_283 dX3_digest_113 rfl hN (c_digestRow rfl (show nm ≤ 6 by omega) ?_)
              rw [hF_congr nm (g := fun k => a (28 + k)) (fun k h => xl k (by omega))]
              refine w_ls1 hC dX3_digest_116 hN (by first | rfl | assumption) ?_
              refine w_ll1 hC dX3_digest_117 ?_
              refine w_al0 hC dX3_digest_118 ?_
              refine v_getR (off := 1) (j := 1) hC dX3_digest_119 fd_X3_10 rfl rfl rfl ?_
              refine v_getR (off := 5) (j := 6) hC dX3_digest_122 fd_X3_287 rfl rfl rfl ?_
              refine w_al0 hC dX3_digest_125 ?_
              refine v_getR (off := 1) (j := 1) hC dX3_digest_126 fd_X3_10 rfl rfl rfl ?_
              refine v_getI hC dX3_digest_129 fd_X3_207 rfl rfl ?_
              rw [x4, hn]
              refine w_ic hC dX3_digest_132 rfl ?_
              refine w_imul hC dX3_digest_133 (ri_mk (by omega) (by omega)) ?_
              rw [show (nn : Int) * 3 = ((3 * nn : Nat) : Int) by omega]
              refine w_st3 hC st_X3_283 dX3_digest_134 rfl hN (c_digestRow rfl (show 3 * nn ≤ 18 by omega) ?_)
              rw [hF_congr (3 * nn) (g := fun k => a (35 + k)) (fun k h => xn k (by omega))]
              refine w_ls1 hC dX3_digest_137 hN (by first | rfl | assumption) ?_
              refine w_ll1 hC dX3_digest_138 ?_
              refine w_al0 hC dX3_digest_139 ?_
              refine v_getR (off := 1) (j := 1) hC dX3_digest_140 fd_X3_10 rfl rfl rfl ?_
              refine v_getR (off := 6) (j := 7) hC dX3_digest_143 fd_X3_290 rfl rfl rfl ?_
              refine w_al0 hC dX3_digest_146 ?_
              refine v_getR (off := 1) (j := 1) hC dX3_digest_147 fd_X3_10 rfl rfl rfl ?_
              refine v_getI hC dX3_digest_150 fd_X3_213 rfl rfl ?_
              rw [x5, hk]
              refine w_ic hC dX3_digest_153 rfl ?_
              refine w_imul hC dX3_digest_154 (ri_mk (by omega) (by omega)) ?_
              rw [show (nk : Int) * 4 = ((4 * nk : Nat) : Int) by omega]
              refine w_st3 hC st_X3_283 dX3_digest_155 rfl hN (c_digestRow rfl (show 4 * nk ≤ 24 by omega) ?_)
              rw [hF_congr (4 * nk) (g := fun k => a (54 + k)) (fun k h => xm k (by omega))]
              refine w_ls1 hC dX3_digest_158 hN (by first | rfl | assumption) ?_
              refine v_ldc2 (n := 31) hC dX3_digest_159 kl_X3_281 rfl (ckL_ok rfl) ?_
              refine w_ll1 hC dX3_digest_162 ?_
              refine v_lmul hC dX3_digest_163 ?_
              refine w_al0 hC dX3_digest_164 ?_
              refine v_getL hC dX3_digest_165 fd_X3_39 rfl rfl ?_
              refine v_ladd hC dX3_digest_168 ?_
              refine w_ls1 hC dX3_digest_169 hN (by first | rfl | assumption) ?_
              refine v_ldc2 (n := 31) hC dX3_digest_170 kl_X3_281 rfl (ckL_ok rfl) ?_
              refine w_ll1 hC dX3_digest_173 ?_
              refine v_lmul hC dX3_digest_174 ?_
              refine w_al0 hC dX3_digest_175 ?_
              refine v_getL hC dX3_digest_176 fd_X3_43 rfl rfl ?_
              refine v_ladd hC dX3_digest_179 ?_
              refine v_lret hC hR dX3_digest_180 ?_
              rw [show q = n3 by omega] at hz2
              rw [show k = 11 by omega] at hz
              unfold dgV at hQ
              rw [h3, hm, hn, hk, show ((n3 : Nat) : Int).toNat = n3 from rfl, show ((nm : Nat) : Int).toNat = nm from rfl, show (3 * (nn : Int)).toNat = 3 * nn by omega, show (4 * (nk : Int)).toNat = 4 * nk by omega, ← hz, ← hz2] at hQ
              exact hQ
            · refine v_ldc2 (n := 31) hC dX3_digest_44 kl_X3_281 rfl (ckL_ok rfl) ?_
              refine w_ll1 hC dX3_digest_47 ?_
              refine v_lmul hC dX3_digest_48 ?_
              refine w_al0 hC dX3_digest_49 ?_
              refine v_getR (off := 1) (j := 1) hC dX3_digest_50 fd_X3_10 rfl rfl rfl ?_
              refine w_il3 hC dX3_digest_53 ?_
              refine w_vi1 hC vi_X3_139 rfl dX3_digest_54 rfl hN (c_kindOf hb hv0 hA ⟨by omega, by omega⟩ ?_)
              rw [Int.toNat_natCast]
              refine v_i2l hC dX3_digest_57 ?_
              refine v_ladd hC dX3_digest_58 ?_
              refine w_ls1 hC dX3_digest_59 hN (by first | rfl | assumption) ?_
              refine v_ldc2 (n := 31) hC dX3_digest_60 kl_X3_281 rfl (ckL_ok rfl) ?_
              refine w_ll1 hC dX3_digest_63 ?_
              refine v_lmul hC dX3_digest_64 ?_
              refine w_al0 hC dX3_digest_65 ?_
              refine v_getR (off := 1) (j := 1) hC dX3_digest_66 fd_X3_10 rfl rfl rfl ?_
              refine w_il3 hC dX3_digest_69 ?_
              refine w_vi1 hC vi_X3_142 rfl dX3_digest_70 rfl hN (c_lengthOf hb hv0 hA ⟨by omega, by omega⟩ ?_)
              rw [Int.toNat_natCast]
              refine v_i2l hC dX3_digest_73 ?_
              refine v_ladd hC dX3_digest_74 ?_
              refine w_ls1 hC dX3_digest_75 hN (by first | rfl | assumption) ?_
              refine v_ldc2 (n := 31) hC dX3_digest_76 kl_X3_281 rfl (ckL_ok rfl) ?_
              refine w_ll1 hC dX3_digest_79 ?_
              refine v_lmul hC dX3_digest_80 ?_
              refine w_al0 hC dX3_digest_81 ?_
              refine v_getR (off := 1) (j := 1) hC dX3_digest_82 fd_X3_10 rfl rfl rfl ?_
              refine w_il3 hC dX3_digest_85 ?_
              refine w_vi1 hC vi_X3_145 rfl dX3_digest_86 rfl hN (c_codeOf hb hv0 hA ⟨by omega, by omega⟩ ?_)
              rw [Int.toNat_natCast]
              refine v_i2l hC dX3_digest_89 ?_
              refine v_ladd hC dX3_digest_90 ?_
              refine w_ls1 hC dX3_digest_91 hN (by first | rfl | assumption) ?_
              refine w_inc3 hC dX3_digest_92 hN (by first | rfl | assumption) (ri_mk (by omega) (by omega)) ?_
              refine v_goto (tgt := 33) hC dX3_digest_95 rfl ?_
              refine w_dr2 ?_
              exact ih33 _ (q + 1) (by omega) (by omega) (by rw [hz2]; rfl)
        exact lp33 (n3 + 1) _ 0 (by omega) (by omega) rfl
      · refine v_ldc2 (n := 31) hC dX3_digest_12 kl_X3_281 rfl (ckL_ok rfl) ?_
        refine w_ll1 hC dX3_digest_15 ?_
        refine v_lmul hC dX3_digest_16 ?_
        refine w_al0 hC dX3_digest_17 ?_
        refine w_il3 hC dX3_digest_18 ?_
        refine w_vi1 hC vi_X3_276 rfl dX3_digest_19 rfl hN (c_howMany hv0 hA ⟨by omega, by omega⟩ ?_)
        refine v_i2l hC dX3_digest_22 ?_
        refine v_ladd hC dX3_digest_23 ?_
        refine w_ls1 hC dX3_digest_24 hN (by first | rfl | assumption) ?_
        refine w_inc3 hC dX3_digest_25 hN (by first | rfl | assumption) (ri_mk (by omega) (by omega)) ?_
        refine v_goto (tgt := 6) hC dX3_digest_28 rfl ?_
        refine w_dr2 ?_
        exact ih6 _ (k + 1) (by omega) (by omega) (hF_s hz rfl)
  exact lp6 12 _ 0 (by omega) (by omega) rfl
