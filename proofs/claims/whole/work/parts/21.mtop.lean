/-! the model's calls -/
def smN (w w2 : Wd) : Prop := ∀ i k : Nat, i ≠ 40 → w2 i k = w i k

theorem d_verse {d : Nat} {w : Wd} {Q : Option MV → Wd → Prop} (hA : AOK (w 40)) {f m t : Int} (hb0 : ¬ ((0 ≤ f ∧ f ≤ 5) ∧ (1 ≤ m ∧ m ≤ 6) ∧ 0 ≤ t ∧ t < 10 ^ m.toNat) → Q (some (.inl (-2))) (cI w 44 0)) (hk : (0 ≤ f ∧ f ≤ 5) ∧ (1 ≤ m ∧ m ≤ 6) ∧ 0 ≤ t ∧ t < 10 ^ m.toNat → ∀ w2, (∀ k, k < 127 → w2 40 k = sBegin f m t k) → smN w w2 → Q (some (.inl (w 40 3))) w2) : Call (d + 2) mX4_verse [vR 39, vI f, vI m, vI t] w Q := by
  have am := hA.m
  have an := hA.n
  have af := hA.f
  have anc := hA.nc
  have amc := hA.mc
  have auc := hA.uc
  refine call_in (ls := [some (vR 39), some (vI f), some (vI m), some (vI t), none]) (by decide +kernel) rfl (Nat.le_of_ble_eq_true rfl) (fun κ hC hR hN => ?_)
  have hC : ctxB κ RX4 cX4_verse (d + 2) := hC
  have hN : mlx κ 5 := hN
  refine w_il1 hC dX4_verse_0 ?_
  refine w_ic hC dX4_verse_1 rfl ?_
  refine w_ic hC dX4_verse_2 rfl ?_
  refine w_st3 hC st_X4_53 dX4_verse_3 rfl hN (d_in (fun g1 => ?_) (fun g1 => ?_))
  · refine v_if_eq (tgt := 33) hC dX4_verse_6 rfl (fun h => absurd h (by decide)) (fun _ => ?_)
    refine w_il2 hC dX4_verse_9 ?_
    refine w_ic hC dX4_verse_10 rfl ?_
    refine v_bipush hC dX4_verse_11 (by decide) ?_
    refine w_st3 hC st_X4_53 dX4_verse_13 rfl hN (d_in (fun g2 => ?_) (fun g2 => ?_))
    · refine v_if_eq (tgt := 33) hC dX4_verse_16 rfl (fun h => absurd h (by decide)) (fun _ => ?_)
      refine w_il3 hC dX4_verse_19 ?_
      refine w_ic hC dX4_verse_20 rfl ?_
      refine w_il2 hC dX4_verse_21 ?_
      refine w_st1 hC st_X4_57 dX4_verse_22 rfl hN (d_power g2.2 ?_)
      have hp6 : (0 : Int) < 10 ^ m.toNat := Int.pow_pos (by decide)
      have hp7 := ten_le (n := m.toNat) (by omega)
      refine w_ic hC dX4_verse_25 rfl ?_
      refine w_isub hC dX4_verse_26 (ri_mk (by omega) (by omega)) ?_
      refine w_st3 hC st_X4_53 dX4_verse_27 rfl hN (d_in (fun g3 => ?_) (fun g3 => ?_))
      · refine v_if_ne (tgt := 38) hC dX4_verse_30 rfl (fun _ => ?_) (fun h => absurd h (by decide))
        refine w_al0 hC dX4_verse_38 ?_
        refine v_getR (off := 1) (j := 40) hC dX4_verse_39 fd_X4_7 rfl rfl rfl ?_
        refine w_ic hC dX4_verse_42 rfl ?_
        refine w_ialdk hC 127 (3) dX4_verse_43 rfl rfl (by omega) (by omega) ?_
        refine w_is4 hC dX4_verse_44 hN (by first | rfl | assumption) ?_
        refine w_al0 hC dX4_verse_46 ?_
        refine v_getR (off := 1) (j := 40) hC dX4_verse_47 fd_X4_7 rfl rfl rfl ?_
        refine w_st1 hC st_X4_45 dX4_verse_50 rfl hN (d_begin rfl rfl (fun w2 e2 o2 => ?_))
        refine w_al0 hC dX4_verse_53 ?_
        refine v_getR (off := 1) (j := 40) hC dX4_verse_54 fd_X4_7 rfl rfl rfl ?_
        refine w_ic hC dX4_verse_57 rfl ?_
        refine w_il1 hC dX4_verse_58 ?_
        refine w_iastk hC 127 (0) dX4_verse_59 rfl rfl (by omega) (by omega) ?_
        refine w_al0 hC dX4_verse_60 ?_
        refine v_getR (off := 1) (j := 40) hC dX4_verse_61 fd_X4_7 rfl rfl rfl ?_
        refine w_ic hC dX4_verse_64 rfl ?_
        refine w_il2 hC dX4_verse_65 ?_
        refine w_iastk hC 127 (1) dX4_verse_66 rfl rfl (by omega) (by omega) ?_
        refine w_al0 hC dX4_verse_67 ?_
        refine v_getR (off := 1) (j := 40) hC dX4_verse_68 fd_X4_7 rfl rfl rfl ?_
        refine w_ic hC dX4_verse_71 rfl ?_
        refine w_il3 hC dX4_verse_72 ?_
        refine w_iastk hC 127 (2) dX4_verse_73 rfl rfl (by omega) (by omega) ?_
        refine w_il4 hC dX4_verse_74 ?_
        refine v_iret hC hR dX4_verse_76 ?_
        refine hk (by omega) _ (fun k hk => ?_) (fun i k h => by rw [up_id _ _ h, up_id _ _ h, up_id _ _ h]; exact o2 i k h)
        by_cases q0 : k = 0
        · subst q0; rw [up_pl _ _ (by decide), up_pl _ _ (by decide), up_same]; rfl
        · by_cases q1 : k = 1
          · subst q1; rw [up_pl _ _ (by decide), up_same]; rfl
          · by_cases q2 : k = 2
            · subst q2; rw [up_same]; rfl
            · have hs : sBegin f m t k = if 28 ≤ k ∧ k < 34 then -1 else 0 := by unfold sBegin; rw [if_neg q0, if_neg q1, if_neg q2]
              rw [up_pl _ _ q2, up_pl _ _ q1, up_pl _ _ q0, e2 k hk, hs, if_neg q1]
      · refine v_if_ne (tgt := 38) hC dX4_verse_30 rfl (fun h => absurd h (by decide)) (fun _ => ?_)
        refine w_al0 hC dX4_verse_33 ?_
        refine w_vi0 hC vi_X4_60 rfl dX4_verse_34 rfl hN (d_bad ?_)
        refine v_iret hC hR dX4_verse_37 ?_
        exact hb0 (by omega)
    · refine v_if_eq (tgt := 33) hC dX4_verse_16 rfl (fun _ => ?_) (fun h => absurd h (by decide))
      refine w_al0 hC dX4_verse_33 ?_
      refine w_vi0 hC vi_X4_60 rfl dX4_verse_34 rfl hN (d_bad ?_)
      refine v_iret hC hR dX4_verse_37 ?_
      exact hb0 (by omega)
  · refine v_if_eq (tgt := 33) hC dX4_verse_6 rfl (fun _ => ?_) (fun h => absurd h (by decide))
    refine w_al0 hC dX4_verse_33 ?_
    refine w_vi0 hC vi_X4_60 rfl dX4_verse_34 rfl hN (d_bad ?_)
    refine v_iret hC hR dX4_verse_37 ?_
    exact hb0 (by omega)

theorem d_form {d : Nat} {w : Wd} {Q : Option MV → Wd → Prop} (hA : AOK (w 40)) {f : Int} (hb0 : ¬ (0 ≤ f ∧ f ≤ 5) → Q (some (.inl (-2))) (cI w 44 0)) (hk : (0 ≤ f ∧ f ≤ 5) → ∀ w2, (∀ k, w2 40 k = ua (ua (w 40) 0 f) 78 0 k) → smN w w2 → Q (some (.inl (w 40 0))) w2) : Call (d + 2) mX4_form [vR 39, vI f] w Q := by
  have am := hA.m
  have an := hA.n
  have af := hA.f
  have anc := hA.nc
  have amc := hA.mc
  have auc := hA.uc
  refine call_in (ls := [some (vR 39), some (vI f), none]) (by decide +kernel) rfl (Nat.le_of_ble_eq_true rfl) (fun κ hC hR hN => ?_)
  have hC : ctxB κ RX4 cX4_form (d + 2) := hC
  have hN : mlx κ 3 := hN
  refine w_il1 hC dX4_form_0 ?_
  refine w_ic hC dX4_form_1 rfl ?_
  refine w_ic hC dX4_form_2 rfl ?_
  refine w_st3 hC st_X4_53 dX4_form_3 rfl hN (d_in (fun g1 => ?_) (fun g1 => ?_))
  · refine v_if_ne (tgt := 14) hC dX4_form_6 rfl (fun _ => ?_) (fun h => absurd h (by decide))
    refine w_al0 hC dX4_form_14 ?_
    refine v_getR (off := 1) (j := 40) hC dX4_form_15 fd_X4_7 rfl rfl rfl ?_
    refine w_ic hC dX4_form_18 rfl ?_
    refine w_ialdk hC 127 (0) dX4_form_19 rfl rfl (by omega) (by omega) ?_
    refine w_is2 hC dX4_form_20 hN (by first | rfl | assumption) ?_
    refine w_al0 hC dX4_form_21 ?_
    refine v_getR (off := 1) (j := 40) hC dX4_form_22 fd_X4_7 rfl rfl rfl ?_
    refine w_ic hC dX4_form_25 rfl ?_
    refine w_il1 hC dX4_form_26 ?_
    refine w_iastk hC 127 (0) dX4_form_27 rfl rfl (by omega) (by omega) ?_
    refine w_al0 hC dX4_form_28 ?_
    refine v_getR (off := 1) (j := 40) hC dX4_form_29 fd_X4_7 rfl rfl rfl ?_
    refine v_bipush hC dX4_form_32 (by decide) ?_
    refine w_ic hC dX4_form_34 rfl ?_
    refine w_iastk hC 127 (78) dX4_form_35 rfl rfl (by omega) (by omega) ?_
    refine w_il2 hC dX4_form_36 ?_
    refine v_iret hC hR dX4_form_37 ?_
    exact hk g1 _ (fun k => by unfold ua up; simp only [true_and]) (fun i k h => by rw [up_id _ _ h, up_id _ _ h])
  · refine v_if_ne (tgt := 14) hC dX4_form_6 rfl (fun h => absurd h (by decide)) (fun _ => ?_)
    refine w_al0 hC dX4_form_9 ?_
    refine w_vi0 hC vi_X4_60 rfl dX4_form_10 rfl hN (d_bad ?_)
    refine v_iret hC hR dX4_form_13 ?_
    exact hb0 g1

theorem d_word {d : Nat} {w : Wd} {Q : Option MV → Wd → Prop} (hA : AOK (w 40)) {f n c : Int} (hb0 : ¬ ((0 ≤ f ∧ f ≤ 5) ∧ (3 ≤ n ∧ n ≤ 6) ∧ 0 ≤ c ∧ c < 10 ^ n.toNat) → Q (some (.inl (-2))) (cI w 44 0)) (hn0 : (0 ≤ f ∧ f ≤ 5) ∧ (3 ≤ n ∧ n ≤ 6) ∧ 0 ≤ c ∧ c < 10 ^ n.toNat → knB (w 40) n c → Q (some (.inl (-3))) (cI w 44 1)) (hf0 : (0 ≤ f ∧ f ≤ 5) ∧ (3 ≤ n ∧ n ≤ 6) ∧ 0 ≤ c ∧ c < 10 ^ n.toNat → ¬ knB (w 40) n c → w 40 3 = 8 → Q (some (.inl (-4))) (cI w 44 2)) (hk : (0 ≤ f ∧ f ≤ 5) ∧ (3 ≤ n ∧ n ≤ 6) ∧ 0 ≤ c ∧ c < 10 ^ n.toNat → ¬ knB (w 40) n c → w 40 3 < 8 → ∀ w2, (∀ k, w2 40 k = ua (sAddW (w 40) f n c) 78 0 k) → smN w w2 → Q (some (.inl (w 40 3))) w2) : Call (d + 2) mX4_word [vR 39, vI f, vI n, vI c] w Q := by
  have am := hA.m
  have an := hA.n
  have af := hA.f
  have anc := hA.nc
  have amc := hA.mc
  have auc := hA.uc
  refine call_in (ls := [some (vR 39), some (vI f), some (vI n), some (vI c)]) (by decide +kernel) rfl (Nat.le_of_ble_eq_true rfl) (fun κ hC hR hN => ?_)
  have hC : ctxB κ RX4 cX4_word (d + 2) := hC
  have hN : mlx κ 4 := hN
  refine w_il1 hC dX4_word_0 ?_
  refine w_ic hC dX4_word_1 rfl ?_
  refine w_ic hC dX4_word_2 rfl ?_
  refine w_st3 hC st_X4_53 dX4_word_3 rfl hN (d_in (fun g1 => ?_) (fun g1 => ?_))
  · refine v_if_eq (tgt := 33) hC dX4_word_6 rfl (fun h => absurd h (by decide)) (fun _ => ?_)
    refine w_il2 hC dX4_word_9 ?_
    refine w_ic hC dX4_word_10 rfl ?_
    refine v_bipush hC dX4_word_11 (by decide) ?_
    refine w_st3 hC st_X4_53 dX4_word_13 rfl hN (d_in (fun g2 => ?_) (fun g2 => ?_))
    · refine v_if_eq (tgt := 33) hC dX4_word_16 rfl (fun h => absurd h (by decide)) (fun _ => ?_)
      refine w_il3 hC dX4_word_19 ?_
      refine w_ic hC dX4_word_20 rfl ?_
      refine w_il2 hC dX4_word_21 ?_
      refine w_st1 hC st_X4_57 dX4_word_22 rfl hN (d_power g2.2 ?_)
      have hp6 : (0 : Int) < 10 ^ n.toNat := Int.pow_pos (by decide)
      have hp7 := ten_le (n := n.toNat) (by omega)
      refine w_ic hC dX4_word_25 rfl ?_
      refine w_isub hC dX4_word_26 (ri_mk (by omega) (by omega)) ?_
      refine w_st3 hC st_X4_53 dX4_word_27 rfl hN (d_in (fun g3 => ?_) (fun g3 => ?_))
      · refine v_if_ne (tgt := 38) hC dX4_word_30 rfl (fun _ => ?_) (fun h => absurd h (by decide))
        refine w_al0 hC dX4_word_38 ?_
        refine v_getR (off := 1) (j := 40) hC dX4_word_39 fd_X4_7 rfl rfl rfl ?_
        refine w_il2 hC dX4_word_42 ?_
        refine w_il3 hC dX4_word_43 ?_
        refine w_st3 hC st_X4_64 dX4_word_44 rfl hN (d_isThere rfl rfl an (fun g4 => ?_) (fun g4 => ?_))
        · refine v_if_eq (tgt := 55) hC dX4_word_47 rfl (fun h => absurd h (by decide)) (fun _ => ?_)
          refine w_al0 hC dX4_word_50 ?_
          refine w_vi0 hC vi_X4_68 rfl dX4_word_51 rfl hN (d_no ?_)
          refine v_iret hC hR dX4_word_54 ?_
          exact hn0 (by omega) g4
        · refine v_if_eq (tgt := 55) hC dX4_word_47 rfl (fun _ => ?_) (fun h => absurd h (by decide))
          refine w_al0 hC dX4_word_55 ?_
          refine v_getR (off := 1) (j := 40) hC dX4_word_56 fd_X4_7 rfl rfl rfl ?_
          refine w_ic hC dX4_word_59 rfl ?_
          refine w_ialdk hC 127 (3) dX4_word_60 rfl rfl (by omega) (by omega) ?_
          refine v_bipush hC dX4_word_61 (by decide) ?_
          refine v_ic_ne (tgt := 71) hC dX4_word_63 rfl (fun h63 => ?_) (fun h63 => ?_)
          · refine w_al0 hC dX4_word_71 ?_
            refine v_getR (off := 1) (j := 40) hC dX4_word_72 fd_X4_7 rfl rfl rfl ?_
            refine v_bipush hC dX4_word_75 (by decide) ?_
            refine w_ic hC dX4_word_77 rfl ?_
            refine w_iastk hC 127 (78) dX4_word_78 rfl rfl (by omega) (by omega) ?_
            refine w_al0 hC dX4_word_79 ?_
            refine v_getR (off := 1) (j := 40) hC dX4_word_80 fd_X4_7 rfl rfl rfl ?_
            refine w_il1 hC dX4_word_83 ?_
            refine w_il2 hC dX4_word_84 ?_
            refine w_il3 hC dX4_word_85 ?_
            refine w_st4 hC st_X4_74 dX4_word_86 rfl hN (d_addWord rfl rfl (by rw [up_pl _ _ (by decide)]; omega) (fun w2 e2 o2 => ?_))
            rw [up_pl _ _ (by decide)]
            refine v_iret hC hR dX4_word_89 ?_
            refine hk (by omega) g4 (by omega) w2 (fun k => ?_) (fun i k h => by rw [o2 i k h, up_id _ _ h])
            rw [e2 k]
            have e3 : up w 40 78 0 40 3 = w 40 3 := up_pl _ _ (by decide)
            unfold sAddW
            rw [e3]
            unfold ua
            by_cases q : k = 78
            · rw [if_pos q, if_neg (by omega), if_neg (by omega), if_neg (by omega), if_neg (by omega), q, up_same]
            · rw [if_neg q, up_pl _ _ q]
          · refine w_al0 hC dX4_word_66 ?_
            refine w_vi0 hC vi_X4_71 rfl dX4_word_67 rfl hN (d_full ?_)
            refine v_iret hC hR dX4_word_70 ?_
            exact hf0 (by omega) g4 (by omega)
      · refine v_if_ne (tgt := 38) hC dX4_word_30 rfl (fun h => absurd h (by decide)) (fun _ => ?_)
        refine w_al0 hC dX4_word_33 ?_
        refine w_vi0 hC vi_X4_60 rfl dX4_word_34 rfl hN (d_bad ?_)
        refine v_iret hC hR dX4_word_37 ?_
        exact hb0 (by omega)
    · refine v_if_eq (tgt := 33) hC dX4_word_16 rfl (fun _ => ?_) (fun h => absurd h (by decide))
      refine w_al0 hC dX4_word_33 ?_
      refine w_vi0 hC vi_X4_60 rfl dX4_word_34 rfl hN (d_bad ?_)
      refine v_iret hC hR dX4_word_37 ?_
      exact hb0 (by omega)
  · refine v_if_eq (tgt := 33) hC dX4_word_6 rfl (fun _ => ?_) (fun h => absurd h (by decide))
    refine w_al0 hC dX4_word_33 ?_
    refine w_vi0 hC vi_X4_60 rfl dX4_word_34 rfl hN (d_bad ?_)
    refine v_iret hC hR dX4_word_37 ?_
    exact hb0 (by omega)

theorem d_type {d : Nat} {w : Wd} {Q : Option MV → Wd → Prop} {l : Nat} (hl : w 39 7 = (l : Int)) (hl2 : l ≤ 150) {c : Int} (hb0 : ¬ (0 ≤ c ∧ c ≤ 127) → Q (some (.inl (-2))) (cI w 44 0)) (hf0 : (0 ≤ c ∧ c ≤ 127) → l = 150 → Q (some (.inl (-4))) (cI w 44 2)) (hk : (0 ≤ c ∧ c ≤ 127) → l < 150 → Q (some (.inl ((l : Int) + 1))) (up (up w 45 l c) 39 7 ((l : Int) + 1))) : Call (d + 2) mX4_type [vR 39, vI c] w Q := by
  refine call_in (ls := [some (vR 39), some (vI c)]) (by decide +kernel) rfl (Nat.le_of_ble_eq_true rfl) (fun κ hC hR hN => ?_)
  have hC : ctxB κ RX4 cX4_type (d + 2) := hC
  have hN : mlx κ 2 := hN
  refine w_il1 hC dX4_type_0 ?_
  refine w_ic hC dX4_type_1 rfl ?_
  refine v_bipush hC dX4_type_2 (by decide) ?_
  refine w_st3 hC st_X4_53 dX4_type_4 rfl hN (d_in (fun g1 => ?_) (fun g1 => ?_))
  · refine v_if_ne (tgt := 15) hC dX4_type_7 rfl (fun _ => ?_) (fun h => absurd h (by decide))
    refine w_al0 hC dX4_type_15 ?_
    refine v_getI hC dX4_type_16 fd_X4_78 rfl rfl ?_
    rw [hl]
    refine v_sipush hC dX4_type_19 (by decide) ?_
    refine v_ic_ne (tgt := 30) hC dX4_type_22 rfl (fun h22 => ?_) (fun h22 => ?_)
    · refine w_al0 hC dX4_type_30 ?_
      refine v_getR (off := 6) (j := 45) hC dX4_type_31 fd_X4_30 rfl rfl rfl ?_
      refine w_al0 hC dX4_type_34 ?_
      refine v_getI hC dX4_type_35 fd_X4_78 rfl rfl ?_
      rw [hl]
      refine w_il1 hC dX4_type_38 ?_
      refine w_iastk hC 150 l dX4_type_39 rfl rfl rfl (by omega) ?_
      refine w_al0 hC dX4_type_40 ?_
      refine v_dup hC dX4_type_41 rfl ?_
      refine v_getI hC dX4_type_42 fd_X4_78 rfl rfl ?_
      rw [up_id _ _ (by decide), hl]
      refine w_ic hC dX4_type_45 rfl ?_
      refine w_iadd hC dX4_type_46 (ri_mk (by omega) (by omega)) ?_
      refine v_putI hC dX4_type_47 fp_X4_78 rfl rfl ?_
      refine w_al0 hC dX4_type_50 ?_
      refine v_getI hC dX4_type_51 fd_X4_78 rfl rfl ?_
      rw [up_same]
      refine v_iret hC hR dX4_type_54 ?_
      exact hk g1 (by omega)
    · refine w_al0 hC dX4_type_25 ?_
      refine w_vi0 hC vi_X4_71 rfl dX4_type_26 rfl hN (d_full ?_)
      refine v_iret hC hR dX4_type_29 ?_
      exact hf0 g1 (by omega)
  · refine v_if_ne (tgt := 15) hC dX4_type_7 rfl (fun h => absurd h (by decide)) (fun _ => ?_)
    refine w_al0 hC dX4_type_10 ?_
    refine w_vi0 hC vi_X4_60 rfl dX4_type_11 rfl hN (d_bad ?_)
    refine v_iret hC hR dX4_type_14 ?_
    exact hb0 g1

theorem d_clear {d : Nat} {w : Wd} {Q : Option MV → Wd → Prop} (hQ : Q (some (.inl (w 39 7))) (up w 39 7 0)) : Call (d + 0) mX4_clear [vR 39] w Q := by
  refine call_in (ls := [some (vR 39), none]) (by decide +kernel) rfl (Nat.le_of_ble_eq_true rfl) (fun κ hC hR hN => ?_)
  have hC : ctxB κ RX4 cX4_clear (d + 0) := hC
  have hN : mlx κ 2 := hN
  refine w_al0 hC dX4_clear_0 ?_
  refine v_getI hC dX4_clear_1 fd_X4_78 rfl rfl ?_
  refine w_is1 hC dX4_clear_4 hN (by first | rfl | assumption) ?_
  refine w_al0 hC dX4_clear_5 ?_
  refine w_ic hC dX4_clear_6 rfl ?_
  refine v_putI hC dX4_clear_7 fp_X4_78 rfl rfl ?_
  refine w_il1 hC dX4_clear_10 ?_
  refine v_iret hC hR dX4_clear_11 ?_
  exact hQ

theorem d_notes {d : Nat} {w : Wd} {Q : Option MV → Wd → Prop} (hA : AOK (w 40)) (hQ : ∀ w2, (∀ k, w2 40 k = sKeep (w 40) k) → smN w w2 → Q none w2) : Call (d + 1) mX4_notes [vR 39] w Q := by
  have am := hA.m
  have an := hA.n
  have af := hA.f
  have anc := hA.nc
  have amc := hA.mc
  have auc := hA.uc
  refine call_in (ls := [some (vR 39)]) (by decide +kernel) rfl (Nat.le_of_ble_eq_true rfl) (fun κ hC hR hN => ?_)
  have hC : ctxB κ RX4 cX4_notes (d + 1) := hC
  have hN : mlx κ 1 := hN
  have tl40 : ∀ (w1 : Wd) (c : Nat) (a1 : Nat → Int), (∀ k, w1 40 k = a1 k) → (a1 78 = c) → (c ≤ 7) → (smN w w1) → (∀ w2, (∀ k, w2 40 k = sKeep1 a1 k) → smN w w2 → Q none w2) → VV κ 40 [some (vR 39)] [] w1 := by
    intro w1 c a1 e1 hc h7 fr hq
    refine w_al0 hC dX4_notes_40 ?_
    refine v_getR (off := 1) (j := 40) hC dX4_notes_41 fd_X4_7 rfl rfl rfl ?_
    refine v_bipush hC dX4_notes_44 (by decide) ?_
    refine w_al0 hC dX4_notes_46 ?_
    refine v_getR (off := 1) (j := 40) hC dX4_notes_47 fd_X4_7 rfl rfl rfl ?_
    refine v_bipush hC dX4_notes_50 (by decide) ?_
    refine v_bipush hC dX4_notes_52 (by decide) ?_
    refine w_al0 hC dX4_notes_54 ?_
    refine v_getR (off := 1) (j := 40) hC dX4_notes_55 fd_X4_7 rfl rfl rfl ?_
    refine v_bipush hC dX4_notes_58 (by decide) ?_
    refine w_ialdk hC 127 (78) dX4_notes_60 rfl rfl (by omega) (by omega) ?_
    rw [e1, hc]
    refine w_imul hC dX4_notes_61 (ri_mk (by omega) (by omega)) ?_
    rw [show (6 : Int) * (c : Int) = ((6 * c : Nat) : Int) by omega]
    refine w_iadd hC dX4_notes_62 (ri_mk (by omega) (by omega)) ?_
    rw [show (79 : Int) + ((6 * c : Nat) : Int) = ((79 + 6 * c : Nat) : Int) by omega]
    refine v_bipush hC dX4_notes_63 (by decide) ?_
    refine w_st5 hC st_X4_148 dX4_notes_65 rfl hN (d_bring (x := 40) (y := 40) (i := 28) (j := 79 + 6 * c) (n := 6) rfl rfl (by decide) (show 79 + 6 * c + 6 ≤ 127 by omega) (Or.inr (Or.inr (by omega))) (fun w3 b3 o3 => ?_))
    refine w_al0 hC dX4_notes_68 ?_
    refine v_getR (off := 1) (j := 40) hC dX4_notes_69 fd_X4_7 rfl rfl rfl ?_
    refine v_bipush hC dX4_notes_72 (by decide) ?_
    refine v_dup2 hC dX4_notes_74 rfl rfl ?_
    refine w_ialdk hC 127 (78) dX4_notes_75 rfl rfl (by omega) (by omega) ?_
    rw [o3 40 78 (by omega), e1, hc]
    refine w_ic hC dX4_notes_76 rfl ?_
    refine w_iadd hC dX4_notes_77 (ri_mk (by omega) (by omega)) ?_
    refine w_iastk hC 127 (78) dX4_notes_78 rfl rfl (by omega) (by omega) ?_
    refine v_vret hC hR dX4_notes_79 ?_
    refine hq _ (fun k => ?_) (fun i k h => by rw [up_id _ _ h, o3 i k (by omega)]; exact fr i k h)
    unfold sKeep1
    rw [hc, show ((c : Nat) : Int).toNat = c from rfl]
    by_cases q : k = 78
    · subst q; rw [up_same, if_pos rfl]
    · rw [up_pl _ _ q, if_neg q]
      by_cases q2 : 79 + 6 * c ≤ k ∧ k < 79 + 6 * c + 6
      · rw [if_pos q2]
        have := b3 (k - (79 + 6 * c)) (by omega)
        rw [show 79 + 6 * c + (k - (79 + 6 * c)) = k by omega, e1] at this
        exact this
      · rw [if_neg q2, o3 40 k (by omega), e1]
  refine w_al0 hC dX4_notes_0 ?_
  refine v_getR (off := 1) (j := 40) hC dX4_notes_1 fd_X4_7 rfl rfl rfl ?_
  refine v_bipush hC dX4_notes_4 (by decide) ?_
  refine w_ialdk hC 127 (78) dX4_notes_6 rfl rfl (by omega) (by omega) ?_
  refine v_bipush hC dX4_notes_7 (by decide) ?_
  refine v_ic_ne (tgt := 40) hC dX4_notes_9 rfl (fun h9 => ?_) (fun h9 => ?_)
  · first
    | exact tl40 w (w 40 78).toNat (w 40) (fun _ => rfl) (by omega) (by omega) (fun _ _ _ => rfl) (fun w2 h => hQ w2 (fun k => by rw [h k]; unfold sKeep; rw [if_neg (by omega)]))
    | exact tl40 _ 7 (sDrop (w 40)) (fun k => by
        by_cases q : k = 78
        · subst q; rw [up_same, show w 40 78 - 1 = 7 by omega]; rfl
        · rw [up_pl _ _ q]
          unfold sDrop
          rw [if_neg q]
          by_cases q2 : 79 ≤ k ∧ k < 121
          · rw [if_pos q2]
            have := b1 (k - 79) (by omega)
            rw [show 79 + (k - 79) = k by omega, show 85 + (k - 79) = k + 6 by omega] at this
            exact this
          · rw [if_neg q2, o1 40 k (by omega)]) rfl (by decide) (fun i k h => by rw [up_id _ _ h]; exact o1 i k (by omega)) (fun w2 h => hQ w2 (fun k => by rw [h k]; unfold sKeep; rw [if_pos (by omega)]))
  · refine w_al0 hC dX4_notes_12 ?_
    refine v_getR (off := 1) (j := 40) hC dX4_notes_13 fd_X4_7 rfl rfl rfl ?_
    refine v_bipush hC dX4_notes_16 (by decide) ?_
    refine w_al0 hC dX4_notes_18 ?_
    refine v_getR (off := 1) (j := 40) hC dX4_notes_19 fd_X4_7 rfl rfl rfl ?_
    refine v_bipush hC dX4_notes_22 (by decide) ?_
    refine v_bipush hC dX4_notes_24 (by decide) ?_
    refine w_st5 hC st_X4_148 dX4_notes_26 rfl hN (d_bring (x := 40) (y := 40) (i := 85) (j := 79) (n := 42) rfl rfl (by decide) (by decide) (Or.inr (Or.inl (by decide))) (fun w1 b1 o1 => ?_))
    refine w_al0 hC dX4_notes_29 ?_
    refine v_getR (off := 1) (j := 40) hC dX4_notes_30 fd_X4_7 rfl rfl rfl ?_
    refine v_bipush hC dX4_notes_33 (by decide) ?_
    refine v_dup2 hC dX4_notes_35 rfl rfl ?_
    refine w_ialdk hC 127 (78) dX4_notes_36 rfl rfl (by omega) (by omega) ?_
    rw [o1 40 78 (by omega)]
    refine w_ic hC dX4_notes_37 rfl ?_
    refine w_isub hC dX4_notes_38 (ri_mk (by omega) (by omega)) ?_
    refine w_iastk hC 127 (78) dX4_notes_39 rfl rfl (by omega) (by omega) ?_
    first
    | exact tl40 w (w 40 78).toNat (w 40) (fun _ => rfl) (by omega) (by omega) (fun _ _ _ => rfl) (fun w2 h => hQ w2 (fun k => by rw [h k]; unfold sKeep; rw [if_neg (by omega)]))
    | exact tl40 _ 7 (sDrop (w 40)) (fun k => by
        by_cases q : k = 78
        · subst q; rw [up_same, show w 40 78 - 1 = 7 by omega]; rfl
        · rw [up_pl _ _ q]
          unfold sDrop
          rw [if_neg q]
          by_cases q2 : 79 ≤ k ∧ k < 121
          · rw [if_pos q2]
            have := b1 (k - 79) (by omega)
            rw [show 79 + (k - 79) = k by omega, show 85 + (k - 79) = k + 6 by omega] at this
            exact this
          · rw [if_neg q2, o1 40 k (by omega)]) rfl (by decide) (fun i k h => by rw [up_id _ _ h]; exact o1 i k (by omega)) (fun w2 h => hQ w2 (fun k => by rw [h k]; unfold sKeep; rw [if_pos (by omega)]))

theorem d_puts {d : Nat} {w : Wd} {Q : Option MV → Wd → Prop} (hA : AOK (w 40)) {j n : Int} (hb0 : ¬ ((0 ≤ j ∧ j < w 40 1) ∧ 0 ≤ n ∧ n < w 40 3) → Q (some (.inl (-2))) (cI w 44 0)) (hn0 : ((0 ≤ j ∧ j < w 40 1) ∧ 0 ≤ n ∧ n < w 40 3) → ¬ (w 40 (28 + j.toNat) = -1 ∧ lnOf (w 40) n = -1) → Q (some (.inl (-3))) (cI w 44 1)) (hk1 : (0 ≤ j ∧ j < w 40 1) ∧ 0 ≤ n ∧ n < w 40 3 → w 40 (28 + j.toNat) = -1 ∧ lnOf (w 40) n = -1 → fitB (w 40) (w 40 0) n j → ∀ w2, (∀ k, w2 40 k = ua (sKeep (w 40)) (28 + j.toNat) n k) → smN w w2 → Q (some (.inl 1)) w2) (hk0 : (0 ≤ j ∧ j < w 40 1) ∧ 0 ≤ n ∧ n < w 40 3 → w 40 (28 + j.toNat) = -1 ∧ lnOf (w 40) n = -1 → ¬ fitB (w 40) (w 40 0) n j → ∀ w2, (∀ k, w2 40 k = ua (sKeep (w 40)) (28 + j.toNat) n k) → smN w w2 → Q (some (.inl 0)) w2) : Call (d + 4) mX4_puts [vR 39, vI j, vI n] w Q := by
  have am := hA.m
  have an := hA.n
  have af := hA.f
  have anc := hA.nc
  have amc := hA.mc
  have auc := hA.uc
  refine call_in (ls := [some (vR 39), some (vI j), some (vI n)]) (by decide +kernel) rfl (Nat.le_of_ble_eq_true rfl) (fun κ hC hR hN => ?_)
  have hC : ctxB κ RX4 cX4_puts (d + 4) := hC
  have hN : mlx κ 3 := hN
  refine w_al0 hC dX4_puts_0 ?_
  refine w_il1 hC dX4_puts_1 ?_
  refine w_vi1 hC vi_X4_174 rfl dX4_puts_2 rfl hN (d_isLine hA (fun g1 => ?_) (fun g1 => ?_))
  · refine v_if_eq (tgt := 16) hC dX4_puts_5 rfl (fun h => absurd h (by decide)) (fun _ => ?_)
    refine w_al0 hC dX4_puts_8 ?_
    refine w_il2 hC dX4_puts_9 ?_
    refine w_vi1 hC vi_X4_178 rfl dX4_puts_10 rfl hN (d_isWord hA (fun g2 => ?_) (fun g2 => ?_))
    · refine v_if_ne (tgt := 21) hC dX4_puts_13 rfl (fun _ => ?_) (fun h => absurd h (by decide))
      refine w_al0 hC dX4_puts_21 ?_
      refine v_getR (off := 1) (j := 40) hC dX4_puts_22 fd_X4_7 rfl rfl rfl ?_
      refine v_bipush hC dX4_puts_25 (by decide) ?_
      refine w_il1 hC dX4_puts_27 ?_
      refine w_iadd hC dX4_puts_28 (ri_mk (by omega) (by omega)) ?_
      refine w_ialdk hC 127 (28 + j.toNat) dX4_puts_29 rfl rfl (by omega) (by omega) ?_
      refine w_ic hC dX4_puts_30 rfl ?_
      refine v_ic_ne (tgt := 46) hC dX4_puts_31 rfl (fun h31 => ?_) (fun h31 => ?_)
      · refine w_al0 hC dX4_puts_46 ?_
        refine w_vi0 hC vi_X4_68 rfl dX4_puts_47 rfl hN (d_no ?_)
        refine v_iret hC hR dX4_puts_50 ?_
        exact hn0 ⟨g1, g2⟩ (by omega)
      · refine w_al0 hC dX4_puts_34 ?_
        refine v_getR (off := 1) (j := 40) hC dX4_puts_35 fd_X4_7 rfl rfl rfl ?_
        refine w_il2 hC dX4_puts_38 ?_
        refine w_st2 hC st_X4_114 dX4_puts_39 rfl hN (d_lineOf rfl rfl am ?_)
        rw [lnL_eq hA g2.1]
        refine w_ic hC dX4_puts_42 rfl ?_
        refine v_ic_eq (tgt := 51) hC dX4_puts_43 rfl (fun h43 => ?_) (fun h43 => ?_)
        · refine w_al0 hC dX4_puts_51 ?_
          refine w_vi0 hC vi_X4_181 rfl dX4_puts_52 rfl hN (d_notes hA (fun w2 e2 o2 => ?_))
          refine w_al0 hC dX4_puts_55 ?_
          refine v_getR (off := 1) (j := 40) hC dX4_puts_56 fd_X4_7 rfl rfl rfl ?_
          refine v_bipush hC dX4_puts_59 (by decide) ?_
          refine w_il1 hC dX4_puts_61 ?_
          refine w_iadd hC dX4_puts_62 (ri_mk (by omega) (by omega)) ?_
          refine w_il2 hC dX4_puts_63 ?_
          refine w_iastk hC 127 (28 + j.toNat) dX4_puts_64 rfl rfl (by omega) (by omega) ?_
          have c2 : w 40 (28 + j.toNat) = -1 ∧ lnOf (w 40) n = -1 := ⟨by omega, by omega⟩
          have okp := ok_puts hA g1 g2 c2.2
          have e4 : ∀ k, up w2 40 (28 + j.toNat) n 40 k = ua (sKeep (w 40)) (28 + j.toNat) n k := fun k => by
            unfold ua
            by_cases q : k = 28 + j.toNat
            · rw [q, up_same, if_pos rfl]
            · rw [up_pl _ _ q, if_neg q, e2]
          have o4 : smN w (up w2 40 (28 + j.toNat) n) := fun i k h => by rw [up_id _ _ h]; exact o2 i k h
          generalize up w2 40 (28 + j.toNat) n = w4 at e4 o4 ⊢
          have e5 : w4 40 = ua (sKeep (w 40)) (28 + j.toNat) n := funext e4
          have hq : ∀ q : Nat, q < 28 → w4 40 q = w 40 q := fun q h => by rw [e4]; unfold ua; rw [if_neg (by omega)]; exact sKeep_at hA (by omega)
          have hA4 : AOK (w4 40) := by rw [e5]; exact okp
          have hfc := fit_congr (a := w 40) (a2 := w4 40) hq (f := w 40 0) (n := n) (j := j) ⟨g2.1, by omega⟩
          refine w_al0 hC dX4_puts_65 ?_
          refine w_al0 hC dX4_puts_66 ?_
          refine v_getR (off := 1) (j := 40) hC dX4_puts_67 fd_X4_7 rfl rfl rfl ?_
          refine w_ic hC dX4_puts_70 rfl ?_
          refine w_ialdk hC 127 (0) dX4_puts_71 rfl rfl (by omega) (by omega) ?_
          rw [hq 0 (by omega)]
          refine w_il2 hC dX4_puts_72 ?_
          refine w_il1 hC dX4_puts_73 ?_
          refine w_vi3 hC vi_X4_168 rfl dX4_puts_74 rfl hN (d_isFit hA4 (by rw [hq 3 (by omega)]; exact g2) ⟨by omega, by omega⟩ (fun g5 => ?_) (fun g5 => ?_))
          · refine v_if_eq (tgt := 84) hC dX4_puts_77 rfl (fun h => absurd h (by decide)) (fun _ => ?_)
            refine w_ic hC dX4_puts_80 rfl ?_
            refine v_goto (tgt := 85) hC dX4_puts_81 rfl ?_
            refine v_iret hC hR dX4_puts_85 ?_
            first | exact hk1 ⟨g1, g2⟩ c2 (hfc.mp g5) w4 e4 o4 | exact hk0 ⟨g1, g2⟩ c2 (fun z => g5 (hfc.mpr z)) w4 e4 o4
          · refine v_if_eq (tgt := 84) hC dX4_puts_77 rfl (fun _ => ?_) (fun h => absurd h (by decide))
            refine w_ic hC dX4_puts_84 rfl ?_
            refine v_iret hC hR dX4_puts_85 ?_
            first | exact hk1 ⟨g1, g2⟩ c2 (hfc.mp g5) w4 e4 o4 | exact hk0 ⟨g1, g2⟩ c2 (fun z => g5 (hfc.mpr z)) w4 e4 o4
        · refine w_al0 hC dX4_puts_46 ?_
          refine w_vi0 hC vi_X4_68 rfl dX4_puts_47 rfl hN (d_no ?_)
          refine v_iret hC hR dX4_puts_50 ?_
          exact hn0 ⟨g1, g2⟩ (by omega)
    · refine v_if_ne (tgt := 21) hC dX4_puts_13 rfl (fun h => absurd h (by decide)) (fun _ => ?_)
      refine w_al0 hC dX4_puts_16 ?_
      refine w_vi0 hC vi_X4_60 rfl dX4_puts_17 rfl hN (d_bad ?_)
      refine v_iret hC hR dX4_puts_20 ?_
      exact hb0 (by omega)
  · refine v_if_eq (tgt := 16) hC dX4_puts_5 rfl (fun _ => ?_) (fun h => absurd h (by decide))
    refine w_al0 hC dX4_puts_16 ?_
    refine w_vi0 hC vi_X4_60 rfl dX4_puts_17 rfl hN (d_bad ?_)
    refine v_iret hC hR dX4_puts_20 ?_
    exact hb0 (by omega)

theorem d_takes {d : Nat} {w : Wd} {Q : Option MV → Wd → Prop} (hA : AOK (w 40)) {j : Int} (hb0 : ¬ (0 ≤ j ∧ j < w 40 1) → Q (some (.inl (-2))) (cI w 44 0)) (hn0 : (0 ≤ j ∧ j < w 40 1) → w 40 (28 + j.toNat) = -1 → Q (some (.inl (-3))) (cI w 44 1)) (hk : (0 ≤ j ∧ j < w 40 1) → w 40 (28 + j.toNat) ≠ -1 → ∀ w2, (∀ k, w2 40 k = ua (sKeep (w 40)) (28 + j.toNat) (-1) k) → smN w w2 → Q (some (.inl (w 40 (28 + j.toNat)))) w2) : Call (d + 2) mX4_takes [vR 39, vI j] w Q := by
  have am := hA.m
  have an := hA.n
  have af := hA.f
  have anc := hA.nc
  have amc := hA.mc
  have auc := hA.uc
  refine call_in (ls := [some (vR 39), some (vI j), none]) (by decide +kernel) rfl (Nat.le_of_ble_eq_true rfl) (fun κ hC hR hN => ?_)
  have hC : ctxB κ RX4 cX4_takes (d + 2) := hC
  have hN : mlx κ 3 := hN
  refine w_al0 hC dX4_takes_0 ?_
  refine w_il1 hC dX4_takes_1 ?_
  refine w_vi1 hC vi_X4_174 rfl dX4_takes_2 rfl hN (d_isLine hA (fun g1 => ?_) (fun g1 => ?_))
  · refine v_if_ne (tgt := 13) hC dX4_takes_5 rfl (fun _ => ?_) (fun h => absurd h (by decide))
    refine w_al0 hC dX4_takes_13 ?_
    refine v_getR (off := 1) (j := 40) hC dX4_takes_14 fd_X4_7 rfl rfl rfl ?_
    refine v_bipush hC dX4_takes_17 (by decide) ?_
    refine w_il1 hC dX4_takes_19 ?_
    refine w_iadd hC dX4_takes_20 (ri_mk (by omega) (by omega)) ?_
    refine w_ialdk hC 127 (28 + j.toNat) dX4_takes_21 rfl rfl (by omega) (by omega) ?_
    refine w_is2 hC dX4_takes_22 hN (by first | rfl | assumption) ?_
    refine w_il2 hC dX4_takes_23 ?_
    refine w_ic hC dX4_takes_24 rfl ?_
    refine v_ic_ne (tgt := 33) hC dX4_takes_25 rfl (fun h25 => ?_) (fun h25 => ?_)
    · refine w_al0 hC dX4_takes_33 ?_
      refine w_vi0 hC vi_X4_181 rfl dX4_takes_34 rfl hN (d_notes hA (fun w2 e2 o2 => ?_))
      refine w_al0 hC dX4_takes_37 ?_
      refine v_getR (off := 1) (j := 40) hC dX4_takes_38 fd_X4_7 rfl rfl rfl ?_
      refine v_bipush hC dX4_takes_41 (by decide) ?_
      refine w_il1 hC dX4_takes_43 ?_
      refine w_iadd hC dX4_takes_44 (ri_mk (by omega) (by omega)) ?_
      refine w_ic hC dX4_takes_45 rfl ?_
      refine w_iastk hC 127 (28 + j.toNat) dX4_takes_46 rfl rfl (by omega) (by omega) ?_
      refine w_il2 hC dX4_takes_47 ?_
      refine v_iret hC hR dX4_takes_48 ?_
      refine hk g1 h25 _ (fun k => ?_) (fun i k h => by rw [up_id _ _ h]; exact o2 i k h)
      unfold ua
      by_cases q : k = 28 + j.toNat
      · rw [q, up_same, if_pos rfl]
      · rw [up_pl _ _ q, if_neg q, e2]
    · refine w_al0 hC dX4_takes_28 ?_
      refine w_vi0 hC vi_X4_68 rfl dX4_takes_29 rfl hN (d_no ?_)
      refine v_iret hC hR dX4_takes_32 ?_
      exact hn0 g1 h25
  · refine v_if_ne (tgt := 13) hC dX4_takes_5 rfl (fun h => absurd h (by decide)) (fun _ => ?_)
    refine w_al0 hC dX4_takes_8 ?_
    refine w_vi0 hC vi_X4_60 rfl dX4_takes_9 rfl hN (d_bad ?_)
    refine v_iret hC hR dX4_takes_12 ?_
    exact hb0 g1

theorem rt_rtL {a : Nat → Int} (hA : AOK a) : rtG a (fun j => a (28 + j)) = rtL a := by
  have am := hA.m
  unfold rtG rtL
  apply sumN_congr
  intro j hj
  have e : isGb a (fun j => a (28 + j)) j = isRb a j := by
    unfold isGb isRb
    rw [wOn_n (by omega)]
  rw [e]

theorem d_swaps {d : Nat} {w : Wd} {Q : Option MV → Wd → Prop} (hA : AOK (w 40)) {j k : Int} (hb0 : ¬ ((0 ≤ j ∧ j < w 40 1) ∧ (0 ≤ k ∧ k < w 40 1) ∧ j ≠ k) → Q (some (.inl (-2))) (cI w 44 0)) (hn0 : ((0 ≤ j ∧ j < w 40 1) ∧ (0 ≤ k ∧ k < w 40 1) ∧ j ≠ k) → (w 40 (28 + j.toNat) = -1 ∧ w 40 (28 + k.toNat) = -1) → Q (some (.inl (-3))) (cI w 44 1)) (hk : (0 ≤ j ∧ j < w 40 1) ∧ (0 ≤ k ∧ k < w 40 1) ∧ j ≠ k → ¬ (w 40 (28 + j.toNat) = -1 ∧ w 40 (28 + k.toNat) = -1) → ∀ w2, (∀ q, w2 40 q = (ua (ua (sKeep (w 40)) (28 + j.toNat) (w 40 (28 + k.toNat))) (28 + k.toNat) (w 40 (28 + j.toNat))) q) → smN w w2 → Q (some (.inl (rtL (ua (ua (sKeep (w 40)) (28 + j.toNat) (w 40 (28 + k.toNat))) (28 + k.toNat) (w 40 (28 + j.toNat)))))) w2) : Call (d + 6) mX4_swaps [vR 39, vI j, vI k] w Q := by
  have am := hA.m
  have an := hA.n
  have af := hA.f
  have anc := hA.nc
  have amc := hA.mc
  have auc := hA.uc
  refine call_in (ls := [some (vR 39), some (vI j), some (vI k), none]) (by decide +kernel) rfl (Nat.le_of_ble_eq_true rfl) (fun κ hC hR hN => ?_)
  have hC : ctxB κ RX4 cX4_swaps (d + 6) := hC
  have hN : mlx κ 4 := hN
  have tl59 : (0 ≤ j ∧ j < w 40 1) → (0 ≤ k ∧ k < w 40 1) → (j ≠ k) → (¬ (w 40 (28 + j.toNat) = -1 ∧ w 40 (28 + k.toNat) = -1)) → VV κ 59 [some (vR 39), some (vI j), some (vI k), some (vI (w 40 (28 + j.toNat)))] [] w := by
    intro  g1 g2 hjk hor
    refine w_al0 hC dX4_swaps_59 ?_
    refine w_vi0 hC vi_X4_181 rfl dX4_swaps_60 rfl hN (d_notes hA (fun w2 e2 o2 => ?_))
    refine w_al0 hC dX4_swaps_63 ?_
    refine v_getR (off := 1) (j := 40) hC dX4_swaps_64 fd_X4_7 rfl rfl rfl ?_
    refine v_bipush hC dX4_swaps_67 (by decide) ?_
    refine w_il1 hC dX4_swaps_69 ?_
    refine w_iadd hC dX4_swaps_70 (ri_mk (by omega) (by omega)) ?_
    refine w_al0 hC dX4_swaps_71 ?_
    refine v_getR (off := 1) (j := 40) hC dX4_swaps_72 fd_X4_7 rfl rfl rfl ?_
    refine v_bipush hC dX4_swaps_75 (by decide) ?_
    refine w_il2 hC dX4_swaps_77 ?_
    refine w_iadd hC dX4_swaps_78 (ri_mk (by omega) (by omega)) ?_
    refine w_ialdk hC 127 (28 + k.toNat) dX4_swaps_79 rfl rfl (by omega) (by omega) ?_
    rw [e2, sKeep_at hA (by omega)]
    refine w_iastk hC 127 (28 + j.toNat) dX4_swaps_80 rfl rfl (by omega) (by omega) ?_
    refine w_al0 hC dX4_swaps_81 ?_
    refine v_getR (off := 1) (j := 40) hC dX4_swaps_82 fd_X4_7 rfl rfl rfl ?_
    refine v_bipush hC dX4_swaps_85 (by decide) ?_
    refine w_il2 hC dX4_swaps_87 ?_
    refine w_iadd hC dX4_swaps_88 (ri_mk (by omega) (by omega)) ?_
    refine w_il3 hC dX4_swaps_89 ?_
    refine w_iastk hC 127 (28 + k.toNat) dX4_swaps_90 rfl rfl (by omega) (by omega) ?_
    have e4 : ∀ q, up (up w2 40 (28 + j.toNat) (w 40 (28 + k.toNat))) 40 (28 + k.toNat) (w 40 (28 + j.toNat)) 40 q = (ua (ua (sKeep (w 40)) (28 + j.toNat) (w 40 (28 + k.toNat))) (28 + k.toNat) (w 40 (28 + j.toNat))) q := fun q => by
      unfold ua
      by_cases q1 : q = 28 + k.toNat
      · rw [q1, up_same, if_pos rfl]
      · rw [up_pl _ _ q1, if_neg q1]
        by_cases q2 : q = 28 + j.toNat
        · rw [q2, up_same, if_pos rfl]
        · rw [up_pl _ _ q2, if_neg q2, e2]
    have o4 : smN w (up (up w2 40 (28 + j.toNat) (w 40 (28 + k.toNat))) 40 (28 + k.toNat) (w 40 (28 + j.toNat))) := fun i k h => by rw [up_id _ _ h, up_id _ _ h]; exact o2 i k h
    generalize up (up w2 40 (28 + j.toNat) (w 40 (28 + k.toNat))) 40 (28 + k.toNat) (w 40 (28 + j.toNat)) = w4 at e4 o4 ⊢
    have e5 : w4 40 = (ua (ua (sKeep (w 40)) (28 + j.toNat) (w 40 (28 + k.toNat))) (28 + k.toNat) (w 40 (28 + j.toNat))) := funext e4
    have hA4 : AOK (w4 40) := by rw [e5]; exact ok_swaps hA g1 g2 hjk
    refine w_al0 hC dX4_swaps_91 ?_
    refine w_al0 hC dX4_swaps_92 ?_
    refine v_getR (off := 1) (j := 40) hC dX4_swaps_93 fd_X4_7 rfl rfl rfl ?_
    refine v_bipush hC dX4_swaps_96 (by decide) ?_
    refine w_vi2 hC vi_X4_184 rfl dX4_swaps_98 rfl hN (d_rightOnes hA4 (r := 40) (f := 28) rfl (by decide) (fun j9 h9 => by have h8 := hA4.ln.1 j9 (by have := hA4.m; omega); exact ⟨h8.1, h8.2.1⟩) ?_)
    rw [rt_rtL hA4, e5]
    refine v_iret hC hR dX4_swaps_101 ?_
    exact hk ⟨g1, g2, hjk⟩ hor w4 e4 o4
  refine w_al0 hC dX4_swaps_0 ?_
  refine w_il1 hC dX4_swaps_1 ?_
  refine w_vi1 hC vi_X4_174 rfl dX4_swaps_2 rfl hN (d_isLine hA (fun g1 => ?_) (fun g1 => ?_))
  · refine v_if_eq (tgt := 21) hC dX4_swaps_5 rfl (fun h => absurd h (by decide)) (fun _ => ?_)
    refine w_al0 hC dX4_swaps_8 ?_
    refine w_il2 hC dX4_swaps_9 ?_
    refine w_vi1 hC vi_X4_174 rfl dX4_swaps_10 rfl hN (d_isLine hA (fun g2 => ?_) (fun g2 => ?_))
    · refine v_if_eq (tgt := 21) hC dX4_swaps_13 rfl (fun h => absurd h (by decide)) (fun _ => ?_)
      refine w_il1 hC dX4_swaps_16 ?_
      refine w_il2 hC dX4_swaps_17 ?_
      refine v_ic_ne (tgt := 26) hC dX4_swaps_18 rfl (fun h18 => ?_) (fun h18 => ?_)
      · refine w_al0 hC dX4_swaps_26 ?_
        refine v_getR (off := 1) (j := 40) hC dX4_swaps_27 fd_X4_7 rfl rfl rfl ?_
        refine v_bipush hC dX4_swaps_30 (by decide) ?_
        refine w_il1 hC dX4_swaps_32 ?_
        refine w_iadd hC dX4_swaps_33 (ri_mk (by omega) (by omega)) ?_
        refine w_ialdk hC 127 (28 + j.toNat) dX4_swaps_34 rfl rfl (by omega) (by omega) ?_
        refine w_is3 hC dX4_swaps_35 hN (by first | rfl | assumption) ?_
        refine w_il3 hC dX4_swaps_36 ?_
        refine w_ic hC dX4_swaps_37 rfl ?_
        refine v_ic_ne (tgt := 59) hC dX4_swaps_38 rfl (fun h38 => ?_) (fun h38 => ?_)
        · exact tl59 g1 g2 (by omega) (by omega)
        · refine w_al0 hC dX4_swaps_41 ?_
          refine v_getR (off := 1) (j := 40) hC dX4_swaps_42 fd_X4_7 rfl rfl rfl ?_
          refine v_bipush hC dX4_swaps_45 (by decide) ?_
          refine w_il2 hC dX4_swaps_47 ?_
          refine w_iadd hC dX4_swaps_48 (ri_mk (by omega) (by omega)) ?_
          refine w_ialdk hC 127 (28 + k.toNat) dX4_swaps_49 rfl rfl (by omega) (by omega) ?_
          refine w_ic hC dX4_swaps_50 rfl ?_
          refine v_ic_ne (tgt := 59) hC dX4_swaps_51 rfl (fun h51 => ?_) (fun h51 => ?_)
          · exact tl59 g1 g2 (by omega) (by omega)
          · refine w_al0 hC dX4_swaps_54 ?_
            refine w_vi0 hC vi_X4_68 rfl dX4_swaps_55 rfl hN (d_no ?_)
            refine v_iret hC hR dX4_swaps_58 ?_
            exact hn0 ⟨g1, g2, by omega⟩ (by omega)
      · refine w_al0 hC dX4_swaps_21 ?_
        refine w_vi0 hC vi_X4_60 rfl dX4_swaps_22 rfl hN (d_bad ?_)
        refine v_iret hC hR dX4_swaps_25 ?_
        exact hb0 (by omega)
    · refine v_if_eq (tgt := 21) hC dX4_swaps_13 rfl (fun _ => ?_) (fun h => absurd h (by decide))
      refine w_al0 hC dX4_swaps_21 ?_
      refine w_vi0 hC vi_X4_60 rfl dX4_swaps_22 rfl hN (d_bad ?_)
      refine v_iret hC hR dX4_swaps_25 ?_
      exact hb0 (by omega)
  · refine v_if_eq (tgt := 21) hC dX4_swaps_5 rfl (fun _ => ?_) (fun h => absurd h (by decide))
    refine w_al0 hC dX4_swaps_21 ?_
    refine w_vi0 hC vi_X4_60 rfl dX4_swaps_22 rfl hN (d_bad ?_)
    refine v_iret hC hR dX4_swaps_25 ?_
    exact hb0 (by omega)

theorem d_undo {d : Nat} {w : Wd} {Q : Option MV → Wd → Prop} (hA : AOK (w 40)) (hn0 : w 40 78 = 0 → Q (some (.inl (-3))) (cI w 44 1)) (hk : 0 < w 40 78 → ∀ w2, (∀ q, w2 40 q = sUndo (w 40) q) → smN w w2 → Q (some (.inl (rtL (sUndo (w 40))))) w2) : Call (d + 6) mX4_undo [vR 39] w Q := by
  have am := hA.m
  have an := hA.n
  have af := hA.f
  have anc := hA.nc
  have amc := hA.mc
  have auc := hA.uc
  refine call_in (ls := [some (vR 39)]) (by decide +kernel) rfl (Nat.le_of_ble_eq_true rfl) (fun κ hC hR hN => ?_)
  have hC : ctxB κ RX4 cX4_undo (d + 6) := hC
  have hN : mlx κ 1 := hN
  refine w_al0 hC dX4_undo_0 ?_
  refine v_getR (off := 1) (j := 40) hC dX4_undo_1 fd_X4_7 rfl rfl rfl ?_
  refine v_bipush hC dX4_undo_4 (by decide) ?_
  refine w_ialdk hC 127 (78) dX4_undo_6 rfl rfl (by omega) (by omega) ?_
  refine v_if_ne (tgt := 15) hC dX4_undo_7 rfl (fun h7 => ?_) (fun h7 => ?_)
  · obtain ⟨c, hc⟩ := Int.eq_ofNat_of_zero_le (show 0 ≤ w 40 78 - 1 by omega)
    refine w_al0 hC dX4_undo_15 ?_
    refine v_getR (off := 1) (j := 40) hC dX4_undo_16 fd_X4_7 rfl rfl rfl ?_
    refine v_bipush hC dX4_undo_19 (by decide) ?_
    refine v_dup2 hC dX4_undo_21 rfl rfl ?_
    refine w_ialdk hC 127 (78) dX4_undo_22 rfl rfl (by omega) (by omega) ?_
    refine w_ic hC dX4_undo_23 rfl ?_
    refine w_isub hC dX4_undo_24 (ri_mk (by omega) (by omega)) ?_
    rw [hc]
    refine w_iastk hC 127 (78) dX4_undo_25 rfl rfl (by omega) (by omega) ?_
    refine w_al0 hC dX4_undo_26 ?_
    refine v_getR (off := 1) (j := 40) hC dX4_undo_27 fd_X4_7 rfl rfl rfl ?_
    refine v_bipush hC dX4_undo_30 (by decide) ?_
    refine v_bipush hC dX4_undo_32 (by decide) ?_
    refine w_al0 hC dX4_undo_34 ?_
    refine v_getR (off := 1) (j := 40) hC dX4_undo_35 fd_X4_7 rfl rfl rfl ?_
    refine v_bipush hC dX4_undo_38 (by decide) ?_
    refine w_ialdk hC 127 (78) dX4_undo_40 rfl rfl (by omega) (by omega) ?_
    rw [up_same]
    refine w_imul hC dX4_undo_41 (ri_mk (by omega) (by omega)) ?_
    rw [show (6 : Int) * (c : Int) = ((6 * c : Nat) : Int) by omega]
    refine w_iadd hC dX4_undo_42 (ri_mk (by omega) (by omega)) ?_
    rw [show (79 : Int) + ((6 * c : Nat) : Int) = ((79 + 6 * c : Nat) : Int) by omega]
    refine w_al0 hC dX4_undo_43 ?_
    refine v_getR (off := 1) (j := 40) hC dX4_undo_44 fd_X4_7 rfl rfl rfl ?_
    refine v_bipush hC dX4_undo_47 (by decide) ?_
    refine v_bipush hC dX4_undo_49 (by decide) ?_
    refine w_st5 hC st_X4_148 dX4_undo_51 rfl hN (d_bring (x := 40) (y := 40) (i := 79 + 6 * c) (j := 28) (n := 6) rfl rfl (show 79 + 6 * c + 6 ≤ 127 by omega) (by decide) (Or.inr (Or.inl (by omega))) (fun w3 b3 o3 => ?_))
    have e4 : ∀ q, w3 40 q = sUndo (w 40) q := fun q => by
      unfold sUndo
      rw [hc, show ((c : Nat) : Int).toNat = c from rfl]
      by_cases q1 : q = 78
      · subst q1; rw [o3 40 78 (by omega), up_same, if_pos rfl]
      · rw [if_neg q1]
        by_cases q2 : 28 ≤ q ∧ q < 34
        · rw [if_pos q2]
          have := b3 (q - 28) (by omega)
          rw [show 28 + (q - 28) = q by omega, up_pl _ _ (by omega)] at this
          exact this
        · rw [if_neg q2, o3 40 q (by omega), up_pl _ _ q1]
    have o4 : smN w w3 := fun i k h => by rw [o3 i k (by omega), up_id _ _ h]
    have e5 : w3 40 = sUndo (w 40) := funext e4
    have hA4 : AOK (w3 40) := by rw [e5]; exact ok_undo hA (by omega)
    refine w_al0 hC dX4_undo_54 ?_
    refine w_al0 hC dX4_undo_55 ?_
    refine v_getR (off := 1) (j := 40) hC dX4_undo_56 fd_X4_7 rfl rfl rfl ?_
    refine v_bipush hC dX4_undo_59 (by decide) ?_
    refine w_vi2 hC vi_X4_184 rfl dX4_undo_61 rfl hN (d_rightOnes hA4 (r := 40) (f := 28) rfl (by decide) (fun j9 h9 => by have h8 := hA4.ln.1 j9 (by have := hA4.m; omega); exact ⟨h8.1, h8.2.1⟩) ?_)
    rw [rt_rtL hA4, e5]
    refine v_iret hC hR dX4_undo_64 ?_
    exact hk (by omega) w3 e4 o4
  · refine w_al0 hC dX4_undo_10 ?_
    refine w_vi0 hC vi_X4_68 rfl dX4_undo_11 rfl hN (d_no ?_)
    refine v_iret hC hR dX4_undo_14 ?_
    exact hn0 (by omega)
