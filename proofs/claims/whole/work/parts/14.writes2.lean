theorem c_addNote {d : Nat} {w : Wd} {Q : Option MV → Wd → Prop} {b : Nat} {a : Nat → Int} (hb : vb b) (hv : VX w b a) {n j x : Int} (hn : 0 ≤ a 34 ∧ a 34 < 6) (h3 : 0 ≤ a 3 ∧ a 3 ≤ 8) (h53 : 0 ≤ a 53 ∧ a 53 ≤ 6) (h78 : 0 ≤ a 78 ∧ a 78 ≤ 8) (hQ : ∀ w2, VX w2 b (sNote a n j x) → smB w w2 b → Q none w2) : Call (d + 1) mX2_addNote [vR b, vI n, vI j, vI x] w Q := by
  obtain ⟨kd0, kd1, kd2, kd3, kd4, kd5, kd6, kd7⟩ := kdV hb
  obtain ⟨sz1, sz2, sz3, sz4, sz5, sz6, sz7⟩ := szV hb
  obtain ⟨⟨x0, x1, x2, x3, x4, x5, x6⟩, xw, xl, xn, xm, xu⟩ := hv
  have u1 : ∀ (w : Wd) (k : Nat) (z : Int) (j : Nat), up w (b + 1) k z b j = w b j := fun w k z j => up_id _ _ (by omega)
  have u2 : ∀ (w : Wd) (k : Nat) (z : Int) (j : Nat), up w (b + 2) k z b j = w b j := fun w k z j => up_id _ _ (by omega)
  have u3 : ∀ (w : Wd) (k : Nat) (z : Int) (j : Nat), up w (b + 3) k z b j = w b j := fun w k z j => up_id _ _ (by omega)
  have u4 : ∀ (w : Wd) (k : Nat) (z : Int) (j : Nat), up w (b + 4) k z b j = w b j := fun w k z j => up_id _ _ (by omega)
  have u5 : ∀ (w : Wd) (k : Nat) (z : Int) (j : Nat), up w (b + 5) k z b j = w b j := fun w k z j => up_id _ _ (by omega)
  have u6 : ∀ (w : Wd) (k : Nat) (z : Int) (j : Nat), up w (b + 6) k z b j = w b j := fun w k z j => up_id _ _ (by omega)
  have u7 : ∀ (w : Wd) (k : Nat) (z : Int) (j : Nat), up w (b + 7) k z b j = w b j := fun w k z j => up_id _ _ (by omega)
  obtain ⟨m, hm⟩ := Int.eq_ofNat_of_zero_le hn.1
  refine call_in (ls := [some (vR b), some (vI n), some (vI j), some (vI x), none]) (by decide +kernel) rfl (Nat.le_of_ble_eq_true rfl) (fun κ hC hR hN => ?_)
  have hC : ctxB κ RX2 cX2_addNote (d + 1) := hC
  have hN : mlx κ 5 := hN
  refine w_al0 hC dX2_addNote_0 ?_
  refine v_getI hC dX2_addNote_1 fd_X2_52 kd0 rfl ?_
  rw [x4, hm]
  refine w_ic hC dX2_addNote_4 rfl ?_
  refine w_imul hC dX2_addNote_5 (ri_mk (by omega) (by omega)) ?_
  rw [show (m : Int) * 3 = ((3 * m : Nat) : Int) by omega]
  refine w_is4 hC dX2_addNote_6 hN (by first | rfl | assumption) ?_
  refine w_al0 hC dX2_addNote_8 ?_
  refine v_getR (off := 5) (j := b + 5) hC dX2_addNote_9 fd_X2_28 kd0 rfl rfl ?_
  refine w_il4 hC dX2_addNote_12 ?_
  refine w_il1 hC dX2_addNote_14 ?_
  refine w_sn3 hC sn_X2_83 dX2_addNote_15 rfl hN (c_set kd5 ?_)
  rw [stV_n _ (by omega)]
  refine w_al0 hC dX2_addNote_18 ?_
  refine v_getR (off := 5) (j := b + 5) hC dX2_addNote_19 fd_X2_28 kd0 rfl rfl ?_
  refine w_il4 hC dX2_addNote_22 ?_
  refine w_ic hC dX2_addNote_24 rfl ?_
  refine w_iadd hC dX2_addNote_25 (ri_mk (by omega) (by omega)) ?_
  rw [show ((3 * m : Nat) : Int) + 1 = ((3 * m + 1 : Nat) : Int) by omega]
  refine w_il2 hC dX2_addNote_26 ?_
  refine w_sn3 hC sn_X2_83 dX2_addNote_27 rfl hN (c_set kd5 ?_)
  rw [stV_n _ (by omega)]
  refine w_al0 hC dX2_addNote_30 ?_
  refine v_getR (off := 5) (j := b + 5) hC dX2_addNote_31 fd_X2_28 kd0 rfl rfl ?_
  refine w_il4 hC dX2_addNote_34 ?_
  refine w_ic hC dX2_addNote_36 rfl ?_
  refine w_iadd hC dX2_addNote_37 (ri_mk (by omega) (by omega)) ?_
  rw [show ((3 * m : Nat) : Int) + 2 = ((3 * m + 2 : Nat) : Int) by omega]
  refine w_il3 hC dX2_addNote_38 ?_
  refine w_sn3 hC sn_X2_83 dX2_addNote_39 rfl hN (c_set kd5 ?_)
  rw [stV_n _ (by omega)]
  refine w_al0 hC dX2_addNote_42 ?_
  refine v_dup hC dX2_addNote_43 rfl ?_
  refine v_getI hC dX2_addNote_44 fd_X2_52 kd0 rfl ?_
  rw [u5, u5, u5, x4, hm]
  refine w_ic hC dX2_addNote_47 rfl ?_
  refine w_iadd hC dX2_addNote_48 (ri_mk (by omega) (by omega)) ?_
  refine v_putI hC dX2_addNote_49 fp_X2_52 kd0 rfl ?_
  refine v_vret hC hR dX2_addNote_52 ?_
  refine hQ _ ?_ (fun i k hi => ?_)
  · refine ⟨⟨?_, ?_, ?_, ?_, ?_, ?_, ?_⟩, fun k hk => ?_, fun j9 hj => ?_, fun k hk => ?_, fun k hk => ?_, fun k hk => ?_⟩
    · (simp only [sNote, ua, up, hm, Int.toNat_natCast, Nat.add_eq_left, Nat.left_eq_add, Nat.add_left_cancel_iff, true_and, and_true, false_and, and_false, if_true, if_false, reduceIte, and_self, not_true_eq_false, not_false_eq_true]; (try simp (disch := omega) only [if_neg, if_pos]); all_goals ((repeat' split) <;> omega))
    · (simp only [sNote, ua, up, hm, Int.toNat_natCast, Nat.add_eq_left, Nat.left_eq_add, Nat.add_left_cancel_iff, true_and, and_true, false_and, and_false, if_true, if_false, reduceIte, and_self, not_true_eq_false, not_false_eq_true]; (try simp (disch := omega) only [if_neg, if_pos]); all_goals ((repeat' split) <;> omega))
    · (simp only [sNote, ua, up, hm, Int.toNat_natCast, Nat.add_eq_left, Nat.left_eq_add, Nat.add_left_cancel_iff, true_and, and_true, false_and, and_false, if_true, if_false, reduceIte, and_self, not_true_eq_false, not_false_eq_true]; (try simp (disch := omega) only [if_neg, if_pos]); all_goals ((repeat' split) <;> omega))
    · (simp only [sNote, ua, up, hm, Int.toNat_natCast, Nat.add_eq_left, Nat.left_eq_add, Nat.add_left_cancel_iff, true_and, and_true, false_and, and_false, if_true, if_false, reduceIte, and_self, not_true_eq_false, not_false_eq_true]; (try simp (disch := omega) only [if_neg, if_pos]); all_goals ((repeat' split) <;> omega))
    · (simp only [sNote, ua, up, hm, Int.toNat_natCast, Nat.add_eq_left, Nat.left_eq_add, Nat.add_left_cancel_iff, true_and, and_true, false_and, and_false, if_true, if_false, reduceIte, and_self, not_true_eq_false, not_false_eq_true]; (try simp (disch := omega) only [if_neg, if_pos]); all_goals ((repeat' split) <;> omega))
    · (simp only [sNote, ua, up, hm, Int.toNat_natCast, Nat.add_eq_left, Nat.left_eq_add, Nat.add_left_cancel_iff, true_and, and_true, false_and, and_false, if_true, if_false, reduceIte, and_self, not_true_eq_false, not_false_eq_true]; (try simp (disch := omega) only [if_neg, if_pos]); all_goals ((repeat' split) <;> omega))
    · (simp only [sNote, ua, up, hm, Int.toNat_natCast, Nat.add_eq_left, Nat.left_eq_add, Nat.add_left_cancel_iff, true_and, and_true, false_and, and_false, if_true, if_false, reduceIte, and_self, not_true_eq_false, not_false_eq_true]; (try simp (disch := omega) only [if_neg, if_pos]); all_goals ((repeat' split) <;> omega))
    · rw [show (sNote a n j x) 3 = a 3 by simp only [sNote, ua, up, hm, Int.toNat_natCast, Nat.add_eq_left, Nat.left_eq_add, Nat.add_left_cancel_iff, true_and, and_true, false_and, and_false, if_true, if_false, reduceIte, and_self, not_true_eq_false, not_false_eq_true]; (try simp (disch := omega) only [if_neg, if_pos]); try ((repeat' split) <;> omega)] at hk
      have h9 := xw k (by omega)
      refine ⟨?_, ?_, ?_⟩ <;> (simp only [sNote, ua, up, hm, Int.toNat_natCast, Nat.add_eq_left, Nat.left_eq_add, Nat.add_left_cancel_iff, true_and, and_true, false_and, and_false, if_true, if_false, reduceIte, and_self, not_true_eq_false, not_false_eq_true]; (try simp (disch := omega) only [if_neg, if_pos]); all_goals ((repeat' split) <;> omega))
    · have h9 := xl j9 hj
      (simp only [sNote, ua, up, hm, Int.toNat_natCast, Nat.add_eq_left, Nat.left_eq_add, Nat.add_left_cancel_iff, true_and, and_true, false_and, and_false, if_true, if_false, reduceIte, and_self, not_true_eq_false, not_false_eq_true]; (try simp (disch := omega) only [if_neg, if_pos]); all_goals ((repeat' split) <;> omega))
    · rw [show (sNote a n j x) 34 = (m : Int) + 1 by simp only [sNote, ua, up, hm, Int.toNat_natCast, Nat.add_eq_left, Nat.left_eq_add, Nat.add_left_cancel_iff, true_and, and_true, false_and, and_false, if_true, if_false, reduceIte, and_self, not_true_eq_false, not_false_eq_true]; (try simp (disch := omega) only [if_neg, if_pos]); try ((repeat' split) <;> omega)] at hk
      by_cases q : k < 3 * m
      · have h9 := xn k (by omega)
        (simp only [sNote, ua, up, hm, Int.toNat_natCast, Nat.add_eq_left, Nat.left_eq_add, Nat.add_left_cancel_iff, true_and, and_true, false_and, and_false, if_true, if_false, reduceIte, and_self, not_true_eq_false, not_false_eq_true]; (try simp (disch := omega) only [if_neg, if_pos]); all_goals ((repeat' split) <;> omega))
      · (simp only [sNote, ua, up, hm, Int.toNat_natCast, Nat.add_eq_left, Nat.left_eq_add, Nat.add_left_cancel_iff, true_and, and_true, false_and, and_false, if_true, if_false, reduceIte, and_self, not_true_eq_false, not_false_eq_true]; (try simp (disch := omega) only [if_neg, if_pos]); all_goals ((repeat' split) <;> omega))
    · rw [show (sNote a n j x) 53 = a 53 by simp only [sNote, ua, up, hm, Int.toNat_natCast, Nat.add_eq_left, Nat.left_eq_add, Nat.add_left_cancel_iff, true_and, and_true, false_and, and_false, if_true, if_false, reduceIte, and_self, not_true_eq_false, not_false_eq_true]; (try simp (disch := omega) only [if_neg, if_pos]); try ((repeat' split) <;> omega)] at hk
      have h9 := xm k (by omega)
      (simp only [sNote, ua, up, hm, Int.toNat_natCast, Nat.add_eq_left, Nat.left_eq_add, Nat.add_left_cancel_iff, true_and, and_true, false_and, and_false, if_true, if_false, reduceIte, and_self, not_true_eq_false, not_false_eq_true]; (try simp (disch := omega) only [if_neg, if_pos]); all_goals ((repeat' split) <;> omega))
    · rw [show (sNote a n j x) 78 = a 78 by simp only [sNote, ua, up, hm, Int.toNat_natCast, Nat.add_eq_left, Nat.left_eq_add, Nat.add_left_cancel_iff, true_and, and_true, false_and, and_false, if_true, if_false, reduceIte, and_self, not_true_eq_false, not_false_eq_true]; (try simp (disch := omega) only [if_neg, if_pos]); try ((repeat' split) <;> omega)] at hk
      have h9 := xu k (by omega)
      (simp only [sNote, ua, up, hm, Int.toNat_natCast, Nat.add_eq_left, Nat.left_eq_add, Nat.add_left_cancel_iff, true_and, and_true, false_and, and_false, if_true, if_false, reduceIte, and_self, not_true_eq_false, not_false_eq_true]; (try simp (disch := omega) only [if_neg, if_pos]); all_goals ((repeat' split) <;> omega))
  · simp only [up]
    rw [if_neg (by omega), if_neg (by omega), if_neg (by omega), if_neg (by omega)]

theorem c_addMark {d : Nat} {w : Wd} {Q : Option MV → Wd → Prop} {b : Nat} {a : Nat → Int} (hb : vb b) (hv : VX w b a) {wd n j x : Int} (hn : 0 ≤ a 53 ∧ a 53 < 6) (h3 : 0 ≤ a 3 ∧ a 3 ≤ 8) (h34 : 0 ≤ a 34 ∧ a 34 ≤ 6) (h78 : 0 ≤ a 78 ∧ a 78 ≤ 8) (hQ : ∀ w2, VX w2 b (sMark a wd n j x) → smB w w2 b → Q none w2) : Call (d + 1) mX2_addMark [vR b, vI wd, vI n, vI j, vI x] w Q := by
  obtain ⟨kd0, kd1, kd2, kd3, kd4, kd5, kd6, kd7⟩ := kdV hb
  obtain ⟨sz1, sz2, sz3, sz4, sz5, sz6, sz7⟩ := szV hb
  obtain ⟨⟨x0, x1, x2, x3, x4, x5, x6⟩, xw, xl, xn, xm, xu⟩ := hv
  have u1 : ∀ (w : Wd) (k : Nat) (z : Int) (j : Nat), up w (b + 1) k z b j = w b j := fun w k z j => up_id _ _ (by omega)
  have u2 : ∀ (w : Wd) (k : Nat) (z : Int) (j : Nat), up w (b + 2) k z b j = w b j := fun w k z j => up_id _ _ (by omega)
  have u3 : ∀ (w : Wd) (k : Nat) (z : Int) (j : Nat), up w (b + 3) k z b j = w b j := fun w k z j => up_id _ _ (by omega)
  have u4 : ∀ (w : Wd) (k : Nat) (z : Int) (j : Nat), up w (b + 4) k z b j = w b j := fun w k z j => up_id _ _ (by omega)
  have u5 : ∀ (w : Wd) (k : Nat) (z : Int) (j : Nat), up w (b + 5) k z b j = w b j := fun w k z j => up_id _ _ (by omega)
  have u6 : ∀ (w : Wd) (k : Nat) (z : Int) (j : Nat), up w (b + 6) k z b j = w b j := fun w k z j => up_id _ _ (by omega)
  have u7 : ∀ (w : Wd) (k : Nat) (z : Int) (j : Nat), up w (b + 7) k z b j = w b j := fun w k z j => up_id _ _ (by omega)
  obtain ⟨m, hm⟩ := Int.eq_ofNat_of_zero_le hn.1
  refine call_in (ls := [some (vR b), some (vI wd), some (vI n), some (vI j), some (vI x), none]) (by decide +kernel) rfl (Nat.le_of_ble_eq_true rfl) (fun κ hC hR hN => ?_)
  have hC : ctxB κ RX2 cX2_addMark (d + 1) := hC
  have hN : mlx κ 6 := hN
  refine w_al0 hC dX2_addMark_0 ?_
  refine v_getI hC dX2_addMark_1 fd_X2_55 kd0 rfl ?_
  rw [x5, hm]
  refine w_ic hC dX2_addMark_4 rfl ?_
  refine w_imul hC dX2_addMark_5 (ri_mk (by omega) (by omega)) ?_
  rw [show (m : Int) * 4 = ((4 * m : Nat) : Int) by omega]
  refine w_is5 hC dX2_addMark_6 hN (by first | rfl | assumption) ?_
  refine w_al0 hC dX2_addMark_8 ?_
  refine v_getR (off := 6) (j := b + 6) hC dX2_addMark_9 fd_X2_31 kd0 rfl rfl ?_
  refine w_il5 hC dX2_addMark_12 ?_
  refine w_il1 hC dX2_addMark_14 ?_
  refine w_sn3 hC sn_X2_83 dX2_addMark_15 rfl hN (c_set kd6 ?_)
  rw [stV_n _ (by omega)]
  refine w_al0 hC dX2_addMark_18 ?_
  refine v_getR (off := 6) (j := b + 6) hC dX2_addMark_19 fd_X2_31 kd0 rfl rfl ?_
  refine w_il5 hC dX2_addMark_22 ?_
  refine w_ic hC dX2_addMark_24 rfl ?_
  refine w_iadd hC dX2_addMark_25 (ri_mk (by omega) (by omega)) ?_
  rw [show ((4 * m : Nat) : Int) + 1 = ((4 * m + 1 : Nat) : Int) by omega]
  refine w_il2 hC dX2_addMark_26 ?_
  refine w_sn3 hC sn_X2_83 dX2_addMark_27 rfl hN (c_set kd6 ?_)
  rw [stV_n _ (by omega)]
  refine w_al0 hC dX2_addMark_30 ?_
  refine v_getR (off := 6) (j := b + 6) hC dX2_addMark_31 fd_X2_31 kd0 rfl rfl ?_
  refine w_il5 hC dX2_addMark_34 ?_
  refine w_ic hC dX2_addMark_36 rfl ?_
  refine w_iadd hC dX2_addMark_37 (ri_mk (by omega) (by omega)) ?_
  rw [show ((4 * m : Nat) : Int) + 2 = ((4 * m + 2 : Nat) : Int) by omega]
  refine w_il3 hC dX2_addMark_38 ?_
  refine w_sn3 hC sn_X2_83 dX2_addMark_39 rfl hN (c_set kd6 ?_)
  rw [stV_n _ (by omega)]
  refine w_al0 hC dX2_addMark_42 ?_
  refine v_getR (off := 6) (j := b + 6) hC dX2_addMark_43 fd_X2_31 kd0 rfl rfl ?_
  refine w_il5 hC dX2_addMark_46 ?_
  refine w_ic hC dX2_addMark_48 rfl ?_
  refine w_iadd hC dX2_addMark_49 (ri_mk (by omega) (by omega)) ?_
  rw [show ((4 * m : Nat) : Int) + 3 = ((4 * m + 3 : Nat) : Int) by omega]
  refine w_il4 hC dX2_addMark_50 ?_
  refine w_sn3 hC sn_X2_83 dX2_addMark_52 rfl hN (c_set kd6 ?_)
  rw [stV_n _ (by omega)]
  refine w_al0 hC dX2_addMark_55 ?_
  refine v_dup hC dX2_addMark_56 rfl ?_
  refine v_getI hC dX2_addMark_57 fd_X2_55 kd0 rfl ?_
  rw [u6, u6, u6, u6, x5, hm]
  refine w_ic hC dX2_addMark_60 rfl ?_
  refine w_iadd hC dX2_addMark_61 (ri_mk (by omega) (by omega)) ?_
  refine v_putI hC dX2_addMark_62 fp_X2_55 kd0 rfl ?_
  refine v_vret hC hR dX2_addMark_65 ?_
  refine hQ _ ?_ (fun i k hi => ?_)
  · refine ⟨⟨?_, ?_, ?_, ?_, ?_, ?_, ?_⟩, fun k hk => ?_, fun j9 hj => ?_, fun k hk => ?_, fun k hk => ?_, fun k hk => ?_⟩
    · (simp only [sMark, ua, up, hm, Int.toNat_natCast, Nat.add_eq_left, Nat.left_eq_add, Nat.add_left_cancel_iff, true_and, and_true, false_and, and_false, if_true, if_false, reduceIte, and_self, not_true_eq_false, not_false_eq_true]; (try simp (disch := omega) only [if_neg, if_pos]); all_goals ((repeat' split) <;> omega))
    · (simp only [sMark, ua, up, hm, Int.toNat_natCast, Nat.add_eq_left, Nat.left_eq_add, Nat.add_left_cancel_iff, true_and, and_true, false_and, and_false, if_true, if_false, reduceIte, and_self, not_true_eq_false, not_false_eq_true]; (try simp (disch := omega) only [if_neg, if_pos]); all_goals ((repeat' split) <;> omega))
    · (simp only [sMark, ua, up, hm, Int.toNat_natCast, Nat.add_eq_left, Nat.left_eq_add, Nat.add_left_cancel_iff, true_and, and_true, false_and, and_false, if_true, if_false, reduceIte, and_self, not_true_eq_false, not_false_eq_true]; (try simp (disch := omega) only [if_neg, if_pos]); all_goals ((repeat' split) <;> omega))
    · (simp only [sMark, ua, up, hm, Int.toNat_natCast, Nat.add_eq_left, Nat.left_eq_add, Nat.add_left_cancel_iff, true_and, and_true, false_and, and_false, if_true, if_false, reduceIte, and_self, not_true_eq_false, not_false_eq_true]; (try simp (disch := omega) only [if_neg, if_pos]); all_goals ((repeat' split) <;> omega))
    · (simp only [sMark, ua, up, hm, Int.toNat_natCast, Nat.add_eq_left, Nat.left_eq_add, Nat.add_left_cancel_iff, true_and, and_true, false_and, and_false, if_true, if_false, reduceIte, and_self, not_true_eq_false, not_false_eq_true]; (try simp (disch := omega) only [if_neg, if_pos]); all_goals ((repeat' split) <;> omega))
    · (simp only [sMark, ua, up, hm, Int.toNat_natCast, Nat.add_eq_left, Nat.left_eq_add, Nat.add_left_cancel_iff, true_and, and_true, false_and, and_false, if_true, if_false, reduceIte, and_self, not_true_eq_false, not_false_eq_true]; (try simp (disch := omega) only [if_neg, if_pos]); all_goals ((repeat' split) <;> omega))
    · (simp only [sMark, ua, up, hm, Int.toNat_natCast, Nat.add_eq_left, Nat.left_eq_add, Nat.add_left_cancel_iff, true_and, and_true, false_and, and_false, if_true, if_false, reduceIte, and_self, not_true_eq_false, not_false_eq_true]; (try simp (disch := omega) only [if_neg, if_pos]); all_goals ((repeat' split) <;> omega))
    · rw [show (sMark a wd n j x) 3 = a 3 by simp only [sMark, ua, up, hm, Int.toNat_natCast, Nat.add_eq_left, Nat.left_eq_add, Nat.add_left_cancel_iff, true_and, and_true, false_and, and_false, if_true, if_false, reduceIte, and_self, not_true_eq_false, not_false_eq_true]; (try simp (disch := omega) only [if_neg, if_pos]); try ((repeat' split) <;> omega)] at hk
      have h9 := xw k (by omega)
      refine ⟨?_, ?_, ?_⟩ <;> (simp only [sMark, ua, up, hm, Int.toNat_natCast, Nat.add_eq_left, Nat.left_eq_add, Nat.add_left_cancel_iff, true_and, and_true, false_and, and_false, if_true, if_false, reduceIte, and_self, not_true_eq_false, not_false_eq_true]; (try simp (disch := omega) only [if_neg, if_pos]); all_goals ((repeat' split) <;> omega))
    · have h9 := xl j9 hj
      (simp only [sMark, ua, up, hm, Int.toNat_natCast, Nat.add_eq_left, Nat.left_eq_add, Nat.add_left_cancel_iff, true_and, and_true, false_and, and_false, if_true, if_false, reduceIte, and_self, not_true_eq_false, not_false_eq_true]; (try simp (disch := omega) only [if_neg, if_pos]); all_goals ((repeat' split) <;> omega))
    · rw [show (sMark a wd n j x) 34 = a 34 by simp only [sMark, ua, up, hm, Int.toNat_natCast, Nat.add_eq_left, Nat.left_eq_add, Nat.add_left_cancel_iff, true_and, and_true, false_and, and_false, if_true, if_false, reduceIte, and_self, not_true_eq_false, not_false_eq_true]; (try simp (disch := omega) only [if_neg, if_pos]); try ((repeat' split) <;> omega)] at hk
      have h9 := xn k (by omega)
      (simp only [sMark, ua, up, hm, Int.toNat_natCast, Nat.add_eq_left, Nat.left_eq_add, Nat.add_left_cancel_iff, true_and, and_true, false_and, and_false, if_true, if_false, reduceIte, and_self, not_true_eq_false, not_false_eq_true]; (try simp (disch := omega) only [if_neg, if_pos]); all_goals ((repeat' split) <;> omega))
    · rw [show (sMark a wd n j x) 53 = (m : Int) + 1 by simp only [sMark, ua, up, hm, Int.toNat_natCast, Nat.add_eq_left, Nat.left_eq_add, Nat.add_left_cancel_iff, true_and, and_true, false_and, and_false, if_true, if_false, reduceIte, and_self, not_true_eq_false, not_false_eq_true]; (try simp (disch := omega) only [if_neg, if_pos]); try ((repeat' split) <;> omega)] at hk
      by_cases q : k < 4 * m
      · have h9 := xm k (by omega)
        (simp only [sMark, ua, up, hm, Int.toNat_natCast, Nat.add_eq_left, Nat.left_eq_add, Nat.add_left_cancel_iff, true_and, and_true, false_and, and_false, if_true, if_false, reduceIte, and_self, not_true_eq_false, not_false_eq_true]; (try simp (disch := omega) only [if_neg, if_pos]); all_goals ((repeat' split) <;> omega))
      · (simp only [sMark, ua, up, hm, Int.toNat_natCast, Nat.add_eq_left, Nat.left_eq_add, Nat.add_left_cancel_iff, true_and, and_true, false_and, and_false, if_true, if_false, reduceIte, and_self, not_true_eq_false, not_false_eq_true]; (try simp (disch := omega) only [if_neg, if_pos]); all_goals ((repeat' split) <;> omega))
    · rw [show (sMark a wd n j x) 78 = a 78 by simp only [sMark, ua, up, hm, Int.toNat_natCast, Nat.add_eq_left, Nat.left_eq_add, Nat.add_left_cancel_iff, true_and, and_true, false_and, and_false, if_true, if_false, reduceIte, and_self, not_true_eq_false, not_false_eq_true]; (try simp (disch := omega) only [if_neg, if_pos]); try ((repeat' split) <;> omega)] at hk
      have h9 := xu k (by omega)
      (simp only [sMark, ua, up, hm, Int.toNat_natCast, Nat.add_eq_left, Nat.left_eq_add, Nat.add_left_cancel_iff, true_and, and_true, false_and, and_false, if_true, if_false, reduceIte, and_self, not_true_eq_false, not_false_eq_true]; (try simp (disch := omega) only [if_neg, if_pos]); all_goals ((repeat' split) <;> omega))
  · simp only [up]
    rw [if_neg (by omega), if_neg (by omega), if_neg (by omega), if_neg (by omega), if_neg (by omega)]

theorem c_begin {d : Nat} {w : Wd} {Q : Option MV → Wd → Prop} {b : Nat} {f m t : Int} (hb : vb b) (hQ : ∀ w2, VX w2 b (sBegin f m t) → smB w w2 b → Q none w2) : Call (d + 1) mX2_begin [vR b, vI f, vI m, vI t] w Q := by
  obtain ⟨kd0, kd1, kd2, kd3, kd4, kd5, kd6, kd7⟩ := kdV hb
  obtain ⟨sz1, sz2, sz3, sz4, sz5, sz6, sz7⟩ := szV hb
  refine call_in (ls := [some (vR b), some (vI f), some (vI m), some (vI t)]) (by decide +kernel) rfl (Nat.le_of_ble_eq_true rfl) (fun κ hC hR hN => ?_)
  have hC : ctxB κ RX2 cX2_begin (d + 1) := hC
  have hN : mlx κ 4 := hN
  refine w_al0 hC dX2_begin_0 ?_
  refine w_il1 hC dX2_begin_1 ?_
  refine v_putI hC dX2_begin_2 fp_X2_43 kd0 rfl ?_
  refine w_al0 hC dX2_begin_5 ?_
  refine w_il2 hC dX2_begin_6 ?_
  refine v_putI hC dX2_begin_7 fp_X2_9 kd0 rfl ?_
  refine w_al0 hC dX2_begin_10 ?_
  refine w_il3 hC dX2_begin_11 ?_
  refine v_putI hC dX2_begin_12 fp_X2_46 kd0 rfl ?_
  refine w_al0 hC dX2_begin_15 ?_
  refine w_ic hC dX2_begin_16 rfl ?_
  refine v_putI hC dX2_begin_17 fp_X2_49 kd0 rfl ?_
  refine w_al0 hC dX2_begin_20 ?_
  refine w_ic hC dX2_begin_21 rfl ?_
  refine v_putI hC dX2_begin_22 fp_X2_52 kd0 rfl ?_
  refine w_al0 hC dX2_begin_25 ?_
  refine w_ic hC dX2_begin_26 rfl ?_
  refine v_putI hC dX2_begin_27 fp_X2_55 kd0 rfl ?_
  refine w_al0 hC dX2_begin_30 ?_
  refine w_ic hC dX2_begin_31 rfl ?_
  refine v_putI hC dX2_begin_32 fp_X2_58 kd0 rfl ?_
  refine w_al0 hC dX2_begin_35 ?_
  refine v_getR (off := 4) (j := b + 4) hC dX2_begin_36 fd_X2_25 kd0 rfl rfl ?_
  refine w_ic hC dX2_begin_39 rfl ?_
  refine w_st2 hC st_X2_37 dX2_begin_40 rfl hN (c_fill kd4 (fun w2 h1 h2 => ?_))
  refine v_vret hC hR dX2_begin_43 ?_
  have g : ∀ j, w2 b j = (up (up (up (up (up (up (up w b 0 f) b 1 m) b 2 t) b 3 0) b 4 0) b 5 0) b 6 0) b j := fun j => h2 b j (by omega)
  refine hQ _ ?_ (fun i k hi => ?_)
  · refine ⟨⟨?_, ?_, ?_, ?_, ?_, ?_, ?_⟩, fun k hk => ?_, fun j hj => ?_, fun k hk => ?_, fun k hk => ?_, fun k hk => ?_⟩
    · rw [g]; simp [up, sBegin]
    · rw [g]; simp [up, sBegin]
    · rw [g]; simp [up, sBegin]
    · rw [g]; simp [up, sBegin]
    · rw [g]; simp [up, sBegin]
    · rw [g]; simp [up, sBegin]
    · rw [g]; simp [up, sBegin]
    · simp [sBegin] at hk; omega
    · rw [h1 j (by omega)]; simp only [sBegin]; (repeat' split) <;> omega
    · simp [sBegin] at hk; omega
    · simp [sBegin] at hk; omega
    · simp [sBegin] at hk; omega
  · rw [h2 i k (by omega)]
    simp only [up]
    rw [if_neg (by omega), if_neg (by omega), if_neg (by omega), if_neg (by omega), if_neg (by omega), if_neg (by omega), if_neg (by omega)]

theorem c_copyFrom {d : Nat} {w : Wd} {Q : Option MV → Wd → Prop} {b b2 : Nat} {a : Nat → Int} (hb : vb b) (hb2 : vb b2) (hne : b ≠ b2) (hv : VX w b2 a) (h3 : 0 ≤ a 3 ∧ a 3 ≤ 8) (h34 : 0 ≤ a 34 ∧ a 34 ≤ 6) (h53 : 0 ≤ a 53 ∧ a 53 ≤ 6) (h78 : 0 ≤ a 78 ∧ a 78 ≤ 8) (hQ : ∀ w2, VX w2 b a → smB w w2 b → Q none w2) : Call (d + 2) mX2_copyFrom [vR b, vR b2] w Q := by
  obtain ⟨kd0, kd1, kd2, kd3, kd4, kd5, kd6, kd7⟩ := kdV hb
  obtain ⟨ke0, ke1, ke2, ke3, ke4, ke5, ke6, ke7⟩ := kdV hb2
  obtain ⟨sz1, sz2, sz3, sz4, sz5, sz6, sz7⟩ := szV hb
  obtain ⟨se1, se2, se3, se4, se5, se6, se7⟩ := szV hb2
  obtain ⟨⟨x0, x1, x2, x3, x4, x5, x6⟩, xw, xl, xn, xm, xu⟩ := hv
  have hd : b + 8 ≤ b2 ∨ b2 + 8 ≤ b := by unfold vb at hb hb2; omega
  have ux : ∀ (w : Wd) (k : Nat) (z : Int) (j : Nat), up w b k z b2 j = w b2 j := fun w k z j => up_id _ _ (by omega)
  have uy1 : ∀ (w : Wd) (k : Nat) (z : Int) (j : Nat), up w b k z (b2 + 1) j = w (b2 + 1) j := fun w k z j => up_id _ _ (by omega)
  have uy2 : ∀ (w : Wd) (k : Nat) (z : Int) (j : Nat), up w b k z (b2 + 2) j = w (b2 + 2) j := fun w k z j => up_id _ _ (by omega)
  have uy3 : ∀ (w : Wd) (k : Nat) (z : Int) (j : Nat), up w b k z (b2 + 3) j = w (b2 + 3) j := fun w k z j => up_id _ _ (by omega)
  have uy4 : ∀ (w : Wd) (k : Nat) (z : Int) (j : Nat), up w b k z (b2 + 4) j = w (b2 + 4) j := fun w k z j => up_id _ _ (by omega)
  have uy5 : ∀ (w : Wd) (k : Nat) (z : Int) (j : Nat), up w b k z (b2 + 5) j = w (b2 + 5) j := fun w k z j => up_id _ _ (by omega)
  have uy6 : ∀ (w : Wd) (k : Nat) (z : Int) (j : Nat), up w b k z (b2 + 6) j = w (b2 + 6) j := fun w k z j => up_id _ _ (by omega)
  have uy7 : ∀ (w : Wd) (k : Nat) (z : Int) (j : Nat), up w b k z (b2 + 7) j = w (b2 + 7) j := fun w k z j => up_id _ _ (by omega)
  refine call_in (ls := [some (vR b), some (vR b2)]) (by decide +kernel) rfl (Nat.le_of_ble_eq_true rfl) (fun κ hC hR hN => ?_)
  have hC : ctxB κ RX2 cX2_copyFrom (d + 2) := hC
  have hN : mlx κ 2 := hN
  refine w_al0 hC dX2_copyFrom_0 ?_
  refine w_al1 hC dX2_copyFrom_1 ?_
  refine v_getI hC dX2_copyFrom_2 fd_X2_43 ke0 rfl ?_
  rw [x0]
  refine v_putI hC dX2_copyFrom_5 fp_X2_43 kd0 rfl ?_
  refine w_al0 hC dX2_copyFrom_8 ?_
  refine w_al1 hC dX2_copyFrom_9 ?_
  refine v_getI hC dX2_copyFrom_10 fd_X2_9 ke0 rfl ?_
  rw [ux, x1]
  refine v_putI hC dX2_copyFrom_13 fp_X2_9 kd0 rfl ?_
  refine w_al0 hC dX2_copyFrom_16 ?_
  refine w_al1 hC dX2_copyFrom_17 ?_
  refine v_getI hC dX2_copyFrom_18 fd_X2_46 ke0 rfl ?_
  rw [ux, ux, x2]
  refine v_putI hC dX2_copyFrom_21 fp_X2_46 kd0 rfl ?_
  refine w_al0 hC dX2_copyFrom_24 ?_
  refine w_al1 hC dX2_copyFrom_25 ?_
  refine v_getI hC dX2_copyFrom_26 fd_X2_49 ke0 rfl ?_
  rw [ux, ux, ux, x3]
  refine v_putI hC dX2_copyFrom_29 fp_X2_49 kd0 rfl ?_
  refine w_al0 hC dX2_copyFrom_32 ?_
  refine w_al1 hC dX2_copyFrom_33 ?_
  refine v_getI hC dX2_copyFrom_34 fd_X2_52 ke0 rfl ?_
  rw [ux, ux, ux, ux, x4]
  refine v_putI hC dX2_copyFrom_37 fp_X2_52 kd0 rfl ?_
  refine w_al0 hC dX2_copyFrom_40 ?_
  refine w_al1 hC dX2_copyFrom_41 ?_
  refine v_getI hC dX2_copyFrom_42 fd_X2_55 ke0 rfl ?_
  rw [ux, ux, ux, ux, ux, x5]
  refine v_putI hC dX2_copyFrom_45 fp_X2_55 kd0 rfl ?_
  refine w_al0 hC dX2_copyFrom_48 ?_
  refine w_al1 hC dX2_copyFrom_49 ?_
  refine v_getI hC dX2_copyFrom_50 fd_X2_58 ke0 rfl ?_
  rw [ux, ux, ux, ux, ux, ux, x6]
  refine v_putI hC dX2_copyFrom_53 fp_X2_58 kd0 rfl ?_
  refine w_al1 hC dX2_copyFrom_56 ?_
  refine v_getR (off := 1) (j := b2 + 1) hC dX2_copyFrom_57 fd_X2_15 ke0 rfl rfl ?_
  refine w_al0 hC dX2_copyFrom_60 ?_
  refine v_getR (off := 1) (j := b + 1) hC dX2_copyFrom_61 fd_X2_15 kd0 rfl rfl ?_
  refine w_sn2 hC sn_X2_61 dX2_copyFrom_64 rfl hN (c_copyRow (n := 8) ke1 kd1 se1 sz1 (by omega) (fun w1 c1 o1 => ?_))
  refine w_al1 hC dX2_copyFrom_67 ?_
  refine v_getR (off := 2) (j := b2 + 2) hC dX2_copyFrom_68 fd_X2_19 ke0 rfl rfl ?_
  refine w_al0 hC dX2_copyFrom_71 ?_
  refine v_getR (off := 2) (j := b + 2) hC dX2_copyFrom_72 fd_X2_19 kd0 rfl rfl ?_
  refine w_sn2 hC sn_X2_61 dX2_copyFrom_75 rfl hN (c_copyRow (n := 8) ke2 kd2 se2 sz2 (by omega) (fun w2 c2 o2 => ?_))
  refine w_al1 hC dX2_copyFrom_78 ?_
  refine v_getR (off := 3) (j := b2 + 3) hC dX2_copyFrom_79 fd_X2_22 ke0 rfl rfl ?_
  refine w_al0 hC dX2_copyFrom_82 ?_
  refine v_getR (off := 3) (j := b + 3) hC dX2_copyFrom_83 fd_X2_22 kd0 rfl rfl ?_
  refine w_sn2 hC sn_X2_61 dX2_copyFrom_86 rfl hN (c_copyRow (n := 8) ke3 kd3 se3 sz3 (by omega) (fun w3 c3 o3 => ?_))
  refine w_al1 hC dX2_copyFrom_89 ?_
  refine v_getR (off := 4) (j := b2 + 4) hC dX2_copyFrom_90 fd_X2_25 ke0 rfl rfl ?_
  refine w_al0 hC dX2_copyFrom_93 ?_
  refine v_getR (off := 4) (j := b + 4) hC dX2_copyFrom_94 fd_X2_25 kd0 rfl rfl ?_
  refine w_sn2 hC sn_X2_61 dX2_copyFrom_97 rfl hN (c_copyRow (n := 6) ke4 kd4 se4 sz4 (by omega) (fun w4 c4 o4 => ?_))
  refine w_al1 hC dX2_copyFrom_100 ?_
  refine v_getR (off := 5) (j := b2 + 5) hC dX2_copyFrom_101 fd_X2_28 ke0 rfl rfl ?_
  refine w_al0 hC dX2_copyFrom_104 ?_
  refine v_getR (off := 5) (j := b + 5) hC dX2_copyFrom_105 fd_X2_28 kd0 rfl rfl ?_
  refine w_sn2 hC sn_X2_61 dX2_copyFrom_108 rfl hN (c_copyRow (n := 18) ke5 kd5 se5 sz5 (by omega) (fun w5 c5 o5 => ?_))
  refine w_al1 hC dX2_copyFrom_111 ?_
  refine v_getR (off := 6) (j := b2 + 6) hC dX2_copyFrom_112 fd_X2_31 ke0 rfl rfl ?_
  refine w_al0 hC dX2_copyFrom_115 ?_
  refine v_getR (off := 6) (j := b + 6) hC dX2_copyFrom_116 fd_X2_31 kd0 rfl rfl ?_
  refine w_sn2 hC sn_X2_61 dX2_copyFrom_119 rfl hN (c_copyRow (n := 24) ke6 kd6 se6 sz6 (by omega) (fun w6 c6 o6 => ?_))
  refine w_al1 hC dX2_copyFrom_122 ?_
  refine v_getR (off := 7) (j := b2 + 7) hC dX2_copyFrom_123 fd_X2_34 ke0 rfl rfl ?_
  refine w_al0 hC dX2_copyFrom_126 ?_
  refine v_getR (off := 7) (j := b + 7) hC dX2_copyFrom_127 fd_X2_34 kd0 rfl rfl ?_
  refine w_sn2 hC sn_X2_61 dX2_copyFrom_130 rfl hN (c_copyRow (n := 48) ke7 kd7 se7 sz7 (by omega) (fun w7 c7 o7 => ?_))
  refine v_vret hC hR dX2_copyFrom_133 ?_
  refine hQ _ ?_ (fun i k hi => ?_)
  · refine ⟨⟨?_, ?_, ?_, ?_, ?_, ?_, ?_⟩, fun k hk => ⟨?_, ?_, ?_⟩, fun j hj => ?_, fun k hk => ?_, fun k hk => ?_, fun k hk => ?_⟩
    · rw [o7 b _ (by omega), o6 b _ (by omega), o5 b _ (by omega), o4 b _ (by omega), o3 b _ (by omega), o2 b _ (by omega), o1 b _ (by omega)]
      simp [up]
    · rw [o7 b _ (by omega), o6 b _ (by omega), o5 b _ (by omega), o4 b _ (by omega), o3 b _ (by omega), o2 b _ (by omega), o1 b _ (by omega)]
      simp [up]
    · rw [o7 b _ (by omega), o6 b _ (by omega), o5 b _ (by omega), o4 b _ (by omega), o3 b _ (by omega), o2 b _ (by omega), o1 b _ (by omega)]
      simp [up]
    · rw [o7 b _ (by omega), o6 b _ (by omega), o5 b _ (by omega), o4 b _ (by omega), o3 b _ (by omega), o2 b _ (by omega), o1 b _ (by omega)]
      simp [up]
    · rw [o7 b _ (by omega), o6 b _ (by omega), o5 b _ (by omega), o4 b _ (by omega), o3 b _ (by omega), o2 b _ (by omega), o1 b _ (by omega)]
      simp [up]
    · rw [o7 b _ (by omega), o6 b _ (by omega), o5 b _ (by omega), o4 b _ (by omega), o3 b _ (by omega), o2 b _ (by omega), o1 b _ (by omega)]
      simp [up]
    · rw [o7 b _ (by omega), o6 b _ (by omega), o5 b _ (by omega), o4 b _ (by omega), o3 b _ (by omega), o2 b _ (by omega), o1 b _ (by omega)]
      simp [up]
    · rw [o7 (b + 1) _ (by omega), o6 (b + 1) _ (by omega), o5 (b + 1) _ (by omega), o4 (b + 1) _ (by omega), o3 (b + 1) _ (by omega), o2 (b + 1) _ (by omega), c1 _ (by omega), uy1, uy1, uy1, uy1, uy1, uy1, uy1]
      exact (xw k hk).1
    · rw [o7 (b + 2) _ (by omega), o6 (b + 2) _ (by omega), o5 (b + 2) _ (by omega), o4 (b + 2) _ (by omega), o3 (b + 2) _ (by omega), c2 _ (by omega), o1 (b2 + 2) _ (by omega), uy2, uy2, uy2, uy2, uy2, uy2, uy2]
      exact (xw k hk).2.1
    · rw [o7 (b + 3) _ (by omega), o6 (b + 3) _ (by omega), o5 (b + 3) _ (by omega), o4 (b + 3) _ (by omega), c3 _ (by omega), o2 (b2 + 3) _ (by omega), o1 (b2 + 3) _ (by omega), uy3, uy3, uy3, uy3, uy3, uy3, uy3]
      exact (xw k hk).2.2
    · rw [o7 (b + 4) _ (by omega), o6 (b + 4) _ (by omega), o5 (b + 4) _ (by omega), c4 _ (by omega), o3 (b2 + 4) _ (by omega), o2 (b2 + 4) _ (by omega), o1 (b2 + 4) _ (by omega), uy4, uy4, uy4, uy4, uy4, uy4, uy4]
      exact xl j hj
    · rw [o7 (b + 5) _ (by omega), o6 (b + 5) _ (by omega), c5 _ (by omega), o4 (b2 + 5) _ (by omega), o3 (b2 + 5) _ (by omega), o2 (b2 + 5) _ (by omega), o1 (b2 + 5) _ (by omega), uy5, uy5, uy5, uy5, uy5, uy5, uy5]
      exact xn k hk
    · rw [o7 (b + 6) _ (by omega), c6 _ (by omega), o5 (b2 + 6) _ (by omega), o4 (b2 + 6) _ (by omega), o3 (b2 + 6) _ (by omega), o2 (b2 + 6) _ (by omega), o1 (b2 + 6) _ (by omega), uy6, uy6, uy6, uy6, uy6, uy6, uy6]
      exact xm k hk
    · rw [c7 _ (by omega), o6 (b2 + 7) _ (by omega), o5 (b2 + 7) _ (by omega), o4 (b2 + 7) _ (by omega), o3 (b2 + 7) _ (by omega), o2 (b2 + 7) _ (by omega), o1 (b2 + 7) _ (by omega), uy7, uy7, uy7, uy7, uy7, uy7, uy7]
      exact xu k hk
  · rw [o7 i k (by omega), o6 i k (by omega), o5 i k (by omega), o4 i k (by omega), o3 i k (by omega), o2 i k (by omega), o1 i k (by omega)]
    simp only [up]
    rw [if_neg (by omega), if_neg (by omega), if_neg (by omega), if_neg (by omega), if_neg (by omega), if_neg (by omega), if_neg (by omega)]

theorem c_dropOldestUndo {d : Nat} {w : Wd} {Q : Option MV → Wd → Prop} {b : Nat} {a : Nat → Int} (hb : vb b) (hv : VX w b a) (h78 : a 78 = 8) (h3 : 0 ≤ a 3 ∧ a 3 ≤ 8) (h34 : 0 ≤ a 34 ∧ a 34 ≤ 6) (h53 : 0 ≤ a 53 ∧ a 53 ≤ 6) (hQ : ∀ w2, VX w2 b (sDrop a) → smB w w2 b → Q none w2) : Call (d + 1) mX2_dropOldestUndo [vR b] w Q := by
  obtain ⟨kd0, kd1, kd2, kd3, kd4, kd5, kd6, kd7⟩ := kdV hb
  obtain ⟨sz1, sz2, sz3, sz4, sz5, sz6, sz7⟩ := szV hb
  obtain ⟨⟨x0, x1, x2, x3, x4, x5, x6⟩, xw, xl, xn, xm, xu⟩ := hv
  have u1 : ∀ (w : Wd) (k : Nat) (z : Int) (j : Nat), up w (b + 1) k z b j = w b j := fun w k z j => up_id _ _ (by omega)
  have u2 : ∀ (w : Wd) (k : Nat) (z : Int) (j : Nat), up w (b + 2) k z b j = w b j := fun w k z j => up_id _ _ (by omega)
  have u3 : ∀ (w : Wd) (k : Nat) (z : Int) (j : Nat), up w (b + 3) k z b j = w b j := fun w k z j => up_id _ _ (by omega)
  have u4 : ∀ (w : Wd) (k : Nat) (z : Int) (j : Nat), up w (b + 4) k z b j = w b j := fun w k z j => up_id _ _ (by omega)
  have u5 : ∀ (w : Wd) (k : Nat) (z : Int) (j : Nat), up w (b + 5) k z b j = w b j := fun w k z j => up_id _ _ (by omega)
  have u6 : ∀ (w : Wd) (k : Nat) (z : Int) (j : Nat), up w (b + 6) k z b j = w b j := fun w k z j => up_id _ _ (by omega)
  have u7 : ∀ (w : Wd) (k : Nat) (z : Int) (j : Nat), up w (b + 7) k z b j = w b j := fun w k z j => up_id _ _ (by omega)
  refine call_in (ls := [some (vR b), none]) (by decide +kernel) rfl (Nat.le_of_ble_eq_true rfl) (fun κ hC hR hN => ?_)
  have hC : ctxB κ RX2 cX2_dropOldestUndo (d + 1) := hC
  have hN : mlx κ 2 := hN
  refine v_bipush hC dX2_dropOldestUndo_0 (by decide) ?_
  refine w_is1 hC dX2_dropOldestUndo_2 hN (by first | rfl | assumption) ?_
  have lp3 : ∀ (k : Nat) (w2 : Wd) (j : Nat), (48 - j) < k → (6 ≤ j ∧ j ≤ 48) → (∀ k, k < j - 6 → w2 (b + 7) k = w (b + 7) (k + 6)) → (∀ i k, ¬ (i = b + 7 ∧ k < j - 6) → w2 i k = w i k) → VV κ 3 [some (vR b), some (vI (j : Int))] [] w2 := by
    intro k
    induction k with
    | zero => intros; omega
    | succ k ih =>
      intro w2 j hm3 hj h1 h2
      refine w_il1 hC dX2_dropOldestUndo_3 ?_
      refine v_bipush hC dX2_dropOldestUndo_4 (by decide) ?_
      refine v_ic_ge (tgt := 34) hC dX2_dropOldestUndo_6 rfl (fun h6 => ?_) (fun h6 => ?_)
      · refine w_al0 hC dX2_dropOldestUndo_34 ?_
        refine v_bipush hC dX2_dropOldestUndo_35 (by decide) ?_
        refine v_putI hC dX2_dropOldestUndo_37 fp_X2_58 kd0 rfl ?_
        refine v_vret hC hR dX2_dropOldestUndo_40 ?_
        have hj48 : j = 48 := by omega
        subst hj48
        have g0 : ∀ j, w2 b j = w b j := fun j => h2 b j (by omega)
        have y0 := g0 0
        have y1 := g0 1
        have y2 := g0 2
        have y3 := g0 3
        have y4 := g0 4
        have y5 := g0 5
        have y6 := g0 6
        refine hQ _ ?_ (fun i k hi => ?_)
        · refine ⟨⟨?_, ?_, ?_, ?_, ?_, ?_, ?_⟩, fun k hk => ?_, fun j hj => ?_, fun k hk => ?_, fun k hk => ?_, fun k hk => ?_⟩
          · (simp only [sDrop, up, Nat.add_eq_left, Nat.left_eq_add, Nat.add_left_cancel_iff, true_and, and_true, false_and, and_false, if_true, if_false, reduceIte, and_self, not_true_eq_false, not_false_eq_true]; (try simp (disch := omega) only [if_neg, if_pos]); all_goals ((repeat' split) <;> omega))
          · (simp only [sDrop, up, Nat.add_eq_left, Nat.left_eq_add, Nat.add_left_cancel_iff, true_and, and_true, false_and, and_false, if_true, if_false, reduceIte, and_self, not_true_eq_false, not_false_eq_true]; (try simp (disch := omega) only [if_neg, if_pos]); all_goals ((repeat' split) <;> omega))
          · (simp only [sDrop, up, Nat.add_eq_left, Nat.left_eq_add, Nat.add_left_cancel_iff, true_and, and_true, false_and, and_false, if_true, if_false, reduceIte, and_self, not_true_eq_false, not_false_eq_true]; (try simp (disch := omega) only [if_neg, if_pos]); all_goals ((repeat' split) <;> omega))
          · (simp only [sDrop, up, Nat.add_eq_left, Nat.left_eq_add, Nat.add_left_cancel_iff, true_and, and_true, false_and, and_false, if_true, if_false, reduceIte, and_self, not_true_eq_false, not_false_eq_true]; (try simp (disch := omega) only [if_neg, if_pos]); all_goals ((repeat' split) <;> omega))
          · (simp only [sDrop, up, Nat.add_eq_left, Nat.left_eq_add, Nat.add_left_cancel_iff, true_and, and_true, false_and, and_false, if_true, if_false, reduceIte, and_self, not_true_eq_false, not_false_eq_true]; (try simp (disch := omega) only [if_neg, if_pos]); all_goals ((repeat' split) <;> omega))
          · (simp only [sDrop, up, Nat.add_eq_left, Nat.left_eq_add, Nat.add_left_cancel_iff, true_and, and_true, false_and, and_false, if_true, if_false, reduceIte, and_self, not_true_eq_false, not_false_eq_true]; (try simp (disch := omega) only [if_neg, if_pos]); all_goals ((repeat' split) <;> omega))
          · (simp only [sDrop, up, Nat.add_eq_left, Nat.left_eq_add, Nat.add_left_cancel_iff, true_and, and_true, false_and, and_false, if_true, if_false, reduceIte, and_self, not_true_eq_false, not_false_eq_true]; (try simp (disch := omega) only [if_neg, if_pos]); all_goals ((repeat' split) <;> omega))
          · rw [show (sDrop a) 3 = a 3 by simp only [sDrop, Nat.add_eq_left, Nat.left_eq_add, Nat.add_left_cancel_iff, true_and, and_true, false_and, and_false, if_true, if_false, reduceIte, and_self, not_true_eq_false, not_false_eq_true]; (try simp (disch := omega) only [if_neg, if_pos]); try ((repeat' split) <;> omega)] at hk
            have h9 := xw k (by omega)
            have g1 := h2 (b + 1) k (by omega)
            have g2 := h2 (b + 2) k (by omega)
            have g3 := h2 (b + 3) k (by omega)
            refine ⟨?_, ?_, ?_⟩ <;> (simp only [sDrop, up, Nat.add_eq_left, Nat.left_eq_add, Nat.add_left_cancel_iff, true_and, and_true, false_and, and_false, if_true, if_false, reduceIte, and_self, not_true_eq_false, not_false_eq_true]; (try simp (disch := omega) only [if_neg, if_pos]); all_goals ((repeat' split) <;> omega))
          · have h9 := xl j hj
            have g1 := h2 (b + 4) j (by omega)
            (simp only [sDrop, up, Nat.add_eq_left, Nat.left_eq_add, Nat.add_left_cancel_iff, true_and, and_true, false_and, and_false, if_true, if_false, reduceIte, and_self, not_true_eq_false, not_false_eq_true]; (try simp (disch := omega) only [if_neg, if_pos]); all_goals ((repeat' split) <;> omega))
          · rw [show (sDrop a) 34 = a 34 by simp only [sDrop, Nat.add_eq_left, Nat.left_eq_add, Nat.add_left_cancel_iff, true_and, and_true, false_and, and_false, if_true, if_false, reduceIte, and_self, not_true_eq_false, not_false_eq_true]; (try simp (disch := omega) only [if_neg, if_pos]); try ((repeat' split) <;> omega)] at hk
            have h9 := xn k (by omega)
            have g1 := h2 (b + 5) k (by omega)
            (simp only [sDrop, up, Nat.add_eq_left, Nat.left_eq_add, Nat.add_left_cancel_iff, true_and, and_true, false_and, and_false, if_true, if_false, reduceIte, and_self, not_true_eq_false, not_false_eq_true]; (try simp (disch := omega) only [if_neg, if_pos]); all_goals ((repeat' split) <;> omega))
          · rw [show (sDrop a) 53 = a 53 by simp only [sDrop, Nat.add_eq_left, Nat.left_eq_add, Nat.add_left_cancel_iff, true_and, and_true, false_and, and_false, if_true, if_false, reduceIte, and_self, not_true_eq_false, not_false_eq_true]; (try simp (disch := omega) only [if_neg, if_pos]); try ((repeat' split) <;> omega)] at hk
            have h9 := xm k (by omega)
            have g1 := h2 (b + 6) k (by omega)
            (simp only [sDrop, up, Nat.add_eq_left, Nat.left_eq_add, Nat.add_left_cancel_iff, true_and, and_true, false_and, and_false, if_true, if_false, reduceIte, and_self, not_true_eq_false, not_false_eq_true]; (try simp (disch := omega) only [if_neg, if_pos]); all_goals ((repeat' split) <;> omega))
          · rw [show (sDrop a) 78 = 7 by simp only [sDrop, Nat.add_eq_left, Nat.left_eq_add, Nat.add_left_cancel_iff, true_and, and_true, false_and, and_false, if_true, if_false, reduceIte, and_self, not_true_eq_false, not_false_eq_true]; (try simp (disch := omega) only [if_neg, if_pos]); try ((repeat' split) <;> omega)] at hk
            have h9 := xu (k + 6) (by omega)
            have g1 := h1 k (by omega)
            rw [show 79 + (k + 6) = 79 + k + 6 by omega] at h9
            (simp only [sDrop, up, Nat.add_eq_left, Nat.left_eq_add, Nat.add_left_cancel_iff, true_and, and_true, false_and, and_false, if_true, if_false, reduceIte, and_self, not_true_eq_false, not_false_eq_true]; (try simp (disch := omega) only [if_neg, if_pos]); all_goals ((repeat' split) <;> omega))
        · rw [up_id _ _ (by omega)]
          exact h2 i k (by omega)
      · refine w_al0 hC dX2_dropOldestUndo_9 ?_
        refine v_getR (off := 7) (j := b + 7) hC dX2_dropOldestUndo_10 fd_X2_34 kd0 rfl rfl ?_
        refine w_il1 hC dX2_dropOldestUndo_13 ?_
        refine v_bipush hC dX2_dropOldestUndo_14 (by decide) ?_
        refine w_isub hC dX2_dropOldestUndo_16 (ri_mk (by omega) (by omega)) ?_
        rw [show (j : Int) - 6 = ((j - 6 : Nat) : Int) by omega]
        refine w_al0 hC dX2_dropOldestUndo_17 ?_
        refine v_getR (off := 7) (j := b + 7) hC dX2_dropOldestUndo_18 fd_X2_34 kd0 rfl rfl ?_
        refine w_il1 hC dX2_dropOldestUndo_21 ?_
        refine w_sn2 hC sn_X2_65 dX2_dropOldestUndo_22 rfl hN (c_at kd7 ?_)
        rw [atV_n w2 (by omega)]
        refine w_sn3 hC sn_X2_83 dX2_dropOldestUndo_25 rfl hN (c_set kd7 ?_)
        rw [stV_n _ (by omega)]
        refine w_inc1 hC dX2_dropOldestUndo_28 hN (by first | rfl | assumption) (ri_mk (by omega) (by omega)) ?_
        refine v_goto (tgt := 3) hC dX2_dropOldestUndo_31 rfl ?_
        exact ih _ (j + 1) (by omega) (by omega) (fun k hk => by
          by_cases q : k = j - 6
          · subst q; rw [up_same, h2 _ _ (by omega)]; congr 1; omega
          · rw [up_pl _ _ q]; exact h1 k (by omega)) (fun i k hi => by rw [up_ne _ _ (by omega)]; exact h2 i k (by omega))
  exact lp3 49 w 6 (by omega) (by omega) (fun k h => by omega) (fun i k h => rfl)

theorem c_keepForUndo {d : Nat} {w : Wd} {Q : Option MV → Wd → Prop} {b : Nat} {a : Nat → Int} (hb : vb b) (hv : VX w b a) (h3 : 0 ≤ a 3 ∧ a 3 ≤ 8) (h34 : 0 ≤ a 34 ∧ a 34 ≤ 6) (h53 : 0 ≤ a 53 ∧ a 53 ≤ 6) (h78 : 0 ≤ a 78 ∧ a 78 ≤ 8) (hQ : ∀ w2, VX w2 b (sKeep a) → smB w w2 b → Q none w2) : Call (d + 2) mX2_keepForUndo [vR b] w Q := by
  obtain ⟨kd0, kd1, kd2, kd3, kd4, kd5, kd6, kd7⟩ := kdV hb
  obtain ⟨sz1, sz2, sz3, sz4, sz5, sz6, sz7⟩ := szV hb
  refine call_in (ls := [some (vR b), none]) (by decide +kernel) rfl (Nat.le_of_ble_eq_true rfl) (fun κ hC hR hN => ?_)
  have hC : ctxB κ RX2 cX2_keepForUndo (d + 2) := hC
  have hN : mlx κ 2 := hN
  have tl : ∀ (w1 : Wd) (a1 : Nat → Int), (VX w1 b a1) → (0 ≤ a1 3 ∧ a1 3 ≤ 8) → (0 ≤ a1 34 ∧ a1 34 ≤ 6) → (0 ≤ a1 53 ∧ a1 53 ≤ 6) → (0 ≤ a1 78 ∧ a1 78 ≤ 7) → (smB w w1 b) → (∀ w2, VX w2 b (sKeep1 a1) → smB w w2 b → Q none w2) → VV κ 13 [some (vR b), none] [] w1 := by
    intro w1 a1 hv1 h3 h34 h53 h78 os hQ
    obtain ⟨⟨x0, x1, x2, x3, x4, x5, x6⟩, xw, xl, xn, xm, xu⟩ := hv1
    obtain ⟨c, hc78⟩ := Int.eq_ofNat_of_zero_le h78.1
    have hc : w1 b 6 = (c : Int) := by rw [x6, hc78]
    refine w_ic hC dX2_keepForUndo_13 rfl ?_
    refine w_is1 hC dX2_keepForUndo_14 hN (by first | rfl | assumption) ?_
    have lp15 : ∀ (k : Nat) (w2 : Wd) (j : Nat), (6 - j) < k → (j ≤ 6) → (∀ k, k < j → w2 (b + 7) (6 * c + k) = w1 (b + 4) k) → (∀ i k, ¬ (i = b + 7 ∧ 6 * c ≤ k ∧ k < 6 * c + j) → w2 i k = w1 i k) → VV κ 15 [some (vR b), some (vI (j : Int))] [] w2 := by
      intro k
      induction k with
      | zero => intros; omega
      | succ k ih =>
        intro w2 j hm15 hj g1 g2
        refine w_il1 hC dX2_keepForUndo_15 ?_
        refine v_bipush hC dX2_keepForUndo_16 (by decide) ?_
        refine v_ic_ge (tgt := 51) hC dX2_keepForUndo_18 rfl (fun h18 => ?_) (fun h18 => ?_)
        · refine w_al0 hC dX2_keepForUndo_51 ?_
          refine v_dup hC dX2_keepForUndo_52 rfl ?_
          refine v_getI hC dX2_keepForUndo_53 fd_X2_58 kd0 rfl ?_
          rw [g2 b 6 (by omega), hc]
          refine w_ic hC dX2_keepForUndo_56 rfl ?_
          refine w_iadd hC dX2_keepForUndo_57 (ri_mk (by omega) (by omega)) ?_
          refine v_putI hC dX2_keepForUndo_58 fp_X2_58 kd0 rfl ?_
          refine v_vret hC hR dX2_keepForUndo_61 ?_
          have hj6 : j = 6 := by omega
          subst hj6
          have g0 : ∀ j, w2 b j = w1 b j := fun j => g2 b j (by omega)
          have y0 := g0 0
          have y1 := g0 1
          have y2 := g0 2
          have y3 := g0 3
          have y4 := g0 4
          have y5 := g0 5
          have y6 := g0 6
          refine hQ _ ?_ (fun i k hi => ?_)
          · refine ⟨⟨?_, ?_, ?_, ?_, ?_, ?_, ?_⟩, fun k hk => ?_, fun j hj => ?_, fun k hk => ?_, fun k hk => ?_, fun k hk => ?_⟩
            · (simp only [sKeep1, up, Nat.add_eq_left, Nat.left_eq_add, Nat.add_left_cancel_iff, true_and, and_true, false_and, and_false, if_true, if_false, reduceIte, and_self, not_true_eq_false, not_false_eq_true]; (try simp (disch := omega) only [if_neg, if_pos]); all_goals ((repeat' split) <;> omega))
            · (simp only [sKeep1, up, Nat.add_eq_left, Nat.left_eq_add, Nat.add_left_cancel_iff, true_and, and_true, false_and, and_false, if_true, if_false, reduceIte, and_self, not_true_eq_false, not_false_eq_true]; (try simp (disch := omega) only [if_neg, if_pos]); all_goals ((repeat' split) <;> omega))
            · (simp only [sKeep1, up, Nat.add_eq_left, Nat.left_eq_add, Nat.add_left_cancel_iff, true_and, and_true, false_and, and_false, if_true, if_false, reduceIte, and_self, not_true_eq_false, not_false_eq_true]; (try simp (disch := omega) only [if_neg, if_pos]); all_goals ((repeat' split) <;> omega))
            · (simp only [sKeep1, up, Nat.add_eq_left, Nat.left_eq_add, Nat.add_left_cancel_iff, true_and, and_true, false_and, and_false, if_true, if_false, reduceIte, and_self, not_true_eq_false, not_false_eq_true]; (try simp (disch := omega) only [if_neg, if_pos]); all_goals ((repeat' split) <;> omega))
            · (simp only [sKeep1, up, Nat.add_eq_left, Nat.left_eq_add, Nat.add_left_cancel_iff, true_and, and_true, false_and, and_false, if_true, if_false, reduceIte, and_self, not_true_eq_false, not_false_eq_true]; (try simp (disch := omega) only [if_neg, if_pos]); all_goals ((repeat' split) <;> omega))
            · (simp only [sKeep1, up, Nat.add_eq_left, Nat.left_eq_add, Nat.add_left_cancel_iff, true_and, and_true, false_and, and_false, if_true, if_false, reduceIte, and_self, not_true_eq_false, not_false_eq_true]; (try simp (disch := omega) only [if_neg, if_pos]); all_goals ((repeat' split) <;> omega))
            · (simp only [sKeep1, up, Nat.add_eq_left, Nat.left_eq_add, Nat.add_left_cancel_iff, true_and, and_true, false_and, and_false, if_true, if_false, reduceIte, and_self, not_true_eq_false, not_false_eq_true]; (try simp (disch := omega) only [if_neg, if_pos]); all_goals ((repeat' split) <;> omega))
            · rw [show (sKeep1 a1) 3 = a1 3 by simp only [sKeep1, up, Nat.add_eq_left, Nat.left_eq_add, Nat.add_left_cancel_iff, true_and, and_true, false_and, and_false, if_true, if_false, reduceIte, and_self, not_true_eq_false, not_false_eq_true]; (try simp (disch := omega) only [if_neg, if_pos]); try ((repeat' split) <;> omega)] at hk
              have h9 := xw k (by omega)
              have q1 := g2 (b + 1) k (by omega)
              have q2 := g2 (b + 2) k (by omega)
              have q3 := g2 (b + 3) k (by omega)
              refine ⟨?_, ?_, ?_⟩ <;> (simp only [sKeep1, up, Nat.add_eq_left, Nat.left_eq_add, Nat.add_left_cancel_iff, true_and, and_true, false_and, and_false, if_true, if_false, reduceIte, and_self, not_true_eq_false, not_false_eq_true]; (try simp (disch := omega) only [if_neg, if_pos]); all_goals ((repeat' split) <;> omega))
            · have h9 := xl j hj
              have q1 := g2 (b + 4) j (by omega)
              (simp only [sKeep1, up, Nat.add_eq_left, Nat.left_eq_add, Nat.add_left_cancel_iff, true_and, and_true, false_and, and_false, if_true, if_false, reduceIte, and_self, not_true_eq_false, not_false_eq_true]; (try simp (disch := omega) only [if_neg, if_pos]); all_goals ((repeat' split) <;> omega))
            · rw [show (sKeep1 a1) 34 = a1 34 by simp only [sKeep1, up, Nat.add_eq_left, Nat.left_eq_add, Nat.add_left_cancel_iff, true_and, and_true, false_and, and_false, if_true, if_false, reduceIte, and_self, not_true_eq_false, not_false_eq_true]; (try simp (disch := omega) only [if_neg, if_pos]); try ((repeat' split) <;> omega)] at hk
              have h9 := xn k (by omega)
              have q1 := g2 (b + 5) k (by omega)
              (simp only [sKeep1, up, Nat.add_eq_left, Nat.left_eq_add, Nat.add_left_cancel_iff, true_and, and_true, false_and, and_false, if_true, if_false, reduceIte, and_self, not_true_eq_false, not_false_eq_true]; (try simp (disch := omega) only [if_neg, if_pos]); all_goals ((repeat' split) <;> omega))
            · rw [show (sKeep1 a1) 53 = a1 53 by simp only [sKeep1, up, Nat.add_eq_left, Nat.left_eq_add, Nat.add_left_cancel_iff, true_and, and_true, false_and, and_false, if_true, if_false, reduceIte, and_self, not_true_eq_false, not_false_eq_true]; (try simp (disch := omega) only [if_neg, if_pos]); try ((repeat' split) <;> omega)] at hk
              have h9 := xm k (by omega)
              have q1 := g2 (b + 6) k (by omega)
              (simp only [sKeep1, up, Nat.add_eq_left, Nat.left_eq_add, Nat.add_left_cancel_iff, true_and, and_true, false_and, and_false, if_true, if_false, reduceIte, and_self, not_true_eq_false, not_false_eq_true]; (try simp (disch := omega) only [if_neg, if_pos]); all_goals ((repeat' split) <;> omega))
            · rw [show (sKeep1 a1) 78 = a1 78 + 1 by simp only [sKeep1, up, Nat.add_eq_left, Nat.left_eq_add, Nat.add_left_cancel_iff, true_and, and_true, false_and, and_false, if_true, if_false, reduceIte, and_self, not_true_eq_false, not_false_eq_true]; (try simp (disch := omega) only [if_neg, if_pos]); try ((repeat' split) <;> omega)] at hk
              by_cases q : k < 6 * c
              · have h9 := xu k (by omega)
                have q1 := g2 (b + 7) k (by omega)
                (simp only [sKeep1, up, Nat.add_eq_left, Nat.left_eq_add, Nat.add_left_cancel_iff, true_and, and_true, false_and, and_false, if_true, if_false, reduceIte, and_self, not_true_eq_false, not_false_eq_true]; (try simp (disch := omega) only [if_neg, if_pos]); all_goals ((repeat' split) <;> omega))
              · have h9 := xl (k - 6 * c) (by omega)
                have q1 := g1 (k - 6 * c) (by omega)
                rw [show 6 * c + (k - 6 * c) = k by omega] at q1
                have e9 : 79 + k - (79 + 6 * (a1 78).toNat) = k - 6 * c := by omega
                have e8 : sKeep1 a1 (79 + k) = a1 (28 + (79 + k - (79 + 6 * (a1 78).toNat))) := by simp only [sKeep1]; rw [if_neg (by omega), if_pos (by omega)]
                rw [e8, e9, up_id _ _ (by omega)]
                omega
          · rw [up_id _ _ (by omega)]
            rw [g2 i k (by omega)]
            exact os i k hi
        · refine w_al0 hC dX2_keepForUndo_21 ?_
          refine v_getR (off := 7) (j := b + 7) hC dX2_keepForUndo_22 fd_X2_34 kd0 rfl rfl ?_
          refine w_al0 hC dX2_keepForUndo_25 ?_
          refine v_getI hC dX2_keepForUndo_26 fd_X2_58 kd0 rfl ?_
          rw [g2 b 6 (by omega), hc]
          refine v_bipush hC dX2_keepForUndo_29 (by decide) ?_
          refine w_imul hC dX2_keepForUndo_31 (ri_mk (by omega) (by omega)) ?_
          rw [show (c : Int) * 6 = ((6 * c : Nat) : Int) by omega]
          refine w_il1 hC dX2_keepForUndo_32 ?_
          refine w_iadd hC dX2_keepForUndo_33 (ri_mk (by omega) (by omega)) ?_
          rw [show ((6 * c : Nat) : Int) + (j : Int) = ((6 * c + j : Nat) : Int) by omega]
          refine w_al0 hC dX2_keepForUndo_34 ?_
          refine v_getR (off := 4) (j := b + 4) hC dX2_keepForUndo_35 fd_X2_25 kd0 rfl rfl ?_
          refine w_il1 hC dX2_keepForUndo_38 ?_
          refine w_sn2 hC sn_X2_65 dX2_keepForUndo_39 rfl hN (c_at kd4 ?_)
          rw [atV_n w2 (by omega)]
          refine w_sn3 hC sn_X2_83 dX2_keepForUndo_42 rfl hN (c_set kd7 ?_)
          rw [stV_n _ (by omega)]
          refine w_inc1 hC dX2_keepForUndo_45 hN (by first | rfl | assumption) (ri_mk (by omega) (by omega)) ?_
          refine v_goto (tgt := 15) hC dX2_keepForUndo_48 rfl ?_
          exact ih _ (j + 1) (by omega) (by omega) (lt_s (fun k hk => by rw [up_pl _ _ (by omega)]; exact g1 k hk) (by rw [up_same]; exact g2 _ _ (by omega))) (fun i k hi => by rw [up_ne _ _ (by omega)]; exact g2 i k (by omega))
    exact lp15 7 w1 0 (by omega) (by omega) (fun k h => by omega) (fun i k h => rfl)
  refine w_al0 hC dX2_keepForUndo_0 ?_
  refine v_getI hC dX2_keepForUndo_1 fd_X2_58 kd0 rfl ?_
  rw [hv.1.2.2.2.2.2.2]
  refine v_bipush hC dX2_keepForUndo_4 (by decide) ?_
  refine v_ic_lt (tgt := 13) hC dX2_keepForUndo_6 rfl (fun h6 => ?_) (fun h6 => ?_)
  · first | exact tl w a hv h3 h34 h53 (by omega) (fun i k hi => rfl) (by unfold sKeep at hQ; rw [if_neg (by omega)] at hQ; exact hQ) | exact tl w1 (sDrop a) v1 (by simp [sDrop]; omega) (by simp [sDrop]; omega) (by simp [sDrop]; omega) (by simp [sDrop]) o1 (by unfold sKeep at hQ; rw [if_pos (by omega)] at hQ; exact hQ)
  · refine w_al0 hC dX2_keepForUndo_9 ?_
    refine w_vi0 hC vi_X2_120 kd0 dX2_keepForUndo_10 rfl hN (c_dropOldestUndo hb hv (by omega) h3 h34 h53 (fun w1 v1 o1 => ?_))
    first | exact tl w a hv h3 h34 h53 (by omega) (fun i k hi => rfl) (by unfold sKeep at hQ; rw [if_neg (by omega)] at hQ; exact hQ) | exact tl w1 (sDrop a) v1 (by simp [sDrop]; omega) (by simp [sDrop]; omega) (by simp [sDrop]; omega) (by simp [sDrop]) o1 (by unfold sKeep at hQ; rw [if_pos (by omega)] at hQ; exact hQ)

theorem c_undoLast {d : Nat} {w : Wd} {Q : Option MV → Wd → Prop} {b : Nat} {a : Nat → Int} (hb : vb b) (hv : VX w b a) (h3 : 0 ≤ a 3 ∧ a 3 ≤ 8) (h34 : 0 ≤ a 34 ∧ a 34 ≤ 6) (h53 : 0 ≤ a 53 ∧ a 53 ≤ 6) (h78 : 1 ≤ a 78 ∧ a 78 ≤ 8) (hQ : ∀ w2, VX w2 b (sUndo a) → smB w w2 b → Q none w2) : Call (d + 1) mX2_undoLast [vR b] w Q := by
  obtain ⟨kd0, kd1, kd2, kd3, kd4, kd5, kd6, kd7⟩ := kdV hb
  obtain ⟨sz1, sz2, sz3, sz4, sz5, sz6, sz7⟩ := szV hb
  obtain ⟨⟨x0, x1, x2, x3, x4, x5, x6⟩, xw, xl, xn, xm, xu⟩ := hv
  have u1 : ∀ (w : Wd) (k : Nat) (z : Int) (j : Nat), up w (b + 1) k z b j = w b j := fun w k z j => up_id _ _ (by omega)
  have u2 : ∀ (w : Wd) (k : Nat) (z : Int) (j : Nat), up w (b + 2) k z b j = w b j := fun w k z j => up_id _ _ (by omega)
  have u3 : ∀ (w : Wd) (k : Nat) (z : Int) (j : Nat), up w (b + 3) k z b j = w b j := fun w k z j => up_id _ _ (by omega)
  have u4 : ∀ (w : Wd) (k : Nat) (z : Int) (j : Nat), up w (b + 4) k z b j = w b j := fun w k z j => up_id _ _ (by omega)
  have u5 : ∀ (w : Wd) (k : Nat) (z : Int) (j : Nat), up w (b + 5) k z b j = w b j := fun w k z j => up_id _ _ (by omega)
  have u6 : ∀ (w : Wd) (k : Nat) (z : Int) (j : Nat), up w (b + 6) k z b j = w b j := fun w k z j => up_id _ _ (by omega)
  have u7 : ∀ (w : Wd) (k : Nat) (z : Int) (j : Nat), up w (b + 7) k z b j = w b j := fun w k z j => up_id _ _ (by omega)
  obtain ⟨c, hc78⟩ := Int.eq_ofNat_of_zero_le (show 0 ≤ a 78 - 1 by omega)
  have hc : w b 6 = (c : Int) + 1 := by omega
  refine call_in (ls := [some (vR b), none]) (by decide +kernel) rfl (Nat.le_of_ble_eq_true rfl) (fun κ hC hR hN => ?_)
  have hC : ctxB κ RX2 cX2_undoLast (d + 1) := hC
  have hN : mlx κ 2 := hN
  refine w_al0 hC dX2_undoLast_0 ?_
  refine v_dup hC dX2_undoLast_1 rfl ?_
  refine v_getI hC dX2_undoLast_2 fd_X2_58 kd0 rfl ?_
  rw [hc, show (c : Int) + 1 = ((c + 1 : Nat) : Int) from rfl]
  refine w_ic hC dX2_undoLast_5 rfl ?_
  refine w_isub hC dX2_undoLast_6 (ri_mk (by omega) (by omega)) ?_
  rw [show ((c + 1 : Nat) : Int) - 1 = (c : Int) by omega]
  refine v_putI hC dX2_undoLast_7 fp_X2_58 kd0 rfl ?_
  refine w_ic hC dX2_undoLast_10 rfl ?_
  refine w_is1 hC dX2_undoLast_11 hN (by first | rfl | assumption) ?_
  have lp12 : ∀ (k : Nat) (w2 : Wd) (j : Nat), (6 - j) < k → (j ≤ 6) → (∀ k, k < j → w2 (b + 4) k = w (b + 7) (6 * c + k)) → (∀ i k, ¬ (i = b + 4 ∧ k < j) → ¬ (i = b ∧ k = 6) → w2 i k = w i k) → (w2 b 6 = (c : Int)) → VV κ 12 [some (vR b), some (vI (j : Int))] [] w2 := by
    intro k
    induction k with
    | zero => intros; omega
    | succ k ih =>
      intro w2 j hm12 hj g1 g2 g3
      refine w_il1 hC dX2_undoLast_12 ?_
      refine v_bipush hC dX2_undoLast_13 (by decide) ?_
      refine v_ic_ge (tgt := 48) hC dX2_undoLast_15 rfl (fun h15 => ?_) (fun h15 => ?_)
      · refine v_vret hC hR dX2_undoLast_48 ?_
        have hj6 : j = 6 := by omega
        subst hj6
        have y0 := g2 b 0 (by omega) (by omega)
        have y1 := g2 b 1 (by omega) (by omega)
        have y2 := g2 b 2 (by omega) (by omega)
        have y3 := g2 b 3 (by omega) (by omega)
        have y4 := g2 b 4 (by omega) (by omega)
        have y5 := g2 b 5 (by omega) (by omega)
        refine hQ _ ?_ (fun i k hi => ?_)
        · refine ⟨⟨?_, ?_, ?_, ?_, ?_, ?_, ?_⟩, fun k hk => ?_, fun j hj => ?_, fun k hk => ?_, fun k hk => ?_, fun k hk => ?_⟩
          · (simp only [sUndo, up, Nat.add_eq_left, Nat.left_eq_add, Nat.add_left_cancel_iff, true_and, and_true, false_and, and_false, if_true, if_false, reduceIte, and_self, not_true_eq_false, not_false_eq_true]; (try simp (disch := omega) only [if_neg, if_pos]); all_goals ((repeat' split) <;> omega))
          · (simp only [sUndo, up, Nat.add_eq_left, Nat.left_eq_add, Nat.add_left_cancel_iff, true_and, and_true, false_and, and_false, if_true, if_false, reduceIte, and_self, not_true_eq_false, not_false_eq_true]; (try simp (disch := omega) only [if_neg, if_pos]); all_goals ((repeat' split) <;> omega))
          · (simp only [sUndo, up, Nat.add_eq_left, Nat.left_eq_add, Nat.add_left_cancel_iff, true_and, and_true, false_and, and_false, if_true, if_false, reduceIte, and_self, not_true_eq_false, not_false_eq_true]; (try simp (disch := omega) only [if_neg, if_pos]); all_goals ((repeat' split) <;> omega))
          · (simp only [sUndo, up, Nat.add_eq_left, Nat.left_eq_add, Nat.add_left_cancel_iff, true_and, and_true, false_and, and_false, if_true, if_false, reduceIte, and_self, not_true_eq_false, not_false_eq_true]; (try simp (disch := omega) only [if_neg, if_pos]); all_goals ((repeat' split) <;> omega))
          · (simp only [sUndo, up, Nat.add_eq_left, Nat.left_eq_add, Nat.add_left_cancel_iff, true_and, and_true, false_and, and_false, if_true, if_false, reduceIte, and_self, not_true_eq_false, not_false_eq_true]; (try simp (disch := omega) only [if_neg, if_pos]); all_goals ((repeat' split) <;> omega))
          · (simp only [sUndo, up, Nat.add_eq_left, Nat.left_eq_add, Nat.add_left_cancel_iff, true_and, and_true, false_and, and_false, if_true, if_false, reduceIte, and_self, not_true_eq_false, not_false_eq_true]; (try simp (disch := omega) only [if_neg, if_pos]); all_goals ((repeat' split) <;> omega))
          · (simp only [sUndo, up, Nat.add_eq_left, Nat.left_eq_add, Nat.add_left_cancel_iff, true_and, and_true, false_and, and_false, if_true, if_false, reduceIte, and_self, not_true_eq_false, not_false_eq_true]; (try simp (disch := omega) only [if_neg, if_pos]); all_goals ((repeat' split) <;> omega))
          · rw [show (sUndo a) 3 = a 3 by simp only [sUndo, up, Nat.add_eq_left, Nat.left_eq_add, Nat.add_left_cancel_iff, true_and, and_true, false_and, and_false, if_true, if_false, reduceIte, and_self, not_true_eq_false, not_false_eq_true]; (try simp (disch := omega) only [if_neg, if_pos]); try ((repeat' split) <;> omega)] at hk
            have h9 := xw k (by omega)
            have q1 := g2 (b + 1) k (by omega) (by omega)
            have q2 := g2 (b + 2) k (by omega) (by omega)
            have q3 := g2 (b + 3) k (by omega) (by omega)
            refine ⟨?_, ?_, ?_⟩ <;> (simp only [sUndo, up, Nat.add_eq_left, Nat.left_eq_add, Nat.add_left_cancel_iff, true_and, and_true, false_and, and_false, if_true, if_false, reduceIte, and_self, not_true_eq_false, not_false_eq_true]; (try simp (disch := omega) only [if_neg, if_pos]); all_goals ((repeat' split) <;> omega))
          · have h9 := xu (6 * c + j) (by omega)
            have q1 := g1 j (by omega)
            rw [show 79 + (6 * c + j) = 79 + 6 * (a 78 - 1).toNat + (28 + j - 28) by omega] at h9
            (simp only [sUndo, up, Nat.add_eq_left, Nat.left_eq_add, Nat.add_left_cancel_iff, true_and, and_true, false_and, and_false, if_true, if_false, reduceIte, and_self, not_true_eq_false, not_false_eq_true]; (try simp (disch := omega) only [if_neg, if_pos]); all_goals ((repeat' split) <;> omega))
          · rw [show (sUndo a) 34 = a 34 by simp only [sUndo, up, Nat.add_eq_left, Nat.left_eq_add, Nat.add_left_cancel_iff, true_and, and_true, false_and, and_false, if_true, if_false, reduceIte, and_self, not_true_eq_false, not_false_eq_true]; (try simp (disch := omega) only [if_neg, if_pos]); try ((repeat' split) <;> omega)] at hk
            have h9 := xn k (by omega)
            have q1 := g2 (b + 5) k (by omega) (by omega)
            (simp only [sUndo, up, Nat.add_eq_left, Nat.left_eq_add, Nat.add_left_cancel_iff, true_and, and_true, false_and, and_false, if_true, if_false, reduceIte, and_self, not_true_eq_false, not_false_eq_true]; (try simp (disch := omega) only [if_neg, if_pos]); all_goals ((repeat' split) <;> omega))
          · rw [show (sUndo a) 53 = a 53 by simp only [sUndo, up, Nat.add_eq_left, Nat.left_eq_add, Nat.add_left_cancel_iff, true_and, and_true, false_and, and_false, if_true, if_false, reduceIte, and_self, not_true_eq_false, not_false_eq_true]; (try simp (disch := omega) only [if_neg, if_pos]); try ((repeat' split) <;> omega)] at hk
            have h9 := xm k (by omega)
            have q1 := g2 (b + 6) k (by omega) (by omega)
            (simp only [sUndo, up, Nat.add_eq_left, Nat.left_eq_add, Nat.add_left_cancel_iff, true_and, and_true, false_and, and_false, if_true, if_false, reduceIte, and_self, not_true_eq_false, not_false_eq_true]; (try simp (disch := omega) only [if_neg, if_pos]); all_goals ((repeat' split) <;> omega))
          · rw [show (sUndo a) 78 = a 78 - 1 by simp only [sUndo, up, Nat.add_eq_left, Nat.left_eq_add, Nat.add_left_cancel_iff, true_and, and_true, false_and, and_false, if_true, if_false, reduceIte, and_self, not_true_eq_false, not_false_eq_true]; (try simp (disch := omega) only [if_neg, if_pos]); try ((repeat' split) <;> omega)] at hk
            have h9 := xu k (by omega)
            have q1 := g2 (b + 7) k (by omega) (by omega)
            (simp only [sUndo, up, Nat.add_eq_left, Nat.left_eq_add, Nat.add_left_cancel_iff, true_and, and_true, false_and, and_false, if_true, if_false, reduceIte, and_self, not_true_eq_false, not_false_eq_true]; (try simp (disch := omega) only [if_neg, if_pos]); all_goals ((repeat' split) <;> omega))
        · exact g2 i k (by omega) (by omega)
      · refine w_al0 hC dX2_undoLast_18 ?_
        refine v_getR (off := 4) (j := b + 4) hC dX2_undoLast_19 fd_X2_25 kd0 rfl rfl ?_
        refine w_il1 hC dX2_undoLast_22 ?_
        refine w_al0 hC dX2_undoLast_23 ?_
        refine v_getR (off := 7) (j := b + 7) hC dX2_undoLast_24 fd_X2_34 kd0 rfl rfl ?_
        refine w_al0 hC dX2_undoLast_27 ?_
        refine v_getI hC dX2_undoLast_28 fd_X2_58 kd0 rfl ?_
        rw [g3]
        refine v_bipush hC dX2_undoLast_31 (by decide) ?_
        refine w_imul hC dX2_undoLast_33 (ri_mk (by omega) (by omega)) ?_
        rw [show (c : Int) * 6 = ((6 * c : Nat) : Int) by omega]
        refine w_il1 hC dX2_undoLast_34 ?_
        refine w_iadd hC dX2_undoLast_35 (ri_mk (by omega) (by omega)) ?_
        rw [show ((6 * c : Nat) : Int) + (j : Int) = ((6 * c + j : Nat) : Int) by omega]
        refine w_sn2 hC sn_X2_65 dX2_undoLast_36 rfl hN (c_at kd7 ?_)
        rw [atV_n w2 (by omega)]
        refine w_sn3 hC sn_X2_83 dX2_undoLast_39 rfl hN (c_set kd4 ?_)
        rw [stV_n _ (by omega)]
        refine w_inc1 hC dX2_undoLast_42 hN (by first | rfl | assumption) (ri_mk (by omega) (by omega)) ?_
        refine v_goto (tgt := 12) hC dX2_undoLast_45 rfl ?_
        exact ih _ (j + 1) (by omega) (by omega) (lt_s (fun k hk => by rw [up_pl _ _ (by omega)]; exact g1 k hk) (by rw [up_same]; exact g2 _ _ (by omega) (by omega))) (fun i k hi hi2 => by rw [up_ne _ _ (by omega)]; exact g2 i k (by omega) hi2) (by rw [up_id _ _ (by omega)]; exact g3)
  exact lp12 7 _ 0 (by omega) (by omega) (fun k h => by omega) (fun i k h h2 => up_ne _ _ h2) (up_same _ _ _ _)
