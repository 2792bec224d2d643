theorem c_addMark {d : Nat} {w : Wd} {Q : Option MV → Wd → Prop} {b : Nat} {a : Nat → Int} (hb : vb b) (hv : VX w b a) {wd n j x : Int} (hn : 0 ≤ a 53 ∧ a 53 < 6) (h3 : 0 ≤ a 3 ∧ a 3 ≤ 8) (h34 : 0 ≤ a 34 ∧ a 34 ≤ 6) (h78 : 0 ≤ a 78 ∧ a 78 ≤ 8) (hQ : ∀ w2, VX w2 b (sMark a wd n j x) → smB w w2 b → Q none w2) : Call (d + 1) mX2_addMark [vR b, vI wd, vI n, vI j, vI x] w Q := by
  obtain ⟨kd0, kd1, kd2, kd3, kd4, kd5, kd6, kd7⟩ := kdV hb
  obtain ⟨sz1, sz2, sz3, sz4, sz5, sz6, sz7⟩ := szV hb
  obtain ⟨⟨x0, x1, x2, x3, x4, x5, x6⟩, xw, xl, xn, xm, xu⟩ := hv
  have u1 : ∀ (w : Wd) (k : Nat) (z : Int) (j : Nat), up w (b + 1) k z b j = w b j := fun w k z j => up_id _ _ (by omega)
  have u2 : ∀ (w : Wd) (k : Nat) (z : Int) (j : Nat), up w (b + 2) k z b j = w b j := fun w k z j => up_id _ _ (by omega)
  have u3 : ∀ (w : Wd) (k : Nat) (z : Int) (j : Nat), up w (b + 3) k z b j = w b j := fun w k z j => up_id _ _ (by omega)
  have u4 : ∀ (w : Wd) (k : Nat) (z : Int) (j : Nat), up w (b + 4) k z b j = w b j := fun w k z j => up_id _ _ (by omega)
  have u5 : ∀ (w : Wd) (k : Nat) (z : Int) (j : Nat), up w (b + 5) k z b j = w b j := fun w k z j => up_id _ _ (by omega)
  have u6 : ∀ (w : Wd) (k : Nat) (z : Int) (j : Nat), up w (b + 6) k z b j = w b j := fun w k z j => up_id _ _ (by omega)
  have u7 : ∀ (w : Wd) (k : Nat) (z : Int) (j : Nat), up w (b + 7) k z b j = w b j := fun w k z j => up_id _ _ (by omega)
  obtain ⟨m, hm⟩ := Int.eq_ofNat_of_zero_le hn.1
  refine call_in (ls := [some (vR b), some (vI wd), some (vI n), some (vI j), some (vI x), none]) (by decide +kernel) rfl (Nat.le_of_ble_eq_true rfl) (fun κ hC hR hN => ?_)
  have hC : ctxB κ RX2 cX2_addMark (d + 1) := hC
  have hN : mlx κ 6 := hN
  refine w_al0 hC dX2_addMark_0 ?_
  refine v_getI hC dX2_addMark_1 fd_X2_55 kd0 rfl ?_
  rw [x5, hm]
  refine w_ic hC dX2_addMark_4 rfl ?_
  refine w_imul hC dX2_addMark_5 (ri_mk (by omega) (by omega)) ?_
  rw [show (m : Int) * 4 = ((4 * m : Nat) : Int) by omega]
  refine w_is5 hC dX2_addMark_6 hN (by first | rfl | assumption) ?_
  refine w_al0 hC dX2_addMark_8 ?_
  refine v_getR (off := 6) (j := b + 6) hC dX2_addMark_9 fd_X2_31 kd0 rfl rfl ?_
  refine w_il5 hC dX2_addMark_12 ?_
  refine w_il1 hC dX2_addMark_14 ?_
  refine w_sn3 hC sn_X2_83 dX2_addMark_15 rfl hN (c_set kd6 ?_)
  rw [stV_n _ (by omega)]
  refine w_al0 hC dX2_addMark_18 ?_
  refine v_getR (off := 6) (j := b + 6) hC dX2_addMark_19 fd_X2_31 kd0 rfl rfl ?_
  refine w_il5 hC dX2_addMark_22 ?_
  refine w_ic hC dX2_addMark_24 rfl ?_
  refine w_iadd hC dX2_addMark_25 (ri_mk (by omega) (by omega)) ?_
  rw [show ((4 * m : Nat) : Int) + 1 = ((4 * m + 1 : Nat) : Int) by omega]
  refine w_il2 hC dX2_addMark_26 ?_
  refine w_sn3 hC sn_X2_83 dX2_addMark_27 rfl hN (c_set kd6 ?_)
  rw [stV_n _ (by omega)]
  refine w_al0 hC dX2_addMark_30 ?_
  refine v_getR (off := 6) (j := b + 6) hC dX2_addMark_31 fd_X2_31 kd0 rfl rfl ?_
  refine w_il5 hC dX2_addMark_34 ?_
  refine w_ic hC dX2_addMark_36 rfl ?_
  refine w_iadd hC dX2_addMark_37 (ri_mk (by omega) (by omega)) ?_
  rw [show ((4 * m : Nat) : Int) + 2 = ((4 * m + 2 : Nat) : Int) by omega]
  refine w_il3 hC dX2_addMark_38 ?_
  refine w_sn3 hC sn_X2_83 dX2_addMark_39 rfl hN (c_set kd6 ?_)
  rw [stV_n _ (by omega)]
  refine w_al0 hC dX2_addMark_42 ?_
  refine v_getR (off := 6) (j := b + 6) hC dX2_addMark_43 fd_X2_31 kd0 rfl rfl ?_
  refine w_il5 hC dX2_addMark_46 ?_
  refine w_ic hC dX2_addMark_48 rfl ?_
  refine w_iadd hC dX2_addMark_49 (ri_mk (by omega) (by omega)) ?_
  rw [show ((4 * m : Nat) : Int) + 3 = ((4 * m + 3 : Nat) : Int) by omega]
  refine w_il4 hC dX2_addMark_50 ?_
  refine w_sn3 hC sn_X2_83 dX2_addMark_52 rfl hN (c_set kd6 ?_)
  rw [stV_n _ (by omega)]
  refine w_al0 hC dX2_addMark_55 ?_
  refine v_dup hC dX2_addMark_56 rfl ?_
  refine v_getI hC dX2_addMark_57 fd_X2_55 kd0 rfl ?_
  rw [u6, u6, u6, u6, x5, hm]
  refine w_ic hC dX2_addMark_60 rfl ?_
  refine w_iadd hC dX2_addMark_61 (ri_mk (by omega) (by omega)) ?_
  refine v_putI hC dX2_addMark_62 fp_X2_55 kd0 rfl ?_
  refine v_vret hC hR dX2_addMark_65 ?_
  refine hQ _ ?_ (fun i k hi => ?_)
  · refine ⟨⟨?_, ?_, ?_, ?_, ?_, ?_, ?_⟩, fun k hk => ?_, fun j9 hj => ?_, fun k hk => ?_, fun k hk => ?_, fun k hk => ?_⟩
    · (simp only [sMark, ua, up, hm, Int.toNat_natCast, Nat.add_eq_left, Nat.left_eq_add, Nat.add_left_cancel_iff, true_and, and_true, false_and, and_false, if_true, if_false, reduceIte, and_self, not_true_eq_false, not_false_eq_true]; try simp (disch := omega) only [if_neg, if_pos]; try ((repeat' split) <;> omega))
    · (simp only [sMark, ua, up, hm, Int.toNat_natCast, Nat.add_eq_left, Nat.left_eq_add, Nat.add_left_cancel_iff, true_and, and_true, false_and, and_false, if_true, if_false, reduceIte, and_self, not_true_eq_false, not_false_eq_true]; try simp (disch := omega) only [if_neg, if_pos]; try ((repeat' split) <;> omega))
    · (simp only [sMark, ua, up, hm, Int.toNat_natCast, Nat.add_eq_left, Nat.left_eq_add, Nat.add_left_cancel_iff, true_and, and_true, false_and, and_false, if_true, if_false, reduceIte, and_self, not_true_eq_false, not_false_eq_true]; try simp (disch := omega) only [if_neg, if_pos]; try ((repeat' split) <;> omega))
    · (simp only [sMark, ua, up, hm, Int.toNat_natCast, Nat.add_eq_left, Nat.left_eq_add, Nat.add_left_cancel_iff, true_and, and_true, false_and, and_false, if_true, if_false, reduceIte, and_self, not_true_eq_false, not_false_eq_true]; try simp (disch := omega) only [if_neg, if_pos]; try ((repeat' split) <;> omega))
    · (simp only [sMark, ua, up, hm, Int.toNat_natCast, Nat.add_eq_left, Nat.left_eq_add, Nat.add_left_cancel_iff, true_and, and_true, false_and, and_false, if_true, if_false, reduceIte, and_self, not_true_eq_false, not_false_eq_true]; try simp (disch := omega) only [if_neg, if_pos]; try ((repeat' split) <;> omega))
    · (simp only [sMark, ua, up, hm, Int.toNat_natCast, Nat.add_eq_left, Nat.left_eq_add, Nat.add_left_cancel_iff, true_and, and_true, false_and, and_false, if_true, if_false, reduceIte, and_self, not_true_eq_false, not_false_eq_true]; try simp (disch := omega) only [if_neg, if_pos]; try ((repeat' split) <;> omega))
    · (simp only [sMark, ua, up, hm, Int.toNat_natCast, Nat.add_eq_left, Nat.left_eq_add, Nat.add_left_cancel_iff, true_and, and_true, false_and, and_false, if_true, if_false, reduceIte, and_self, not_true_eq_false, not_false_eq_true]; try simp (disch := omega) only [if_neg, if_pos]; try ((repeat' split) <;> omega))
    · rw [show (sMark a wd n j x) 3 = a 3 by simp only [sMark, ua, up, hm, Int.toNat_natCast, Nat.add_eq_left, Nat.left_eq_add, Nat.add_left_cancel_iff, true_and, and_true, false_and, and_false, if_true, if_false, reduceIte, and_self, not_true_eq_false, not_false_eq_true]; try simp (disch := omega) only [if_neg, if_pos]; try ((repeat' split) <;> omega)] at hk
      have h9 := xw k (by omega)
      refine ⟨?_, ?_, ?_⟩ <;> (simp only [sMark, ua, up, hm, Int.toNat_natCast, Nat.add_eq_left, Nat.left_eq_add, Nat.add_left_cancel_iff, true_and, and_true, false_and, and_false, if_true, if_false, reduceIte, and_self, not_true_eq_false, not_false_eq_true]; try simp (disch := omega) only [if_neg, if_pos]; try ((repeat' split) <;> omega))
    · have h9 := xl j9 hj
      (simp only [sMark, ua, up, hm, Int.toNat_natCast, Nat.add_eq_left, Nat.left_eq_add, Nat.add_left_cancel_iff, true_and, and_true, false_and, and_false, if_true, if_false, reduceIte, and_self, not_true_eq_false, not_false_eq_true]; try simp (disch := omega) only [if_neg, if_pos]; try ((repeat' split) <;> omega))
    · rw [show (sMark a wd n j x) 34 = a 34 by simp only [sMark, ua, up, hm, Int.toNat_natCast, Nat.add_eq_left, Nat.left_eq_add, Nat.add_left_cancel_iff, true_and, and_true, false_and, and_false, if_true, if_false, reduceIte, and_self, not_true_eq_false, not_false_eq_true]; try simp (disch := omega) only [if_neg, if_pos]; try ((repeat' split) <;> omega)] at hk
      have h9 := xn k (by omega)
      (simp only [sMark, ua, up, hm, Int.toNat_natCast, Nat.add_eq_left, Nat.left_eq_add, Nat.add_left_cancel_iff, true_and, and_true, false_and, and_false, if_true, if_false, reduceIte, and_self, not_true_eq_false, not_false_eq_true]; try simp (disch := omega) only [if_neg, if_pos]; try ((repeat' split) <;> omega))
    · rw [show (sMark a wd n j x) 53 = (m : Int) + 1 by simp only [sMark, ua, up, hm, Int.toNat_natCast, Nat.add_eq_left, Nat.left_eq_add, Nat.add_left_cancel_iff, true_and, and_true, false_and, and_false, if_true, if_false, reduceIte, and_self, not_true_eq_false, not_false_eq_true]; try simp (disch := omega) only [if_neg, if_pos]; try ((repeat' split) <;> omega)] at hk
      by_cases q : k < 4 * m
      · have h9 := xm k (by omega)
        (simp only [sMark, ua, up, hm, Int.toNat_natCast, Nat.add_eq_left, Nat.left_eq_add, Nat.add_left_cancel_iff, true_and, and_true, false_and, and_false, if_true, if_false, reduceIte, and_self, not_true_eq_false, not_false_eq_true]; try simp (disch := omega) only [if_neg, if_pos]; try ((repeat' split) <;> omega))
      · (simp only [sMark, ua, up, hm, Int.toNat_natCast, Nat.add_eq_left, Nat.left_eq_add, Nat.add_left_cancel_iff, true_and, and_true, false_and, and_false, if_true, if_false, reduceIte, and_self, not_true_eq_false, not_false_eq_true]; try simp (disch := omega) only [if_neg, if_pos]; try ((repeat' split) <;> omega))
    · rw [show (sMark a wd n j x) 78 = a 78 by simp only [sMark, ua, up, hm, Int.toNat_natCast, Nat.add_eq_left, Nat.left_eq_add, Nat.add_left_cancel_iff, true_and, and_true, false_and, and_false, if_true, if_false, reduceIte, and_self, not_true_eq_false, not_false_eq_true]; try simp (disch := omega) only [if_neg, if_pos]; try ((repeat' split) <;> omega)] at hk
      have h9 := xu k (by omega)
      (simp only [sMark, ua, up, hm, Int.toNat_natCast, Nat.add_eq_left, Nat.left_eq_add, Nat.add_left_cancel_iff, true_and, and_true, false_and, and_false, if_true, if_false, reduceIte, and_self, not_true_eq_false, not_false_eq_true]; try simp (disch := omega) only [if_neg, if_pos]; try ((repeat' split) <;> omega))
  · simp only [up]
    rw [if_neg (by omega), if_neg (by omega), if_neg (by omega), if_neg (by omega), if_neg (by omega)]

theorem c_dropOldestUndo {d : Nat} {w : Wd} {Q : Option MV → Wd → Prop} {b : Nat} {a : Nat → Int} (hb : vb b) (hv : VX w b a) (h78 : a 78 = 8) (h3 : 0 ≤ a 3 ∧ a 3 ≤ 8) (h34 : 0 ≤ a 34 ∧ a 34 ≤ 6) (h53 : 0 ≤ a 53 ∧ a 53 ≤ 6) (hQ : ∀ w2, VX w2 b (sDrop a) → smB w w2 b → Q none w2) : Call (d + 1) mX2_dropOldestUndo [vR b] w Q := by
  obtain ⟨kd0, kd1, kd2, kd3, kd4, kd5, kd6, kd7⟩ := kdV hb
  obtain ⟨sz1, sz2, sz3, sz4, sz5, sz6, sz7⟩ := szV hb
  obtain ⟨⟨x0, x1, x2, x3, x4, x5, x6⟩, xw, xl, xn, xm, xu⟩ := hv
  have u1 : ∀ (w : Wd) (k : Nat) (z : Int) (j : Nat), up w (b + 1) k z b j = w b j := fun w k z j => up_id _ _ (by omega)
  have u2 : ∀ (w : Wd) (k : Nat) (z : Int) (j : Nat), up w (b + 2) k z b j = w b j := fun w k z j => up_id _ _ (by omega)
  have u3 : ∀ (w : Wd) (k : Nat) (z : Int) (j : Nat), up w (b + 3) k z b j = w b j := fun w k z j => up_id _ _ (by omega)
  have u4 : ∀ (w : Wd) (k : Nat) (z : Int) (j : Nat), up w (b + 4) k z b j = w b j := fun w k z j => up_id _ _ (by omega)
  have u5 : ∀ (w : Wd) (k : Nat) (z : Int) (j : Nat), up w (b + 5) k z b j = w b j := fun w k z j => up_id _ _ (by omega)
  have u6 : ∀ (w : Wd) (k : Nat) (z : Int) (j : Nat), up w (b + 6) k z b j = w b j := fun w k z j => up_id _ _ (by omega)
  have u7 : ∀ (w : Wd) (k : Nat) (z : Int) (j : Nat), up w (b + 7) k z b j = w b j := fun w k z j => up_id _ _ (by omega)
  refine call_in (ls := [some (vR b), none]) (by decide +kernel) rfl (Nat.le_of_ble_eq_true rfl) (fun κ hC hR hN => ?_)
  have hC : ctxB κ RX2 cX2_dropOldestUndo (d + 1) := hC
  have hN : mlx κ 2 := hN
  refine v_bipush hC dX2_dropOldestUndo_0 (by decide) ?_
  refine w_is1 hC dX2_dropOldestUndo_2 hN (by first | rfl | assumption) ?_
  have lp3 : ∀ (k : Nat) (w2 : Wd) (j : Nat), (48 - j) < k → (6 ≤ j ∧ j ≤ 48) → (∀ k, k < j - 6 → w2 (b + 7) k = w (b + 7) (k + 6)) → (∀ i k, ¬ (i = b + 7 ∧ k < j - 6) → w2 i k = w i k) → VV κ 3 [some (vR b), some (vI (j : Int))] [] w2 := by
    intro k
    induction k with
    | zero => intros; omega
    | succ k ih =>
      intro w2 j hm3 hj h1 h2
      refine w_il1 hC dX2_dropOldestUndo_3 ?_
      refine v_bipush hC dX2_dropOldestUndo_4 (by decide) ?_
      refine v_ic_ge (tgt := 34) hC dX2_dropOldestUndo_6 rfl (fun h6 => ?_) (fun h6 => ?_)
      · refine w_al0 hC dX2_dropOldestUndo_34 ?_
        refine v_bipush hC dX2_dropOldestUndo_35 (by decide) ?_
        refine v_putI hC dX2_dropOldestUndo_37 fp_X2_58 kd0 rfl ?_
        refine v_vret hC hR dX2_dropOldestUndo_40 ?_
        have hj48 : j = 48 := by omega
        subst hj48
        have g0 : ∀ j, w2 b j = w b j := fun j => h2 b j (by omega)
        have y0 := g0 0
        have y1 := g0 1
        have y2 := g0 2
        have y3 := g0 3
        have y4 := g0 4
        have y5 := g0 5
        have y6 := g0 6
        refine hQ _ ?_ (fun i k hi => ?_)
        · refine ⟨⟨?_, ?_, ?_, ?_, ?_, ?_, ?_⟩, fun k hk => ?_, fun j hj => ?_, fun k hk => ?_, fun k hk => ?_, fun k hk => ?_⟩
          · (simp only [sDrop, up, Nat.add_eq_left, Nat.left_eq_add, Nat.add_left_cancel_iff, true_and, and_true, false_and, and_false, if_true, if_false, reduceIte, and_self, not_true_eq_false, not_false_eq_true]; try simp (disch := omega) only [if_neg, if_pos]; try ((repeat' split) <;> omega))
          · (simp only [sDrop, up, Nat.add_eq_left, Nat.left_eq_add, Nat.add_left_cancel_iff, true_and, and_true, false_and, and_false, if_true, if_false, reduceIte, and_self, not_true_eq_false, not_false_eq_true]; try simp (disch := omega) only [if_neg, if_pos]; try ((repeat' split) <;> omega))
          · (simp only [sDrop, up, Nat.add_eq_left, Nat.left_eq_add, Nat.add_left_cancel_iff, true_and, and_true, false_and, and_false, if_true, if_false, reduceIte, and_self, not_true_eq_false, not_false_eq_true]; try simp (disch := omega) only [if_neg, if_pos]; try ((repeat' split) <;> omega))
          · (simp only [sDrop, up, Nat.add_eq_left, Nat.left_eq_add, Nat.add_left_cancel_iff, true_and, and_true, false_and, and_false, if_true, if_false, reduceIte, and_self, not_true_eq_false, not_false_eq_true]; try simp (disch := omega) only [if_neg, if_pos]; try ((repeat' split) <;> omega))
          · (simp only [sDrop, up, Nat.add_eq_left, Nat.left_eq_add, Nat.add_left_cancel_iff, true_and, and_true, false_and, and_false, if_true, if_false, reduceIte, and_self, not_true_eq_false, not_false_eq_true]; try simp (disch := omega) only [if_neg, if_pos]; try ((repeat' split) <;> omega))
          · (simp only [sDrop, up, Nat.add_eq_left, Nat.left_eq_add, Nat.add_left_cancel_iff, true_and, and_true, false_and, and_false, if_true, if_false, reduceIte, and_self, not_true_eq_false, not_false_eq_true]; try simp (disch := omega) only [if_neg, if_pos]; try ((repeat' split) <;> omega))
          · (simp only [sDrop, up, Nat.add_eq_left, Nat.left_eq_add, Nat.add_left_cancel_iff, true_and, and_true, false_and, and_false, if_true, if_false, reduceIte, and_self, not_true_eq_false, not_false_eq_true]; try simp (disch := omega) only [if_neg, if_pos]; try ((repeat' split) <;> omega))
          · rw [show (sDrop a) 3 = a 3 by simp only [sDrop, Nat.add_eq_left, Nat.left_eq_add, Nat.add_left_cancel_iff, true_and, and_true, false_and, and_false, if_true, if_false, reduceIte, and_self, not_true_eq_false, not_false_eq_true]; try simp (disch := omega) only [if_neg, if_pos]; try ((repeat' split) <;> omega)] at hk
            have h9 := xw k (by omega)
            have g1 := h2 (b + 1) k (by omega)
            have g2 := h2 (b + 2) k (by omega)
            have g3 := h2 (b + 3) k (by omega)
            refine ⟨?_, ?_, ?_⟩ <;> (simp only [sDrop, up, Nat.add_eq_left, Nat.left_eq_add, Nat.add_left_cancel_iff, true_and, and_true, false_and, and_false, if_true, if_false, reduceIte, and_self, not_true_eq_false, not_false_eq_true]; try simp (disch := omega) only [if_neg, if_pos]; try ((repeat' split) <;> omega))
          · have h9 := xl j hj
            have g1 := h2 (b + 4) j (by omega)
            (simp only [sDrop, up, Nat.add_eq_left, Nat.left_eq_add, Nat.add_left_cancel_iff, true_and, and_true, false_and, and_false, if_true, if_false, reduceIte, and_self, not_true_eq_false, not_false_eq_true]; try simp (disch := omega) only [if_neg, if_pos]; try ((repeat' split) <;> omega))
          · rw [show (sDrop a) 34 = a 34 by simp only [sDrop, Nat.add_eq_left, Nat.left_eq_add, Nat.add_left_cancel_iff, true_and, and_true, false_and, and_false, if_true, if_false, reduceIte, and_self, not_true_eq_false, not_false_eq_true]; try simp (disch := omega) only [if_neg, if_pos]; try ((repeat' split) <;> omega)] at hk
            have h9 := xn k (by omega)
            have g1 := h2 (b + 5) k (by omega)
            (simp only [sDrop, up, Nat.add_eq_left, Nat.left_eq_add, Nat.add_left_cancel_iff, true_and, and_true, false_and, and_false, if_true, if_false, reduceIte, and_self, not_true_eq_false, not_false_eq_true]; try simp (disch := omega) only [if_neg, if_pos]; try ((repeat' split) <;> omega))
          · rw [show (sDrop a) 53 = a 53 by simp only [sDrop, Nat.add_eq_left, Nat.left_eq_add, Nat.add_left_cancel_iff, true_and, and_true, false_and, and_false, if_true, if_false, reduceIte, and_self, not_true_eq_false, not_false_eq_true]; try simp (disch := omega) only [if_neg, if_pos]; try ((repeat' split) <;> omega)] at hk
            have h9 := xm k (by omega)
            have g1 := h2 (b + 6) k (by omega)
            (simp only [sDrop, up, Nat.add_eq_left, Nat.left_eq_add, Nat.add_left_cancel_iff, true_and, and_true, false_and, and_false, if_true, if_false, reduceIte, and_self, not_true_eq_false, not_false_eq_true]; try simp (disch := omega) only [if_neg, if_pos]; try ((repeat' split) <;> omega))
          · rw [show (sDrop a) 78 = 7 by simp only [sDrop, Nat.add_eq_left, Nat.left_eq_add, Nat.add_left_cancel_iff, true_and, and_true, false_and, and_false, if_true, if_false, reduceIte, and_self, not_true_eq_false, not_false_eq_true]; try simp (disch := omega) only [if_neg, if_pos]; try ((repeat' split) <;> omega)] at hk
            have h9 := xu (k + 6) (by omega)
            have g1 := h1 k (by omega)
            rw [show 79 + (k + 6) = 79 + k + 6 by omega] at h9
            (simp only [sDrop, up, Nat.add_eq_left, Nat.left_eq_add, Nat.add_left_cancel_iff, true_and, and_true, false_and, and_false, if_true, if_false, reduceIte, and_self, not_true_eq_false, not_false_eq_true]; try simp (disch := omega) only [if_neg, if_pos]; try ((repeat' split) <;> omega))
        · rw [up_id _ _ (by omega)]
          exact h2 i k (by omega)
      · refine w_al0 hC dX2_dropOldestUndo_9 ?_
        refine v_getR (off := 7) (j := b + 7) hC dX2_dropOldestUndo_10 fd_X2_34 kd0 rfl rfl ?_
        refine w_il1 hC dX2_dropOldestUndo_13 ?_
        refine v_bipush hC dX2_dropOldestUndo_14 (by decide) ?_
        refine w_isub hC dX2_dropOldestUndo_16 (ri_mk (by omega) (by omega)) ?_
        rw [show (j : Int) - 6 = ((j - 6 : Nat) : Int) by omega]
        refine w_al0 hC dX2_dropOldestUndo_17 ?_
        refine v_getR (off := 7) (j := b + 7) hC dX2_dropOldestUndo_18 fd_X2_34 kd0 rfl rfl ?_
        refine w_il1 hC dX2_dropOldestUndo_21 ?_
        refine w_sn2 hC sn_X2_65 dX2_dropOldestUndo_22 rfl hN (c_at kd7 ?_)
        rw [atV_n w2 (by omega)]
        refine w_sn3 hC sn_X2_83 dX2_dropOldestUndo_25 rfl hN (c_set kd7 ?_)
        rw [stV_n _ (by omega)]
        refine w_inc1 hC dX2_dropOldestUndo_28 hN (by first | rfl | assumption) (ri_mk (by omega) (by omega)) ?_
        refine v_goto (tgt := 3) hC dX2_dropOldestUndo_31 rfl ?_
        exact ih _ (j + 1) (by omega) (by omega) (fun k hk => by
          by_cases q : k = j - 6
          · subst q; rw [up_same, h2 _ _ (by omega)]; congr 1; omega
          · rw [up_pl _ _ q]; exact h1 k (by omega)) (fun i k hi => by rw [up_ne _ _ (by omega)]; exact h2 i k (by omega))
  exact lp3 49 w 6 (by omega) (by omega) (fun k h => by omega) (fun i k h => rfl)
