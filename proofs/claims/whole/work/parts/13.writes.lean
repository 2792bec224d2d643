/-! what writes a verse -/
def smO (w w2 : Wd) (P : Nat → Prop) : Prop := ∀ i k : Nat, P i → w2 i k = w i k
def smB (w w2 : Wd) (b : Nat) : Prop := ∀ i k : Nat, (i < b ∨ b + 8 ≤ i) → w2 i k = w i k
def ua (a : Nat → Int) (k : Nat) (v : Int) : Nat → Int := fun i => if i = k then v else a i
def sDrop (a : Nat → Int) : Nat → Int := fun i => if i = 78 then 7 else if 79 ≤ i ∧ i < 121 then a (i + 6) else a i
def sKeep1 (a : Nat → Int) : Nat → Int := fun i => if i = 78 then a 78 + 1 else if 79 + 6 * (a 78).toNat ≤ i ∧ i < 79 + 6 * (a 78).toNat + 6 then a (28 + (i - (79 + 6 * (a 78).toNat))) else a i
def sKeep (a : Nat → Int) : Nat → Int := if a 78 = 8 then sKeep1 (sDrop a) else sKeep1 a
def sUndo (a : Nat → Int) : Nat → Int := fun i => if i = 78 then a 78 - 1 else if 28 ≤ i ∧ i < 34 then a (79 + 6 * (a 78 - 1).toNat + (i - 28)) else a i
def sAddW (a : Nat → Int) (k n c : Int) : Nat → Int := ua (ua (ua (ua a (4 + (a 3).toNat) k) (12 + (a 3).toNat) n) (20 + (a 3).toNat) c) 3 (a 3 + 1)
def sBegin (f m t : Int) : Nat → Int := fun i => if i = 0 then f else if i = 1 then m else if i = 2 then t else if 28 ≤ i ∧ i < 34 then -1 else 0
def sNote (a : Nat → Int) (n j x : Int) : Nat → Int := ua (ua (ua (ua a (35 + 3 * (a 34).toNat) n) (36 + 3 * (a 34).toNat) j) (37 + 3 * (a 34).toNat) x) 34 (a 34 + 1)
def sMark (a : Nat → Int) (wd n j x : Int) : Nat → Int := ua (ua (ua (ua (ua a (54 + 4 * (a 53).toNat) wd) (55 + 4 * (a 53).toNat) n) (56 + 4 * (a 53).toNat) j) (57 + 4 * (a 53).toNat) x) 53 (a 53 + 1)

theorem c_min {d : Nat} {w : Wd} {Q : Option MV → Wd → Prop} {x y : Int} (hQ : Q (some (.inl (min x y))) w) : Call (d + 0) mJ9_min_7cf53 [vI x, vI y] w Q := by
  refine call_in (ls := [some (vI x), some (vI y)]) (by decide +kernel) rfl (Nat.le_of_ble_eq_true rfl) (fun κ hC hR hN => ?_)
  have hC : ctxB κ RJ9 cJ9_min_7cf53 (d + 0) := hC
  have hN : mlx κ 2 := hN
  refine w_il0 hC dJ9_min_7cf53_0 ?_
  refine w_il1 hC dJ9_min_7cf53_1 ?_
  refine v_ic_gt (tgt := 9) hC dJ9_min_7cf53_2 rfl (fun h2 => ?_) (fun h2 => ?_)
  · refine w_il1 hC dJ9_min_7cf53_9 ?_
    refine v_iret hC hR dJ9_min_7cf53_10 ?_
    exact qz (by omega) hQ
  · refine w_il0 hC dJ9_min_7cf53_5 ?_
    refine v_goto (tgt := 10) hC dJ9_min_7cf53_6 rfl ?_
    refine v_iret hC hR dJ9_min_7cf53_10 ?_
    exact qz (by omega) hQ

theorem c_max {d : Nat} {w : Wd} {Q : Option MV → Wd → Prop} {x y : Int} (hQ : Q (some (.inl (max x y))) w) : Call (d + 0) mJ9_max_7cf53 [vI x, vI y] w Q := by
  refine call_in (ls := [some (vI x), some (vI y)]) (by decide +kernel) rfl (Nat.le_of_ble_eq_true rfl) (fun κ hC hR hN => ?_)
  have hC : ctxB κ RJ9 cJ9_max_7cf53 (d + 0) := hC
  have hN : mlx κ 2 := hN
  refine w_il0 hC dJ9_max_7cf53_0 ?_
  refine w_il1 hC dJ9_max_7cf53_1 ?_
  refine v_ic_lt (tgt := 9) hC dJ9_max_7cf53_2 rfl (fun h2 => ?_) (fun h2 => ?_)
  · refine w_il1 hC dJ9_max_7cf53_9 ?_
    refine v_iret hC hR dJ9_max_7cf53_10 ?_
    exact qz (by omega) hQ
  · refine w_il0 hC dJ9_max_7cf53_5 ?_
    refine v_goto (tgt := 10) hC dJ9_max_7cf53_6 rfl ?_
    refine v_iret hC hR dJ9_max_7cf53_10 ?_
    exact qz (by omega) hQ

theorem c_fill {d : Nat} {w : Wd} {Q : Option MV → Wd → Prop} {r : Nat} {v : Int} (hk : kdT r = 5) (hQ : ∀ w2 : Wd, (∀ k, k < szT r → w2 r k = v) → smO w w2 (fun i => i ≠ r) → Q none w2) : Call (d + 0) mJ7_fill_53178 [vR r, vI v] w Q := by
  refine call_in (ls := [some (vR r), some (vI v), none, none]) (by decide +kernel) rfl (Nat.le_of_ble_eq_true rfl) (fun κ hC hR hN => ?_)
  have hC : ctxB κ RJ7 cJ7_fill_53178 (d + 0) := hC
  have hN : mlx κ 4 := hN
  refine w_ic hC dJ7_fill_53178_0 rfl ?_
  refine w_is2 hC dJ7_fill_53178_1 hN (by first | rfl | assumption) ?_
  refine w_al0 hC dJ7_fill_53178_2 ?_
  refine v_alen hC dJ7_fill_53178_3 hk ?_
  refine w_is3 hC dJ7_fill_53178_4 hN (by first | rfl | assumption) ?_
  have lp5 : ∀ (k : Nat) (w2 : Wd) (j : Nat), (szT r - j) < k → (j ≤ szT r) → (∀ k, k < j → w2 r k = v) → (smO w w2 (fun i => i ≠ r)) → VV κ 5 [some (vR r), some (vI v), some (vI (j : Int)), some (vI (szT r : Int))] [] w2 := by
    intro k
    induction k with
    | zero => intros; omega
    | succ k ih =>
      intro w2 j hm5 hj h1 h2
      have hz : ∀ i, i < 50 → szT i ≤ 1792 := by decide +kernel
      have hzr := hz r (kdT_lt (by omega))
      refine w_il2 hC dJ7_fill_53178_5 ?_
      refine w_il3 hC dJ7_fill_53178_6 ?_
      refine v_ic_ge (tgt := 20) hC dJ7_fill_53178_7 rfl (fun h7 => ?_) (fun h7 => ?_)
      · refine v_vret hC hR dJ7_fill_53178_20 ?_
        exact hQ w2 (fun k hk2 => h1 k (by omega)) h2
      · refine w_al0 hC dJ7_fill_53178_10 ?_
        refine w_il2 hC dJ7_fill_53178_11 ?_
        refine w_il1 hC dJ7_fill_53178_12 ?_
        refine v_iast hC dJ7_fill_53178_13 hk (by omega) (by omega) ?_
        refine w_inc2 hC dJ7_fill_53178_14 hN (by first | rfl | assumption) (ri_mk (by omega) (by omega)) ?_
        refine v_goto (tgt := 5) hC dJ7_fill_53178_17 rfl ?_
        exact ih _ (j + 1) (by omega) (by omega) (lt_s (fun k hk2 => by rw [up_pl _ _ (by omega)]; exact h1 k hk2) (by rw [Int.toNat_natCast, up_same])) (fun i k hi => by rw [up_id _ _ hi]; exact h2 i k hi)
  exact lp5 (szT r + 1) w 0 (by omega) (by omega) (fun k h => by omega) (fun i k h => rfl)

theorem lk_X3_344 : Cond.methodLink RX3 344 arraycopyName ∈ BIG := BIG_in 452 (by decide +kernel) (by decide +kernel)
theorem c_copyRow {d : Nat} {w : Wd} {Q : Option MV → Wd → Prop} {x y n : Nat} (hx : kdT x = 5) (hy : kdT y = 5) (sx : szT x = n) (sy : szT y = n) (hn : n ≤ 2000) (hQ : ∀ w2 : Wd, (∀ k, k < n → w2 y k = w x k) → smO w w2 (fun i => i ≠ y) → Q none w2) : Call (d + 1) mX3_copyRow [vR x, vR y] w Q := by
  refine call_in (ls := [some (vR x), some (vR y)]) (by decide +kernel) rfl (Nat.le_of_ble_eq_true rfl) (fun κ hC hR hN => ?_)
  have hC : ctxB κ RX3 cX3_copyRow (d + 1) := hC
  have hN : mlx κ 2 := hN
  refine w_al0 hC dX3_copyRow_0 ?_
  refine w_ic hC dX3_copyRow_1 rfl ?_
  refine w_al1 hC dX3_copyRow_2 ?_
  refine w_ic hC dX3_copyRow_3 rfl ?_
  refine w_al0 hC dX3_copyRow_4 ?_
  refine w_alen hC n dX3_copyRow_5 hx sx ?_
  refine w_al1 hC dX3_copyRow_6 ?_
  refine w_alen hC n dX3_copyRow_7 hy sy ?_
  refine w_st2 hC st_X3_189 dX3_copyRow_8 rfl hN (c_min ?_)
  rw [Int.min_self]
  refine v_copy hC dX3_copyRow_11 hN lk_X3_344 hx hy (by omega) (by omega) (by omega) (by omega) (by omega) ?_
  refine v_vret hC hR dX3_copyRow_14 ?_
  refine hQ _ (fun k hk => ?_) (fun i k hi => ?_)
  · unfold cpW
    rw [if_pos ⟨rfl, by omega, by simp; omega⟩]
    simp
  · unfold cpW
    rw [if_neg (fun q => hi q.1)]

theorem c_addWord {d : Nat} {w : Wd} {Q : Option MV → Wd → Prop} {b : Nat} {a : Nat → Int} (hb : vb b) (hv : VX w b a) {kd n c : Int} (hn : 0 ≤ a 3 ∧ a 3 < 8) (h34 : 0 ≤ a 34 ∧ a 34 ≤ 6) (h53 : 0 ≤ a 53 ∧ a 53 ≤ 6) (h78 : 0 ≤ a 78 ∧ a 78 ≤ 8) (hQ : ∀ w2, VX w2 b (sAddW a kd n c) → smB w w2 b → Q none w2) : Call (d + 1) mX2_addWord [vR b, vI kd, vI n, vI c] w Q := by
  obtain ⟨kd0, kd1, kd2, kd3, kd4, kd5, kd6, kd7⟩ := kdV hb
  obtain ⟨sz1, sz2, sz3, sz4, sz5, sz6, sz7⟩ := szV hb
  obtain ⟨⟨x0, x1, x2, x3, x4, x5, x6⟩, xw, xl, xn, xm, xu⟩ := hv
  have u1 : ∀ (w : Wd) (k : Nat) (z : Int) (j : Nat), up w (b + 1) k z b j = w b j := fun w k z j => up_id _ _ (by omega)
  have u2 : ∀ (w : Wd) (k : Nat) (z : Int) (j : Nat), up w (b + 2) k z b j = w b j := fun w k z j => up_id _ _ (by omega)
  have u3 : ∀ (w : Wd) (k : Nat) (z : Int) (j : Nat), up w (b + 3) k z b j = w b j := fun w k z j => up_id _ _ (by omega)
  have u4 : ∀ (w : Wd) (k : Nat) (z : Int) (j : Nat), up w (b + 4) k z b j = w b j := fun w k z j => up_id _ _ (by omega)
  have u5 : ∀ (w : Wd) (k : Nat) (z : Int) (j : Nat), up w (b + 5) k z b j = w b j := fun w k z j => up_id _ _ (by omega)
  have u6 : ∀ (w : Wd) (k : Nat) (z : Int) (j : Nat), up w (b + 6) k z b j = w b j := fun w k z j => up_id _ _ (by omega)
  have u7 : ∀ (w : Wd) (k : Nat) (z : Int) (j : Nat), up w (b + 7) k z b j = w b j := fun w k z j => up_id _ _ (by omega)
  obtain ⟨m, hm⟩ := Int.eq_ofNat_of_zero_le hn.1
  refine call_in (ls := [some (vR b), some (vI kd), some (vI n), some (vI c)]) (by decide +kernel) rfl (Nat.le_of_ble_eq_true rfl) (fun κ hC hR hN => ?_)
  have hC : ctxB κ RX2 cX2_addWord (d + 1) := hC
  have hN : mlx κ 4 := hN
  refine w_al0 hC dX2_addWord_0 ?_
  refine v_getR (off := 1) (j := b + 1) hC dX2_addWord_1 fd_X2_15 kd0 rfl rfl ?_
  refine w_al0 hC dX2_addWord_4 ?_
  refine v_getI hC dX2_addWord_5 fd_X2_49 kd0 rfl ?_
  rw [x3, hm]
  refine w_il1 hC dX2_addWord_8 ?_
  refine w_sn3 hC sn_X2_83 dX2_addWord_9 rfl hN (c_set kd1 ?_)
  rw [stV_n _ (by omega)]
  refine w_al0 hC dX2_addWord_12 ?_
  refine v_getR (off := 2) (j := b + 2) hC dX2_addWord_13 fd_X2_19 kd0 rfl rfl ?_
  refine w_al0 hC dX2_addWord_16 ?_
  refine v_getI hC dX2_addWord_17 fd_X2_49 kd0 rfl ?_
  rw [u1, x3, hm]
  refine w_il2 hC dX2_addWord_20 ?_
  refine w_sn3 hC sn_X2_83 dX2_addWord_21 rfl hN (c_set kd2 ?_)
  rw [stV_n _ (by omega)]
  refine w_al0 hC dX2_addWord_24 ?_
  refine v_getR (off := 3) (j := b + 3) hC dX2_addWord_25 fd_X2_22 kd0 rfl rfl ?_
  refine w_al0 hC dX2_addWord_28 ?_
  refine v_getI hC dX2_addWord_29 fd_X2_49 kd0 rfl ?_
  rw [u2, u1, x3, hm]
  refine w_il3 hC dX2_addWord_32 ?_
  refine w_sn3 hC sn_X2_83 dX2_addWord_33 rfl hN (c_set kd3 ?_)
  rw [stV_n _ (by omega)]
  refine w_al0 hC dX2_addWord_36 ?_
  refine v_dup hC dX2_addWord_37 rfl ?_
  refine v_getI hC dX2_addWord_38 fd_X2_49 kd0 rfl ?_
  rw [u3, u2, u1, x3, hm]
  refine w_ic hC dX2_addWord_41 rfl ?_
  refine w_iadd hC dX2_addWord_42 (ri_mk (by omega) (by omega)) ?_
  refine v_putI hC dX2_addWord_43 fp_X2_49 kd0 rfl ?_
  refine v_vret hC hR dX2_addWord_46 ?_
  refine hQ _ ?_ (fun i k hi => ?_)
  · refine ⟨⟨?_, ?_, ?_, ?_, ?_, ?_, ?_⟩, fun k hk => ?_, fun j hj => ?_, fun k hk => ?_, fun k hk => ?_, fun k hk => ?_⟩
    · (simp only [sAddW, ua, up, hm, Int.toNat_natCast, Nat.add_eq_left, Nat.left_eq_add, Nat.add_left_cancel_iff, true_and, and_true, false_and, and_false, if_true, if_false, reduceIte, and_self, not_true_eq_false, not_false_eq_true]; (try simp (disch := omega) only [if_neg, if_pos]); all_goals ((repeat' split) <;> omega))
    · (simp only [sAddW, ua, up, hm, Int.toNat_natCast, Nat.add_eq_left, Nat.left_eq_add, Nat.add_left_cancel_iff, true_and, and_true, false_and, and_false, if_true, if_false, reduceIte, and_self, not_true_eq_false, not_false_eq_true]; (try simp (disch := omega) only [if_neg, if_pos]); all_goals ((repeat' split) <;> omega))
    · (simp only [sAddW, ua, up, hm, Int.toNat_natCast, Nat.add_eq_left, Nat.left_eq_add, Nat.add_left_cancel_iff, true_and, and_true, false_and, and_false, if_true, if_false, reduceIte, and_self, not_true_eq_false, not_false_eq_true]; (try simp (disch := omega) only [if_neg, if_pos]); all_goals ((repeat' split) <;> omega))
    · (simp only [sAddW, ua, up, hm, Int.toNat_natCast, Nat.add_eq_left, Nat.left_eq_add, Nat.add_left_cancel_iff, true_and, and_true, false_and, and_false, if_true, if_false, reduceIte, and_self, not_true_eq_false, not_false_eq_true]; (try simp (disch := omega) only [if_neg, if_pos]); all_goals ((repeat' split) <;> omega))
    · (simp only [sAddW, ua, up, hm, Int.toNat_natCast, Nat.add_eq_left, Nat.left_eq_add, Nat.add_left_cancel_iff, true_and, and_true, false_and, and_false, if_true, if_false, reduceIte, and_self, not_true_eq_false, not_false_eq_true]; (try simp (disch := omega) only [if_neg, if_pos]); all_goals ((repeat' split) <;> omega))
    · (simp only [sAddW, ua, up, hm, Int.toNat_natCast, Nat.add_eq_left, Nat.left_eq_add, Nat.add_left_cancel_iff, true_and, and_true, false_and, and_false, if_true, if_false, reduceIte, and_self, not_true_eq_false, not_false_eq_true]; (try simp (disch := omega) only [if_neg, if_pos]); all_goals ((repeat' split) <;> omega))
    · (simp only [sAddW, ua, up, hm, Int.toNat_natCast, Nat.add_eq_left, Nat.left_eq_add, Nat.add_left_cancel_iff, true_and, and_true, false_and, and_false, if_true, if_false, reduceIte, and_self, not_true_eq_false, not_false_eq_true]; (try simp (disch := omega) only [if_neg, if_pos]); all_goals ((repeat' split) <;> omega))
    · rw [show (sAddW a kd n c) 3 = (m : Int) + 1 by simp only [sAddW, ua, up, hm, Int.toNat_natCast, Nat.add_eq_left, Nat.left_eq_add, Nat.add_left_cancel_iff, true_and, and_true, false_and, and_false, if_true, if_false, reduceIte, and_self, not_true_eq_false, not_false_eq_true]; (try simp (disch := omega) only [if_neg, if_pos]); try ((repeat' split) <;> omega)] at hk
      by_cases q : k < m
      · have h9 := xw k (by omega)
        refine ⟨?_, ?_, ?_⟩ <;> (simp only [sAddW, ua, up, hm, Int.toNat_natCast, Nat.add_eq_left, Nat.left_eq_add, Nat.add_left_cancel_iff, true_and, and_true, false_and, and_false, if_true, if_false, reduceIte, and_self, not_true_eq_false, not_false_eq_true]; (try simp (disch := omega) only [if_neg, if_pos]); all_goals ((repeat' split) <;> omega))
      · refine ⟨?_, ?_, ?_⟩ <;> (simp only [sAddW, ua, up, hm, Int.toNat_natCast, Nat.add_eq_left, Nat.left_eq_add, Nat.add_left_cancel_iff, true_and, and_true, false_and, and_false, if_true, if_false, reduceIte, and_self, not_true_eq_false, not_false_eq_true]; (try simp (disch := omega) only [if_neg, if_pos]); all_goals ((repeat' split) <;> omega))
    · have h9 := xl j hj
      (simp only [sAddW, ua, up, hm, Int.toNat_natCast, Nat.add_eq_left, Nat.left_eq_add, Nat.add_left_cancel_iff, true_and, and_true, false_and, and_false, if_true, if_false, reduceIte, and_self, not_true_eq_false, not_false_eq_true]; (try simp (disch := omega) only [if_neg, if_pos]); all_goals ((repeat' split) <;> omega))
    · rw [show (sAddW a kd n c) 34 = a 34 by simp only [sAddW, ua, up, hm, Int.toNat_natCast, Nat.add_eq_left, Nat.left_eq_add, Nat.add_left_cancel_iff, true_and, and_true, false_and, and_false, if_true, if_false, reduceIte, and_self, not_true_eq_false, not_false_eq_true]; (try simp (disch := omega) only [if_neg, if_pos]); try ((repeat' split) <;> omega)] at hk
      have h9 := xn k (by omega)
      (simp only [sAddW, ua, up, hm, Int.toNat_natCast, Nat.add_eq_left, Nat.left_eq_add, Nat.add_left_cancel_iff, true_and, and_true, false_and, and_false, if_true, if_false, reduceIte, and_self, not_true_eq_false, not_false_eq_true]; (try simp (disch := omega) only [if_neg, if_pos]); all_goals ((repeat' split) <;> omega))
    · rw [show (sAddW a kd n c) 53 = a 53 by simp only [sAddW, ua, up, hm, Int.toNat_natCast, Nat.add_eq_left, Nat.left_eq_add, Nat.add_left_cancel_iff, true_and, and_true, false_and, and_false, if_true, if_false, reduceIte, and_self, not_true_eq_false, not_false_eq_true]; (try simp (disch := omega) only [if_neg, if_pos]); try ((repeat' split) <;> omega)] at hk
      have h9 := xm k (by omega)
      (simp only [sAddW, ua, up, hm, Int.toNat_natCast, Nat.add_eq_left, Nat.left_eq_add, Nat.add_left_cancel_iff, true_and, and_true, false_and, and_false, if_true, if_false, reduceIte, and_self, not_true_eq_false, not_false_eq_true]; (try simp (disch := omega) only [if_neg, if_pos]); all_goals ((repeat' split) <;> omega))
    · rw [show (sAddW a kd n c) 78 = a 78 by simp only [sAddW, ua, up, hm, Int.toNat_natCast, Nat.add_eq_left, Nat.left_eq_add, Nat.add_left_cancel_iff, true_and, and_true, false_and, and_false, if_true, if_false, reduceIte, and_self, not_true_eq_false, not_false_eq_true]; (try simp (disch := omega) only [if_neg, if_pos]); try ((repeat' split) <;> omega)] at hk
      have h9 := xu k (by omega)
      (simp only [sAddW, ua, up, hm, Int.toNat_natCast, Nat.add_eq_left, Nat.left_eq_add, Nat.add_left_cancel_iff, true_and, and_true, false_and, and_false, if_true, if_false, reduceIte, and_self, not_true_eq_false, not_false_eq_true]; (try simp (disch := omega) only [if_neg, if_pos]); all_goals ((repeat' split) <;> omega))
  · simp only [up]
    rw [if_neg (by omega), if_neg (by omega), if_neg (by omega), if_neg (by omega)]
