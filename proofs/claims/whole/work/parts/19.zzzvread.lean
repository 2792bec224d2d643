theorem rdF_0 {t : Nat → Int} {len f i q : Nat} {a : Nat → Int} (h : tkK t len q = 0) : rdF t len (f + 1) i q a = (true, i, q, a) := if_pos h
theorem rdF_1 {t : Nat → Int} {len f i q : Nat} {a : Nat → Int} (h : ¬ tkK t len q = 0) (h2 : (itI t len q a).1 = true) : rdF t len (f + 1) i q a = rdF t len f (i + 1) (tkE t len (itI t len q a).2.1) (itI t len q a).2.2 := by
  show (if _ then _ else _) = _
  rw [if_neg h, if_pos h2]
theorem rdF_2 {t : Nat → Int} {len f i q : Nat} {a : Nat → Int} (h : ¬ tkK t len q = 0) (h2 : (itI t len q a).1 = false) : rdF t len (f + 1) i q a = (false, i, (itI t len q a).2.1, (itI t len q a).2.2) := by
  show (if _ then _ else _) = _
  rw [if_neg h, if_neg (bf_ne h2)]
theorem it_ok2 {t : Nat → Int} {len q : Nat} {r r2 : ItR} (h : itOK t len q r) (e : r = r2) : itOK t len q r2 := e ▸ h
theorem rd_f {t : Nat → Int} {len f i q : Nat} {b : Nat → Int} {r : ItR} {R : Bool × Nat × Nat × (Nat → Int)} {P : Wd → Prop} {w : Wd} (hr : rdF t len (f + 1) i q b = R) (h : ¬ tkK t len q = 0) (eI : itI t len q b = r) (z : r.1 = false) (hf : R.1 = false → ∀ w2, TK w2 t len R.2.2.1 → frR w w2 → P w2) (w5 : Wd) (k5 : TK w5 t len r.2.1) (o : frR w w5) : P w5 := by
  subst eI
  rw [rdF_2 h z] at hr
  subst hr
  exact hf rfl w5 k5 o
theorem rd_s {t : Nat → Int} {len f i q : Nat} {b : Nat → Int} {r : ItR} {R : Bool × Nat × Nat × (Nat → Int)} (hr : rdF t len (f + 1) i q b = R) (h : ¬ tkK t len q = 0) (eI : itI t len q b = r) (z : r.1 = true) : rdF t len f (i + 1) (tkE t len r.2.1) r.2.2 = R := by
  subst eI
  rw [rdF_1 h z] at hr
  exact hr
theorem rd_v0 {t : Nat → Int} {len : Nat} {a : Nat → Int} (z : (itV t len 0 a).1 = false) : (rd0 t len a).1 = false := by unfold rd0; rw [if_neg (bf_ne z)]
theorem rd_vk {t : Nat → Int} {len : Nat} {a : Nat → Int} {w : Wd} (z : (itV t len 0 a).1 = false) (k : TK w t len (itV t len 0 a).2.1) : TK w t len (rd0 t len a).2.2.1 := by unfold rd0; rw [if_neg (bf_ne z)]; exact k
theorem rd_v1 {t : Nat → Int} {len : Nat} {a : Nat → Int} (z : (itV t len 0 a).1 = true) : rdF t len 150 1 (tkE t len (itV t len 0 a).2.1) (itV t len 0 a).2.2 = rd0 t len a := by unfold rd0; rw [if_pos z]
theorem itI_w {t : Nat → Int} {len q : Nat} {a : Nat → Int} (h : nmb t len q 1 = true) : itI t len q a = itW t len q a := if_pos h
theorem itI_p {t : Nat → Int} {len q : Nat} {a : Nat → Int} (h : nmb t len q 1 = false) (h2 : nmb t len q 2 = true) : itI t len q a = itP t len q a := by
  unfold itI
  rw [if_neg (bf_ne h), if_pos h2]
theorem itI_t {t : Nat → Int} {len q : Nat} {a : Nat → Int} (h : nmb t len q 1 = false) (h2 : nmb t len q 2 = false) (h3 : nmb t len q 3 = true) : itI t len q a = itT t len q a := by
  unfold itI
  rw [if_neg (bf_ne h), if_neg (bf_ne h2), if_pos h3]
theorem itI_n {t : Nat → Int} {len q : Nat} {a : Nat → Int} (h : nmb t len q 1 = false) (h2 : nmb t len q 2 = false) (h3 : nmb t len q 3 = false) : itI t len q a = (false, q, a) := by
  unfold itI
  rw [if_neg (bf_ne h), if_neg (bf_ne h2), if_neg (bf_ne h3)]

theorem c_readInto {d : Nat} {w : Wd} {Q : Option MV → Wd → Prop} {t : Nat → Int} {len : Nat} {a : Nat → Int} (hT : TX w t len) (ht : (rd0 t len a).1 = true → ∀ w2, TK w2 t len (rd0 t len a).2.2.1 → w2 33 2 = (rd0 t len a).2.1 → VX w2 9 (rd0 t len a).2.2.2 → AOK (rd0 t len a).2.2.2 → frR w w2 → Q (some (.inl 1)) w2) (hf : (rd0 t len a).1 = false → ∀ w2, TK w2 t len (rd0 t len a).2.2.1 → frR w w2 → Q (some (.inl 0)) w2) : Call (d + 8) mX1_readInto [vR 33, vR 9] w Q := by
  refine call_in (ls := [some (vR 33), some (vR 9), none, none]) (by decide +kernel) rfl (Nat.le_of_ble_eq_true rfl) (fun κ hC hR hN => ?_)
  have hC : ctxB κ RX1 cX1_readInto (d + 8) := hC
  have hN : mlx κ 4 := hN
  have tl0 : ∀ (w2 : Wd) (i : Int), (Q (some (.inl 0)) w2) → VV κ 22 [some (vR 33), some (vR 9), some (vI 0), some (vI i)] [] w2 := by
    intro w2 i hq0
    refine w_il3 hC dX1_readInto_22 ?_
    refine v_sipush hC dX1_readInto_23 (by decide) ?_
    refine v_ic_ge (tgt := 121) hC dX1_readInto_26 rfl (fun h26 => ?_) (fun h26 => ?_)
    · refine w_ic hC dX1_readInto_121 rfl ?_
      refine v_zret hC hR dX1_readInto_122 (by first | decide | omega) ?_
      first | exact hq0 | (exfalso; omega)
    · refine w_il2 hC dX1_readInto_29 ?_
      refine v_if_eq (tgt := 121) hC dX1_readInto_30 rfl (fun _ => ?_) (fun h => absurd h (by decide))
      refine w_ic hC dX1_readInto_121 rfl ?_
      refine v_zret hC hR dX1_readInto_122 (by first | decide | omega) ?_
      first | exact hq0 | (exfalso; omega)
  refine w_al0 hC dX1_readInto_0 ?_
  refine w_ic hC dX1_readInto_1 rfl ?_
  refine v_putI hC dX1_readInto_2 fp_X1_23 rfl rfl ?_
  refine w_al0 hC dX1_readInto_5 ?_
  refine w_ic hC dX1_readInto_6 rfl ?_
  refine v_putI hC dX1_readInto_7 fp_X1_26 rfl rfl ?_
  refine w_al0 hC dX1_readInto_10 ?_
  refine w_vi0 hC vi_X1_29 rfl dX1_readInto_11 rfl hN (c_advance (t := t) (len := len) (p := 0) (hT.fr (fun k => by rw [up_id _ _ (by decide), up_id _ _ (by decide)]) (by rw [up_pl _ _ (by decide), up_pl _ _ (by decide)])) (Nat.zero_le _) (by rw [up_pl _ _ (by decide), up_same]; rfl) (fun w1 k1 o1 => ?_))
  have ft1 : frR w w1 := fun i k h1 h2 => by rw [o1 i k (by omega), up_ne _ _ (by omega), up_ne _ _ (by omega)]
  have i1 : w1 33 2 = 0 := by rw [o1 33 2 (by decide), up_same]
  refine w_al0 hC dX1_readInto_14 ?_
  refine w_al1 hC dX1_readInto_15 ?_
  refine w_vi1 hC vi_X1_32 rfl dX1_readInto_16 rfl hN (c_readVerse (hT.fR ft1) (Nat.zero_le _) k1 (a := a) (fun z w2 k2 v2 o2 => ?_) (fun z w2 k2 o2 => ?_))
  · refine w_is2 hC dX1_readInto_19 hN (by first | rfl | assumption) ?_
    refine w_ic hC dX1_readInto_20 rfl ?_
    refine w_is3 hC dX1_readInto_21 hN (by first | rfl | assumption) ?_
    have lp22 : ∀ (K : Nat) (w2 : Wd) (i p : Nat) (b : Nat → Int), (150 - i) < K → (p ≤ len) → (TK w2 t len p) → (VX w2 9 b) → (AOK b) → (w2 33 2 = i) → (i + 1 ≤ tkE t len p ∧ tkE t len p ≤ len) → (rdF t len (150 - i) (i + 1) (tkE t len p) b = rd0 t len a) → (frR w w2) → VV κ 22 [some (vR 33), some (vR 9), some (vI 1), some (vI (i : Int))] [] w2 := by
      intro K
      induction K with
      | zero => intros; omega
      | succ K ih22 =>
        intro w2 i p b hm22 hpl k2 v2 hA h2 hi hr o2
        have hl := hT.2.2.1
        refine w_il3 hC dX1_readInto_22 ?_
        refine v_sipush hC dX1_readInto_23 (by decide) ?_
        refine v_ic_ge (tgt := 121) hC dX1_readInto_26 rfl (fun h26 => ?_) (fun h26 => ?_)
        · refine w_ic hC dX1_readInto_121 rfl ?_
          refine v_zret hC hR dX1_readInto_122 (by first | decide | omega) ?_
          first | exact hq0 | (exfalso; omega)
        · refine w_il2 hC dX1_readInto_29 ?_
          refine v_if_eq (tgt := 121) hC dX1_readInto_30 rfl (fun h30 => ?_) (fun h30 => ?_)
          · refine w_ic hC dX1_readInto_121 rfl ?_
            refine v_zret hC hR dX1_readInto_122 (by first | decide | omega) ?_
            first | exact hq0 | (exfalso; omega)
          · refine w_al0 hC dX1_readInto_33 ?_
            refine v_dup hC dX1_readInto_34 rfl ?_
            refine v_getI hC dX1_readInto_35 fd_X1_26 rfl rfl ?_
            rw [h2]
            refine w_ic hC dX1_readInto_38 rfl ?_
            refine w_iadd hC dX1_readInto_39 (ri_mk (by omega) (by omega)) ?_
            refine v_putI hC dX1_readInto_40 fp_X1_26 rfl rfl ?_
            refine w_al0 hC dX1_readInto_43 ?_
            refine w_vi0 hC vi_X1_29 rfl dX1_readInto_44 rfl hN (c_advance (t := t) (len := len) (p := tkE t len p) (hT.fR (fun i k h1 h2 => by rw [up_ne _ _ (by omega)]; exact o2 i k h1 h2)) hi.2 (by rw [up_pl _ _ (by decide)]; exact k2.2.1) (fun w4 k4 o4f => ?_))
            have o4 : frR w w4 := fun i k h1 h2 => by rw [o4f i k (by omega), up_ne _ _ (by omega)]; exact o2 i k h1 h2
            have i4 : w4 33 2 = ((i + 1 : Nat) : Int) := by rw [o4f 33 2 (by decide), up_same]; rfl
            have v4 : VX w4 9 b := v2.fr (fun i k h1 h2 => by rw [o4f i k (by omega), up_id _ _ (by omega)])
            have hT4 := hT.fR o4
            have hok := itI_ok (t := t) (len := len) (q := tkE t len p) hA hi.2
            refine w_al0 hC dX1_readInto_47 ?_
            refine v_getI hC dX1_readInto_48 fd_X1_36 rfl rfl ?_
            rw [k4.2.2.1]
            refine v_if_ne (tgt := 56) hC dX1_readInto_51 rfl (fun h51 => ?_) (fun h51 => ?_)
            · rw [show 150 - i = (150 - (i + 1)) + 1 by omega] at hr
              refine w_al0 hC dX1_readInto_56 ?_
              refine v_ldcS (i := 1) (tx := "word") hC rfl dX1_readInto_57 (by decide) ?_
              refine w_vi1 hC vi_X1_41 rfl dX1_readInto_59 rfl hN (c_isName hT4 hi.2 k4 (by decide) (fun g1 => ?_) (fun g1 => ?_))
              · refine v_if_eq (tgt := 74) hC dX1_readInto_62 rfl (fun h => absurd h (by decide)) (fun _ => ?_)
                refine w_al0 hC dX1_readInto_65 ?_
                refine w_al1 hC dX1_readInto_66 ?_
                have eI := itI_w (a := b) g1
                refine w_vi1 hC vi_X1_45 rfl dX1_readInto_67 rfl hN (c_readWord hT4 hi.2 k4 v4 hA (fun z w5 k5 v5 o5 => ?_) (fun z w5 k5 o5 => ?_))
                · refine w_is2 hC dX1_readInto_70 hN (by first | rfl | assumption) ?_
                  refine v_goto (tgt := 115) hC dX1_readInto_71 rfl ?_
                  refine w_inc3 hC dX1_readInto_115 hN (by first | rfl | assumption) (ri_mk (by omega) (by omega)) ?_
                  refine v_goto (tgt := 22) hC dX1_readInto_118 rfl ?_
                  first
                    | exact tl0 w5 _ (rd_f (P := fun w2 => Q (some (.inl 0)) w2) hr h51 eI z hf w5 k5 (o4.t o5))
                    | exact tl0 w4 _ (rd_f (P := fun w2 => Q (some (.inl 0)) w2) hr h51 (itI_n g1 g2 g3) rfl hf w4 k4 o4)
                    | exact ih22 w5 (i + 1) _ _ (by omega) (it_ok2 hok eI).1.2 k5 v5 ((it_ok2 hok eI).2 z).2 (by rw [o5 33 2 (by decide) (by decide)]; exact i4) (by have := it_step (it_ok2 hok eI) z; omega) (rd_s hr h51 eI z) (o4.t o5)
                · refine w_is2 hC dX1_readInto_70 hN (by first | rfl | assumption) ?_
                  refine v_goto (tgt := 115) hC dX1_readInto_71 rfl ?_
                  refine w_inc3 hC dX1_readInto_115 hN (by first | rfl | assumption) (ri_mk (by omega) (by omega)) ?_
                  refine v_goto (tgt := 22) hC dX1_readInto_118 rfl ?_
                  first
                    | exact tl0 w5 _ (rd_f (P := fun w2 => Q (some (.inl 0)) w2) hr h51 eI z hf w5 k5 (o4.t o5))
                    | exact tl0 w4 _ (rd_f (P := fun w2 => Q (some (.inl 0)) w2) hr h51 (itI_n g1 g2 g3) rfl hf w4 k4 o4)
                    | exact ih22 w5 (i + 1) _ _ (by omega) (it_ok2 hok eI).1.2 k5 v5 ((it_ok2 hok eI).2 z).2 (by rw [o5 33 2 (by decide) (by decide)]; exact i4) (by have := it_step (it_ok2 hok eI) z; omega) (rd_s hr h51 eI z) (o4.t o5)
              · refine v_if_eq (tgt := 74) hC dX1_readInto_62 rfl (fun _ => ?_) (fun h => absurd h (by decide))
                refine w_al0 hC dX1_readInto_74 ?_
                refine v_ldcS (i := 2) (tx := "put") hC rfl dX1_readInto_75 (by decide) ?_
                refine w_vi1 hC vi_X1_41 rfl dX1_readInto_77 rfl hN (c_isName hT4 hi.2 k4 (by decide) (fun g2 => ?_) (fun g2 => ?_))
                · refine v_if_eq (tgt := 92) hC dX1_readInto_80 rfl (fun h => absurd h (by decide)) (fun _ => ?_)
                  refine w_al0 hC dX1_readInto_83 ?_
                  refine w_al1 hC dX1_readInto_84 ?_
                  have eI := itI_p (a := b) g1 g2
                  refine w_vi1 hC vi_X1_50 rfl dX1_readInto_85 rfl hN (c_readPut hT4 hi.2 k4 v4 hA (fun z w5 k5 v5 o5 => ?_) (fun z w5 k5 o5 => ?_))
                  · refine w_is2 hC dX1_readInto_88 hN (by first | rfl | assumption) ?_
                    refine v_goto (tgt := 115) hC dX1_readInto_89 rfl ?_
                    refine w_inc3 hC dX1_readInto_115 hN (by first | rfl | assumption) (ri_mk (by omega) (by omega)) ?_
                    refine v_goto (tgt := 22) hC dX1_readInto_118 rfl ?_
                    first
                      | exact tl0 w5 _ (rd_f (P := fun w2 => Q (some (.inl 0)) w2) hr h51 eI z hf w5 k5 (o4.t o5))
                      | exact tl0 w4 _ (rd_f (P := fun w2 => Q (some (.inl 0)) w2) hr h51 (itI_n g1 g2 g3) rfl hf w4 k4 o4)
                      | exact ih22 w5 (i + 1) _ _ (by omega) (it_ok2 hok eI).1.2 k5 v5 ((it_ok2 hok eI).2 z).2 (by rw [o5 33 2 (by decide) (by decide)]; exact i4) (by have := it_step (it_ok2 hok eI) z; omega) (rd_s hr h51 eI z) (o4.t o5)
                  · refine w_is2 hC dX1_readInto_88 hN (by first | rfl | assumption) ?_
                    refine v_goto (tgt := 115) hC dX1_readInto_89 rfl ?_
                    refine w_inc3 hC dX1_readInto_115 hN (by first | rfl | assumption) (ri_mk (by omega) (by omega)) ?_
                    refine v_goto (tgt := 22) hC dX1_readInto_118 rfl ?_
                    first
                      | exact tl0 w5 _ (rd_f (P := fun w2 => Q (some (.inl 0)) w2) hr h51 eI z hf w5 k5 (o4.t o5))
                      | exact tl0 w4 _ (rd_f (P := fun w2 => Q (some (.inl 0)) w2) hr h51 (itI_n g1 g2 g3) rfl hf w4 k4 o4)
                      | exact ih22 w5 (i + 1) _ _ (by omega) (it_ok2 hok eI).1.2 k5 v5 ((it_ok2 hok eI).2 z).2 (by rw [o5 33 2 (by decide) (by decide)]; exact i4) (by have := it_step (it_ok2 hok eI) z; omega) (rd_s hr h51 eI z) (o4.t o5)
                · refine v_if_eq (tgt := 92) hC dX1_readInto_80 rfl (fun _ => ?_) (fun h => absurd h (by decide))
                  refine w_al0 hC dX1_readInto_92 ?_
                  refine v_ldcS (i := 3) (tx := "take") hC rfl dX1_readInto_93 (by decide) ?_
                  refine w_vi1 hC vi_X1_41 rfl dX1_readInto_95 rfl hN (c_isName hT4 hi.2 k4 (by decide) (fun g3 => ?_) (fun g3 => ?_))
                  · refine v_if_eq (tgt := 113) hC dX1_readInto_98 rfl (fun h => absurd h (by decide)) (fun _ => ?_)
                    refine w_al0 hC dX1_readInto_101 ?_
                    refine w_al1 hC dX1_readInto_102 ?_
                    have eI := itI_t (a := b) g1 g2 g3
                    refine w_vi1 hC vi_X1_55 rfl dX1_readInto_103 rfl hN (c_readTake hT4 hi.2 k4 v4 hA (fun z w5 k5 v5 o5 => ?_) (fun z w5 k5 o5 => ?_))
                    · refine v_if_eq (tgt := 113) hC dX1_readInto_106 rfl (fun h => absurd h (by decide)) (fun _ => ?_)
                      refine w_ic hC dX1_readInto_109 rfl ?_
                      refine v_goto (tgt := 114) hC dX1_readInto_110 rfl ?_
                      refine w_is2 hC dX1_readInto_114 hN (by first | rfl | assumption) ?_
                      refine w_inc3 hC dX1_readInto_115 hN (by first | rfl | assumption) (ri_mk (by omega) (by omega)) ?_
                      refine v_goto (tgt := 22) hC dX1_readInto_118 rfl ?_
                      first
                        | exact tl0 w5 _ (rd_f (P := fun w2 => Q (some (.inl 0)) w2) hr h51 eI z hf w5 k5 (o4.t o5))
                        | exact tl0 w4 _ (rd_f (P := fun w2 => Q (some (.inl 0)) w2) hr h51 (itI_n g1 g2 g3) rfl hf w4 k4 o4)
                        | exact ih22 w5 (i + 1) _ _ (by omega) (it_ok2 hok eI).1.2 k5 v5 ((it_ok2 hok eI).2 z).2 (by rw [o5 33 2 (by decide) (by decide)]; exact i4) (by have := it_step (it_ok2 hok eI) z; omega) (rd_s hr h51 eI z) (o4.t o5)
                    · refine v_if_eq (tgt := 113) hC dX1_readInto_106 rfl (fun _ => ?_) (fun h => absurd h (by decide))
                      refine w_ic hC dX1_readInto_113 rfl ?_
                      refine w_is2 hC dX1_readInto_114 hN (by first | rfl | assumption) ?_
                      refine w_inc3 hC dX1_readInto_115 hN (by first | rfl | assumption) (ri_mk (by omega) (by omega)) ?_
                      refine v_goto (tgt := 22) hC dX1_readInto_118 rfl ?_
                      first
                        | exact tl0 w5 _ (rd_f (P := fun w2 => Q (some (.inl 0)) w2) hr h51 eI z hf w5 k5 (o4.t o5))
                        | exact tl0 w4 _ (rd_f (P := fun w2 => Q (some (.inl 0)) w2) hr h51 (itI_n g1 g2 g3) rfl hf w4 k4 o4)
                        | exact ih22 w5 (i + 1) _ _ (by omega) (it_ok2 hok eI).1.2 k5 v5 ((it_ok2 hok eI).2 z).2 (by rw [o5 33 2 (by decide) (by decide)]; exact i4) (by have := it_step (it_ok2 hok eI) z; omega) (rd_s hr h51 eI z) (o4.t o5)
                  · refine v_if_eq (tgt := 113) hC dX1_readInto_98 rfl (fun _ => ?_) (fun h => absurd h (by decide))
                    refine w_ic hC dX1_readInto_113 rfl ?_
                    refine w_is2 hC dX1_readInto_114 hN (by first | rfl | assumption) ?_
                    refine w_inc3 hC dX1_readInto_115 hN (by first | rfl | assumption) (ri_mk (by omega) (by omega)) ?_
                    refine v_goto (tgt := 22) hC dX1_readInto_118 rfl ?_
                    first
                      | exact tl0 w5 _ (rd_f (P := fun w2 => Q (some (.inl 0)) w2) hr h51 eI z hf w5 k5 (o4.t o5))
                      | exact tl0 w4 _ (rd_f (P := fun w2 => Q (some (.inl 0)) w2) hr h51 (itI_n g1 g2 g3) rfl hf w4 k4 o4)
                      | exact ih22 w5 (i + 1) _ _ (by omega) (it_ok2 hok eI).1.2 k5 v5 ((it_ok2 hok eI).2 z).2 (by rw [o5 33 2 (by decide) (by decide)]; exact i4) (by have := it_step (it_ok2 hok eI) z; omega) (rd_s hr h51 eI z) (o4.t o5)
            · refine w_ic hC dX1_readInto_54 rfl ?_
              refine v_zret hC hR dX1_readInto_55 (by first | decide | omega) ?_
              have e : rd0 t len a = (true, i + 1, tkE t len p, b) := by rw [← hr, show 150 - i = (150 - (i + 1)) + 1 by omega, rdF_0 (by omega)]
              rw [e] at ht
              exact ht rfl w4 k4 i4 v4 hA o4
    first
      | exact tl0 w2 _ (hf (rd_v0 z) w2 (rd_vk z k2) (ft1.t o2))
      | exact lp22 151 w2 0 _ _ (by omega) (itV_ok (Nat.zero_le _)).1.2 k2 v2 ((itV_ok (Nat.zero_le _)).2 z).2 (by rw [o2 33 2 (by decide) (by decide)]; exact i1) (by have := it_step (itV_ok (t := t) (len := len) (q := 0) (a := a) (Nat.zero_le _)) z; omega) (rd_v1 z) (ft1.t o2)
  · refine w_is2 hC dX1_readInto_19 hN (by first | rfl | assumption) ?_
    refine w_ic hC dX1_readInto_20 rfl ?_
    refine w_is3 hC dX1_readInto_21 hN (by first | rfl | assumption) ?_
    have lp22 : ∀ (K : Nat) (w2 : Wd) (i p : Nat) (b : Nat → Int), (150 - i) < K → (p ≤ len) → (TK w2 t len p) → (VX w2 9 b) → (AOK b) → (w2 33 2 = i) → (i + 1 ≤ tkE t len p ∧ tkE t len p ≤ len) → (rdF t len (150 - i) (i + 1) (tkE t len p) b = rd0 t len a) → (frR w w2) → VV κ 22 [some (vR 33), some (vR 9), some (vI 1), some (vI (i : Int))] [] w2 := by
      intro K
      induction K with
      | zero => intros; omega
      | succ K ih22 =>
        intro w2 i p b hm22 hpl k2 v2 hA h2 hi hr o2
        have hl := hT.2.2.1
        refine w_il3 hC dX1_readInto_22 ?_
        refine v_sipush hC dX1_readInto_23 (by decide) ?_
        refine v_ic_ge (tgt := 121) hC dX1_readInto_26 rfl (fun h26 => ?_) (fun h26 => ?_)
        · refine w_ic hC dX1_readInto_121 rfl ?_
          refine v_zret hC hR dX1_readInto_122 (by first | decide | omega) ?_
          first | exact hq0 | (exfalso; omega)
        · refine w_il2 hC dX1_readInto_29 ?_
          refine v_if_eq (tgt := 121) hC dX1_readInto_30 rfl (fun h30 => ?_) (fun h30 => ?_)
          · refine w_ic hC dX1_readInto_121 rfl ?_
            refine v_zret hC hR dX1_readInto_122 (by first | decide | omega) ?_
            first | exact hq0 | (exfalso; omega)
          · refine w_al0 hC dX1_readInto_33 ?_
            refine v_dup hC dX1_readInto_34 rfl ?_
            refine v_getI hC dX1_readInto_35 fd_X1_26 rfl rfl ?_
            rw [h2]
            refine w_ic hC dX1_readInto_38 rfl ?_
            refine w_iadd hC dX1_readInto_39 (ri_mk (by omega) (by omega)) ?_
            refine v_putI hC dX1_readInto_40 fp_X1_26 rfl rfl ?_
            refine w_al0 hC dX1_readInto_43 ?_
            refine w_vi0 hC vi_X1_29 rfl dX1_readInto_44 rfl hN (c_advance (t := t) (len := len) (p := tkE t len p) (hT.fR (fun i k h1 h2 => by rw [up_ne _ _ (by omega)]; exact o2 i k h1 h2)) hi.2 (by rw [up_pl _ _ (by decide)]; exact k2.2.1) (fun w4 k4 o4f => ?_))
            have o4 : frR w w4 := fun i k h1 h2 => by rw [o4f i k (by omega), up_ne _ _ (by omega)]; exact o2 i k h1 h2
            have i4 : w4 33 2 = ((i + 1 : Nat) : Int) := by rw [o4f 33 2 (by decide), up_same]; rfl
            have v4 : VX w4 9 b := v2.fr (fun i k h1 h2 => by rw [o4f i k (by omega), up_id _ _ (by omega)])
            have hT4 := hT.fR o4
            have hok := itI_ok (t := t) (len := len) (q := tkE t len p) hA hi.2
            refine w_al0 hC dX1_readInto_47 ?_
            refine v_getI hC dX1_readInto_48 fd_X1_36 rfl rfl ?_
            rw [k4.2.2.1]
            refine v_if_ne (tgt := 56) hC dX1_readInto_51 rfl (fun h51 => ?_) (fun h51 => ?_)
            · rw [show 150 - i = (150 - (i + 1)) + 1 by omega] at hr
              refine w_al0 hC dX1_readInto_56 ?_
              refine v_ldcS (i := 1) (tx := "word") hC rfl dX1_readInto_57 (by decide) ?_
              refine w_vi1 hC vi_X1_41 rfl dX1_readInto_59 rfl hN (c_isName hT4 hi.2 k4 (by decide) (fun g1 => ?_) (fun g1 => ?_))
              · refine v_if_eq (tgt := 74) hC dX1_readInto_62 rfl (fun h => absurd h (by decide)) (fun _ => ?_)
                refine w_al0 hC dX1_readInto_65 ?_
                refine w_al1 hC dX1_readInto_66 ?_
                have eI := itI_w (a := b) g1
                refine w_vi1 hC vi_X1_45 rfl dX1_readInto_67 rfl hN (c_readWord hT4 hi.2 k4 v4 hA (fun z w5 k5 v5 o5 => ?_) (fun z w5 k5 o5 => ?_))
                · refine w_is2 hC dX1_readInto_70 hN (by first | rfl | assumption) ?_
                  refine v_goto (tgt := 115) hC dX1_readInto_71 rfl ?_
                  refine w_inc3 hC dX1_readInto_115 hN (by first | rfl | assumption) (ri_mk (by omega) (by omega)) ?_
                  refine v_goto (tgt := 22) hC dX1_readInto_118 rfl ?_
                  first
                    | exact tl0 w5 _ (rd_f (P := fun w2 => Q (some (.inl 0)) w2) hr h51 eI z hf w5 k5 (o4.t o5))
                    | exact tl0 w4 _ (rd_f (P := fun w2 => Q (some (.inl 0)) w2) hr h51 (itI_n g1 g2 g3) rfl hf w4 k4 o4)
                    | exact ih22 w5 (i + 1) _ _ (by omega) (it_ok2 hok eI).1.2 k5 v5 ((it_ok2 hok eI).2 z).2 (by rw [o5 33 2 (by decide) (by decide)]; exact i4) (by have := it_step (it_ok2 hok eI) z; omega) (rd_s hr h51 eI z) (o4.t o5)
                · refine w_is2 hC dX1_readInto_70 hN (by first | rfl | assumption) ?_
                  refine v_goto (tgt := 115) hC dX1_readInto_71 rfl ?_
                  refine w_inc3 hC dX1_readInto_115 hN (by first | rfl | assumption) (ri_mk (by omega) (by omega)) ?_
                  refine v_goto (tgt := 22) hC dX1_readInto_118 rfl ?_
                  first
                    | exact tl0 w5 _ (rd_f (P := fun w2 => Q (some (.inl 0)) w2) hr h51 eI z hf w5 k5 (o4.t o5))
                    | exact tl0 w4 _ (rd_f (P := fun w2 => Q (some (.inl 0)) w2) hr h51 (itI_n g1 g2 g3) rfl hf w4 k4 o4)
                    | exact ih22 w5 (i + 1) _ _ (by omega) (it_ok2 hok eI).1.2 k5 v5 ((it_ok2 hok eI).2 z).2 (by rw [o5 33 2 (by decide) (by decide)]; exact i4) (by have := it_step (it_ok2 hok eI) z; omega) (rd_s hr h51 eI z) (o4.t o5)
              · refine v_if_eq (tgt := 74) hC dX1_readInto_62 rfl (fun _ => ?_) (fun h => absurd h (by decide))
                refine w_al0 hC dX1_readInto_74 ?_
                refine v_ldcS (i := 2) (tx := "put") hC rfl dX1_readInto_75 (by decide) ?_
                refine w_vi1 hC vi_X1_41 rfl dX1_readInto_77 rfl hN (c_isName hT4 hi.2 k4 (by decide) (fun g2 => ?_) (fun g2 => ?_))
                · refine v_if_eq (tgt := 92) hC dX1_readInto_80 rfl (fun h => absurd h (by decide)) (fun _ => ?_)
                  refine w_al0 hC dX1_readInto_83 ?_
                  refine w_al1 hC dX1_readInto_84 ?_
                  have eI := itI_p (a := b) g1 g2
                  refine w_vi1 hC vi_X1_50 rfl dX1_readInto_85 rfl hN (c_readPut hT4 hi.2 k4 v4 hA (fun z w5 k5 v5 o5 => ?_) (fun z w5 k5 o5 => ?_))
                  · refine w_is2 hC dX1_readInto_88 hN (by first | rfl | assumption) ?_
                    refine v_goto (tgt := 115) hC dX1_readInto_89 rfl ?_
                    refine w_inc3 hC dX1_readInto_115 hN (by first | rfl | assumption) (ri_mk (by omega) (by omega)) ?_
                    refine v_goto (tgt := 22) hC dX1_readInto_118 rfl ?_
                    first
                      | exact tl0 w5 _ (rd_f (P := fun w2 => Q (some (.inl 0)) w2) hr h51 eI z hf w5 k5 (o4.t o5))
                      | exact tl0 w4 _ (rd_f (P := fun w2 => Q (some (.inl 0)) w2) hr h51 (itI_n g1 g2 g3) rfl hf w4 k4 o4)
                      | exact ih22 w5 (i + 1) _ _ (by omega) (it_ok2 hok eI).1.2 k5 v5 ((it_ok2 hok eI).2 z).2 (by rw [o5 33 2 (by decide) (by decide)]; exact i4) (by have := it_step (it_ok2 hok eI) z; omega) (rd_s hr h51 eI z) (o4.t o5)
                  · refine w_is2 hC dX1_readInto_88 hN (by first | rfl | assumption) ?_
                    refine v_goto (tgt := 115) hC dX1_readInto_89 rfl ?_
                    refine w_inc3 hC dX1_readInto_115 hN (by first | rfl | assumption) (ri_mk (by omega) (by omega)) ?_
                    refine v_goto (tgt := 22) hC dX1_readInto_118 rfl ?_
                    first
                      | exact tl0 w5 _ (rd_f (P := fun w2 => Q (some (.inl 0)) w2) hr h51 eI z hf w5 k5 (o4.t o5))
                      | exact tl0 w4 _ (rd_f (P := fun w2 => Q (some (.inl 0)) w2) hr h51 (itI_n g1 g2 g3) rfl hf w4 k4 o4)
                      | exact ih22 w5 (i + 1) _ _ (by omega) (it_ok2 hok eI).1.2 k5 v5 ((it_ok2 hok eI).2 z).2 (by rw [o5 33 2 (by decide) (by decide)]; exact i4) (by have := it_step (it_ok2 hok eI) z; omega) (rd_s hr h51 eI z) (o4.t o5)
                · refine v_if_eq (tgt := 92) hC dX1_readInto_80 rfl (fun _ => ?_) (fun h => absurd h (by decide))
                  refine w_al0 hC dX1_readInto_92 ?_
                  refine v_ldcS (i := 3) (tx := "take") hC rfl dX1_readInto_93 (by decide) ?_
                  refine w_vi1 hC vi_X1_41 rfl dX1_readInto_95 rfl hN (c_isName hT4 hi.2 k4 (by decide) (fun g3 => ?_) (fun g3 => ?_))
                  · refine v_if_eq (tgt := 113) hC dX1_readInto_98 rfl (fun h => absurd h (by decide)) (fun _ => ?_)
                    refine w_al0 hC dX1_readInto_101 ?_
                    refine w_al1 hC dX1_readInto_102 ?_
                    have eI := itI_t (a := b) g1 g2 g3
                    refine w_vi1 hC vi_X1_55 rfl dX1_readInto_103 rfl hN (c_readTake hT4 hi.2 k4 v4 hA (fun z w5 k5 v5 o5 => ?_) (fun z w5 k5 o5 => ?_))
                    · refine v_if_eq (tgt := 113) hC dX1_readInto_106 rfl (fun h => absurd h (by decide)) (fun _ => ?_)
                      refine w_ic hC dX1_readInto_109 rfl ?_
                      refine v_goto (tgt := 114) hC dX1_readInto_110 rfl ?_
                      refine w_is2 hC dX1_readInto_114 hN (by first | rfl | assumption) ?_
                      refine w_inc3 hC dX1_readInto_115 hN (by first | rfl | assumption) (ri_mk (by omega) (by omega)) ?_
                      refine v_goto (tgt := 22) hC dX1_readInto_118 rfl ?_
                      first
                        | exact tl0 w5 _ (rd_f (P := fun w2 => Q (some (.inl 0)) w2) hr h51 eI z hf w5 k5 (o4.t o5))
                        | exact tl0 w4 _ (rd_f (P := fun w2 => Q (some (.inl 0)) w2) hr h51 (itI_n g1 g2 g3) rfl hf w4 k4 o4)
                        | exact ih22 w5 (i + 1) _ _ (by omega) (it_ok2 hok eI).1.2 k5 v5 ((it_ok2 hok eI).2 z).2 (by rw [o5 33 2 (by decide) (by decide)]; exact i4) (by have := it_step (it_ok2 hok eI) z; omega) (rd_s hr h51 eI z) (o4.t o5)
                    · refine v_if_eq (tgt := 113) hC dX1_readInto_106 rfl (fun _ => ?_) (fun h => absurd h (by decide))
                      refine w_ic hC dX1_readInto_113 rfl ?_
                      refine w_is2 hC dX1_readInto_114 hN (by first | rfl | assumption) ?_
                      refine w_inc3 hC dX1_readInto_115 hN (by first | rfl | assumption) (ri_mk (by omega) (by omega)) ?_
                      refine v_goto (tgt := 22) hC dX1_readInto_118 rfl ?_
                      first
                        | exact tl0 w5 _ (rd_f (P := fun w2 => Q (some (.inl 0)) w2) hr h51 eI z hf w5 k5 (o4.t o5))
                        | exact tl0 w4 _ (rd_f (P := fun w2 => Q (some (.inl 0)) w2) hr h51 (itI_n g1 g2 g3) rfl hf w4 k4 o4)
                        | exact ih22 w5 (i + 1) _ _ (by omega) (it_ok2 hok eI).1.2 k5 v5 ((it_ok2 hok eI).2 z).2 (by rw [o5 33 2 (by decide) (by decide)]; exact i4) (by have := it_step (it_ok2 hok eI) z; omega) (rd_s hr h51 eI z) (o4.t o5)
                  · refine v_if_eq (tgt := 113) hC dX1_readInto_98 rfl (fun _ => ?_) (fun h => absurd h (by decide))
                    refine w_ic hC dX1_readInto_113 rfl ?_
                    refine w_is2 hC dX1_readInto_114 hN (by first | rfl | assumption) ?_
                    refine w_inc3 hC dX1_readInto_115 hN (by first | rfl | assumption) (ri_mk (by omega) (by omega)) ?_
                    refine v_goto (tgt := 22) hC dX1_readInto_118 rfl ?_
                    first
                      | exact tl0 w5 _ (rd_f (P := fun w2 => Q (some (.inl 0)) w2) hr h51 eI z hf w5 k5 (o4.t o5))
                      | exact tl0 w4 _ (rd_f (P := fun w2 => Q (some (.inl 0)) w2) hr h51 (itI_n g1 g2 g3) rfl hf w4 k4 o4)
                      | exact ih22 w5 (i + 1) _ _ (by omega) (it_ok2 hok eI).1.2 k5 v5 ((it_ok2 hok eI).2 z).2 (by rw [o5 33 2 (by decide) (by decide)]; exact i4) (by have := it_step (it_ok2 hok eI) z; omega) (rd_s hr h51 eI z) (o4.t o5)
            · refine w_ic hC dX1_readInto_54 rfl ?_
              refine v_zret hC hR dX1_readInto_55 (by first | decide | omega) ?_
              have e : rd0 t len a = (true, i + 1, tkE t len p, b) := by rw [← hr, show 150 - i = (150 - (i + 1)) + 1 by omega, rdF_0 (by omega)]
              rw [e] at ht
              exact ht rfl w4 k4 i4 v4 hA o4
    first
      | exact tl0 w2 _ (hf (rd_v0 z) w2 (rd_vk z k2) (ft1.t o2))
      | exact lp22 151 w2 0 _ _ (by omega) (itV_ok (Nat.zero_le _)).1.2 k2 v2 ((itV_ok (Nat.zero_le _)).2 z).2 (by rw [o2 33 2 (by decide) (by decide)]; exact i1) (by have := it_step (itV_ok (t := t) (len := len) (q := 0) (a := a) (Nat.zero_le _)) z; omega) (rd_v1 z) (ft1.t o2)

theorem rdF_ok {t : Nat → Int} {len : Nat} (f : Nat) : ∀ (i q : Nat) (a : Nat → Int), AOK a → q ≤ len → (rdF t len f i q a).2.2.1 ≤ len := by
  induction f with
  | zero => intro i q a _ hq; exact hq
  | succ f ih =>
    intro i q a hA hq
    by_cases h : tkK t len q = 0
    · rw [rdF_0 h]; exact hq
    · have hok := itI_ok (t := t) hA hq
      cases hb : (itI t len q a).1 with
      | true => rw [rdF_1 h hb]; exact ih _ _ _ (hok.2 hb).2 (it_step hok hb).2
      | false => rw [rdF_2 h hb]; exact hok.1.2
theorem rd0_le {t : Nat → Int} {len : Nat} {a : Nat → Int} : (rd0 t len a).2.2.1 ≤ len := by
  have hok := itV_ok (t := t) (len := len) (q := 0) (a := a) (Nat.zero_le _)
  unfold rd0
  cases hb : (itV t len 0 a).1 with
  | true => rw [if_pos rfl]; exact rdF_ok 150 _ _ _ (hok.2 hb).2 (it_step hok hb).2
  | false => rw [if_neg (by decide)]; exact hok.1.2

theorem c_read {d : Nat} {w : Wd} {Q : Option MV → Wd → Prop} {t : Nat → Int} {len : Nat} {a : Nat → Int} (hT : TX w t len) (hk : (rd0 t len a).1 = true → ∀ w2, VX w2 1 (rd0 t len a).2.2.2 → AOK (rd0 t len a).2.2.2 → (∀ i k : Nat, ¬ (1 ≤ i ∧ i ≤ 16) → ¬ (i = 33 ∧ 2 ≤ k) → w2 i k = w i k) → Q (some (.inl ((rd0 t len a).2.1 : Int))) w2) (hf : (rd0 t len a).1 = false → ∀ w2, frR w w2 → Q (some (.inl (-10 - (tkS t len (rd0 t len a).2.2.1 : Int)))) w2) : Call (d + 9) mX3_read [vR 0] w Q := by
  refine call_in (ls := [some (vR 0)]) (by decide +kernel) rfl (Nat.le_of_ble_eq_true rfl) (fun κ hC hR hN => ?_)
  have hC : ctxB κ RX3 cX3_read (d + 9) := hC
  have hN : mlx κ 1 := hN
  refine w_al0 hC dX3_read_0 ?_
  refine v_getR (off := 33) (j := 33) hC dX3_read_1 fd_X3_28 rfl rfl rfl ?_
  refine w_al0 hC dX3_read_4 ?_
  refine v_getR (off := 9) (j := 9) hC dX3_read_5 fd_X3_16 rfl rfl rfl ?_
  refine w_vi1 hC vi_X3_92 rfl dX3_read_8 rfl hN (c_readInto (a := a) hT (fun z w2 k2 i2 v2 A2 o2 => ?_) (fun z w2 k2 o2 => ?_))
  · refine v_if_ne (tgt := 25) hC dX3_read_11 rfl (fun _ => ?_) (fun h => absurd h (by decide))
    refine w_al0 hC dX3_read_25 ?_
    refine v_getR (off := 1) (j := 1) hC dX3_read_26 fd_X3_10 rfl rfl rfl ?_
    refine w_al0 hC dX3_read_29 ?_
    refine v_getR (off := 9) (j := 9) hC dX3_read_30 fd_X3_16 rfl rfl rfl ?_
    refine w_vi1 hC vi_X3_99 rfl dX3_read_33 rfl hN (c_copyFrom vb1 vb9 (by decide) v2 A2.n A2.nc A2.mc A2.uc (fun w3 v3 o3 => ?_))
    refine w_al0 hC dX3_read_36 ?_
    refine v_getR (off := 33) (j := 33) hC dX3_read_37 fd_X3_28 rfl rfl rfl ?_
    refine v_getI hC dX3_read_40 fd_X3_103 rfl rfl ?_
    rw [o3 33 2 (by omega), i2]
    refine v_iret hC hR dX3_read_43 ?_
    exact hk z w3 v3 A2 (fun i k h1 h2 => by rw [o3 i k (by omega)]; exact o2 i k (by omega) h2)
  · refine v_if_ne (tgt := 25) hC dX3_read_11 rfl (fun h => absurd h (by decide)) (fun _ => ?_)
    refine v_bipush hC dX3_read_14 (by decide) ?_
    refine w_al0 hC dX3_read_16 ?_
    refine v_getR (off := 33) (j := 33) hC dX3_read_17 fd_X3_28 rfl rfl rfl ?_
    refine v_getI hC dX3_read_20 fd_X3_96 rfl rfl ?_
    rw [k2.1]
    have hl := hT.2.2.1
    have hq : (rd0 t len a).2.2.1 ≤ len := rd0_le
    have hs := tkS_r (t := t) hq
    refine w_isub hC dX3_read_23 (ri_mk (by omega) (by omega)) ?_
    refine v_iret hC hR dX3_read_24 ?_
    exact hf z w2 o2
