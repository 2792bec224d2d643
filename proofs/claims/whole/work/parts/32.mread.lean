theorem d_isVerseItem {d : Nat} {w : Wd} {Q : Option MV → Wd → Prop} {t : Nat → Int} {len p : Nat} {a : Nat → Int} (hT : TXm w t len) (hp : p ≤ len) (hk : TKm w t len p) (hr : RX w a) (ha : a = bg0) (hn : nmb t len p 0 = true) (ht : (itV t len p a).1 = true → ∀ w2, TKm w2 t len (itV t len p a).2.1 → RX w2 (itV t len p a).2.2 → frM w w2 → Q (some (.inl 1)) w2) (hf : (itV t len p a).1 = false → ∀ w2, TKm w2 t len (itV t len p a).2.1 → frM w w2 → Q (some (.inl 0)) w2) : Call (d + 4) mX4_isVerseItem [vR 39] w Q := by
  refine call_in (ls := [some (vR 39)]) (by decide +kernel) rfl (Nat.le_of_ble_eq_true rfl) (fun κ hC hR hN => ?_)
  have hC : ctxB κ RX4 cX4_isVerseItem (d + 4) := hC
  have hN : mlx κ 1 := hN
  refine w_al0 hC dX4_isVerseItem_0 ?_
  refine w_ic hC dX4_isVerseItem_1 rfl ?_
  refine w_ic hC dX4_isVerseItem_2 rfl ?_
  have q1 := te_r (t := t) hp
  have q2 := te_r (t := t) q1.2
  have q3 := lt_all (t := t) q2.2
  refine w_vi2 hC vi_X4_107 rfl dX4_isVerseItem_3 rfl hN (d_isNumber hT (p := tkE t len p) (z := 5) (te_r hp).2 hk.2.1 (fun w2 g2 k2 n2 o2 => ?_) (fun w2 g2 k2 o2 => ?_))
  · refine v_if_ne (tgt := 11) hC dX4_isVerseItem_6 rfl (fun _ => ?_) (fun h => absurd h (by decide))
    refine w_al0 hC dX4_isVerseItem_11 ?_
    refine v_getR (off := 2) (j := 41) hC dX4_isVerseItem_12 fd_X4_13 rfl rfl rfl ?_
    refine w_ic hC dX4_isVerseItem_15 rfl ?_
    refine w_al0 hC dX4_isVerseItem_16 ?_
    refine v_getI hC dX4_isVerseItem_17 fd_X4_91 rfl rfl ?_
    rw [n2]
    have hv := tkV_r q1.2 g2.1
    refine w_iastk hC 127 0 dX4_isVerseItem_20 rfl rfl rfl (by omega) ?_
    refine w_al0 hC dX4_isVerseItem_21 ?_
    refine v_getR (off := 2) (j := 41) hC dX4_isVerseItem_22 fd_X4_13 rfl rfl rfl ?_
    refine w_ic hC dX4_isVerseItem_25 rfl ?_
    refine w_al0 hC dX4_isVerseItem_26 ?_
    refine w_ic hC dX4_isVerseItem_27 rfl ?_
    refine w_vi1 hC vi_X4_111 rfl dX4_isVerseItem_28 rfl hN (d_lettersThere (w := up w2 41 0 (tkV t len (tkE t len p))) ((hT.fm (frM.of o2)).fm (frM.up (fun _ _ _ _ => rfl) _ _)) (p := tkE t len (tkE t len p)) (z := 1) q2.2 (k2.u _ _).2.1 (fun w3 g3 k3 n3 o3 => ?_) (fun w3 g3 k3 o3 => ?_))
    · refine w_iastk hC 127 1 dX4_isVerseItem_31 rfl rfl rfl (by omega) ?_
      refine w_al0 hC dX4_isVerseItem_32 ?_
      refine v_getR (off := 2) (j := 41) hC dX4_isVerseItem_33 fd_X4_13 rfl rfl rfl ?_
      refine w_ic hC dX4_isVerseItem_36 rfl ?_
      refine w_al0 hC dX4_isVerseItem_37 ?_
      refine v_getI hC dX4_isVerseItem_38 fd_X4_91 rfl rfl ?_
      try rw [up_id _ _ (by decide), n3]
      refine w_iastk hC 127 2 dX4_isVerseItem_41 rfl rfl rfl (by omega) ?_
      refine w_al0 hC dX4_isVerseItem_42 ?_
      refine v_getR (off := 2) (j := 41) hC dX4_isVerseItem_43 fd_X4_13 rfl rfl rfl ?_
      refine w_ic hC dX4_isVerseItem_46 rfl ?_
      refine w_ialdk hC 127 1 dX4_isVerseItem_47 rfl rfl rfl (by omega) ?_
      rw [up_pl _ _ (by decide), up_same]
      refine v_if_le (tgt := 55) hC dX4_isVerseItem_48 rfl (fun h48 => ?_) (fun h48 => ?_)
      · refine w_ic hC dX4_isVerseItem_55 rfl ?_
        refine v_zret hC hR dX4_isVerseItem_56 (by first | decide | omega) ?_
        have hnf : ¬ (nmb t len p 0 = false) := fun z => by rw [hn] at z; exact Bool.noConfusion z
        have hf2 := (((frM.of o2).up 0 (tkV t len (tkE t len p))).tr (frM.of o3))
        first
        | (exfalso; omega)
        | (have e : itV t len p a = (true, leP t len (tkE t len (tkE t len p)), sBegin (tkV t len (tkE t len p)) (leN t len (tkE t len (tkE t len p))) (leC t len (tkE t len (tkE t len p)))) := by unfold itV; rw [if_neg hnf, if_neg (fun z => z ⟨g2.1, by omega⟩), if_pos ⟨g3.1, by omega⟩]
           rw [e] at ht
           subst ha
           exact ht rfl _ ((k3.u _ _).u _ _) ((((hr.f o2).u 0 _).f o3).u 1 _ |>.u 2 _ |>.g (bg_ua _ _ _)) ((hf2.up _ _).up _ _))
        | (have e : itV t len p a = (false, leP t len (tkE t len (tkE t len p)), a) := by unfold itV; rw [if_neg hnf, if_neg (fun z => z ⟨g2.1, by omega⟩), if_neg (fun z => g3 ⟨z.1, by omega⟩)]
           rw [e] at hf
           exact hf rfl _ ((k3.u _ _).u _ _) ((hf2.up _ _).up _ _))
      · refine w_ic hC dX4_isVerseItem_51 rfl ?_
        refine v_goto (tgt := 56) hC dX4_isVerseItem_52 rfl ?_
        refine v_zret hC hR dX4_isVerseItem_56 (by first | decide | omega) ?_
        have hnf : ¬ (nmb t len p 0 = false) := fun z => by rw [hn] at z; exact Bool.noConfusion z
        have hf2 := (((frM.of o2).up 0 (tkV t len (tkE t len p))).tr (frM.of o3))
        first
        | (exfalso; omega)
        | (have e : itV t len p a = (true, leP t len (tkE t len (tkE t len p)), sBegin (tkV t len (tkE t len p)) (leN t len (tkE t len (tkE t len p))) (leC t len (tkE t len (tkE t len p)))) := by unfold itV; rw [if_neg hnf, if_neg (fun z => z ⟨g2.1, by omega⟩), if_pos ⟨g3.1, by omega⟩]
           rw [e] at ht
           subst ha
           exact ht rfl _ ((k3.u _ _).u _ _) ((((hr.f o2).u 0 _).f o3).u 1 _ |>.u 2 _ |>.g (bg_ua _ _ _)) ((hf2.up _ _).up _ _))
        | (have e : itV t len p a = (false, leP t len (tkE t len (tkE t len p)), a) := by unfold itV; rw [if_neg hnf, if_neg (fun z => z ⟨g2.1, by omega⟩), if_neg (fun z => g3 ⟨z.1, by omega⟩)]
           rw [e] at hf
           exact hf rfl _ ((k3.u _ _).u _ _) ((hf2.up _ _).up _ _))
    · refine w_iastk hC 127 1 dX4_isVerseItem_31 rfl rfl rfl (by omega) ?_
      refine w_al0 hC dX4_isVerseItem_32 ?_
      refine v_getR (off := 2) (j := 41) hC dX4_isVerseItem_33 fd_X4_13 rfl rfl rfl ?_
      refine w_ic hC dX4_isVerseItem_36 rfl ?_
      refine w_al0 hC dX4_isVerseItem_37 ?_
      refine v_getI hC dX4_isVerseItem_38 fd_X4_91 rfl rfl ?_
      try rw [up_id _ _ (by decide), n3]
      refine w_iastk hC 127 2 dX4_isVerseItem_41 rfl rfl rfl (by omega) ?_
      refine w_al0 hC dX4_isVerseItem_42 ?_
      refine v_getR (off := 2) (j := 41) hC dX4_isVerseItem_43 fd_X4_13 rfl rfl rfl ?_
      refine w_ic hC dX4_isVerseItem_46 rfl ?_
      refine w_ialdk hC 127 1 dX4_isVerseItem_47 rfl rfl rfl (by omega) ?_
      rw [up_pl _ _ (by decide), up_same]
      refine v_if_le (tgt := 55) hC dX4_isVerseItem_48 rfl (fun h48 => ?_) (fun h48 => ?_)
      · refine w_ic hC dX4_isVerseItem_55 rfl ?_
        refine v_zret hC hR dX4_isVerseItem_56 (by first | decide | omega) ?_
        have hnf : ¬ (nmb t len p 0 = false) := fun z => by rw [hn] at z; exact Bool.noConfusion z
        have hf2 := (((frM.of o2).up 0 (tkV t len (tkE t len p))).tr (frM.of o3))
        first
        | (exfalso; omega)
        | (have e : itV t len p a = (true, leP t len (tkE t len (tkE t len p)), sBegin (tkV t len (tkE t len p)) (leN t len (tkE t len (tkE t len p))) (leC t len (tkE t len (tkE t len p)))) := by unfold itV; rw [if_neg hnf, if_neg (fun z => z ⟨g2.1, by omega⟩), if_pos ⟨g3.1, by omega⟩]
           rw [e] at ht
           subst ha
           exact ht rfl _ ((k3.u _ _).u _ _) ((((hr.f o2).u 0 _).f o3).u 1 _ |>.u 2 _ |>.g (bg_ua _ _ _)) ((hf2.up _ _).up _ _))
        | (have e : itV t len p a = (false, leP t len (tkE t len (tkE t len p)), a) := by unfold itV; rw [if_neg hnf, if_neg (fun z => z ⟨g2.1, by omega⟩), if_neg (fun z => g3 ⟨z.1, by omega⟩)]
           rw [e] at hf
           exact hf rfl _ ((k3.u _ _).u _ _) ((hf2.up _ _).up _ _))
      · refine w_ic hC dX4_isVerseItem_51 rfl ?_
        refine v_goto (tgt := 56) hC dX4_isVerseItem_52 rfl ?_
        refine v_zret hC hR dX4_isVerseItem_56 (by first | decide | omega) ?_
        have hnf : ¬ (nmb t len p 0 = false) := fun z => by rw [hn] at z; exact Bool.noConfusion z
        have hf2 := (((frM.of o2).up 0 (tkV t len (tkE t len p))).tr (frM.of o3))
        first
        | (exfalso; omega)
        | (have e : itV t len p a = (true, leP t len (tkE t len (tkE t len p)), sBegin (tkV t len (tkE t len p)) (leN t len (tkE t len (tkE t len p))) (leC t len (tkE t len (tkE t len p)))) := by unfold itV; rw [if_neg hnf, if_neg (fun z => z ⟨g2.1, by omega⟩), if_pos ⟨g3.1, by omega⟩]
           rw [e] at ht
           subst ha
           exact ht rfl _ ((k3.u _ _).u _ _) ((((hr.f o2).u 0 _).f o3).u 1 _ |>.u 2 _ |>.g (bg_ua _ _ _)) ((hf2.up _ _).up _ _))
        | (have e : itV t len p a = (false, leP t len (tkE t len (tkE t len p)), a) := by unfold itV; rw [if_neg hnf, if_neg (fun z => z ⟨g2.1, by omega⟩), if_neg (fun z => g3 ⟨z.1, by omega⟩)]
           rw [e] at hf
           exact hf rfl _ ((k3.u _ _).u _ _) ((hf2.up _ _).up _ _))
  · refine v_if_ne (tgt := 11) hC dX4_isVerseItem_6 rfl (fun h => absurd h (by decide)) (fun _ => ?_)
    refine w_ic hC dX4_isVerseItem_9 rfl ?_
    refine v_zret hC hR dX4_isVerseItem_10 (by first | decide | omega) ?_
    have e : itV t len p a = (false, tkE t len p, a) := by unfold itV; rw [if_neg (fun z => by rw [hn] at z; exact Bool.noConfusion z), if_pos (fun z => g2 ⟨z.1, by omega⟩)]
    rw [e] at hf
    exact hf rfl w2 k2 (frM.of o2)

theorem kn_cg {w : Wd} {a : Nat → Int} {n c : Int} (h : RX w a) (an : 0 ≤ a 3 ∧ a 3 ≤ 8) (hk : knB (w 41) n c) : knB a n c := by
  obtain ⟨k, h1, h2, h3⟩ := hk
  rw [h 3 (by decide)] at h1
  rw [h _ (by omega)] at h2 h3
  exact ⟨k, h1, h2, h3⟩
theorem kn_cg2 {w : Wd} {a : Nat → Int} {n c : Int} (h : RX w a) (an : 0 ≤ a 3 ∧ a 3 ≤ 8) (hk : knB a n c) : knB (w 41) n c := by
  obtain ⟨k, h1, h2, h3⟩ := hk
  exact ⟨k, by rw [h 3 (by decide)]; exact h1, by rw [h _ (by omega)]; exact h2, by rw [h _ (by omega)]; exact h3⟩
theorem ad_cg {w : Wd} {a : Nat → Int} {f n c : Int} (h : RX w a) (an : 0 ≤ a 3 ∧ a 3 ≤ 8) (k : Nat) (hk : k < 127) : sAddW (w 41) f n c k = sAddW a f n c k := by
  unfold sAddW ua
  rw [h 3 (by decide)]
  split
  · rfl
  · split
    · rfl
    · split
      · rfl
      · split
        · rfl
        · exact h k hk

theorem d_isWordItem {d : Nat} {w : Wd} {Q : Option MV → Wd → Prop} {t : Nat → Int} {len p : Nat} {a : Nat → Int} (hT : TXm w t len) (hp : p ≤ len) (hk : TKm w t len p) (hr : RX w a) (hA : AOK a) (ht : (itW t len p a).1 = true → ∀ w2, TKm w2 t len (itW t len p a).2.1 → RX w2 (itW t len p a).2.2 → frM w w2 → Q (some (.inl 1)) w2) (hf : (itW t len p a).1 = false → ∀ w2, TKm w2 t len (itW t len p a).2.1 → frM w w2 → Q (some (.inl 0)) w2) : Call (d + 4) mX4_isWordItem [vR 39] w Q := by
  refine call_in (ls := [some (vR 39), none, none]) (by decide +kernel) rfl (Nat.le_of_ble_eq_true rfl) (fun κ hC hR hN => ?_)
  have hC : ctxB κ RX4 cX4_isWordItem (d + 4) := hC
  have hN : mlx κ 3 := hN
  have an := hA.n
  have q1 := te_r (t := t) hp
  have q2 := te_r (t := t) q1.2
  have q3 := lt_all (t := t) q2.2
  refine w_al0 hC dX4_isWordItem_0 ?_
  refine v_getR (off := 2) (j := 41) hC dX4_isWordItem_1 fd_X4_13 rfl rfl rfl ?_
  refine w_ic hC dX4_isWordItem_4 rfl ?_
  refine w_ialdk hC 127 (3) dX4_isWordItem_5 rfl rfl (by omega) (by omega) ?_
  rw [hr 3 (by decide)]
  refine v_bipush hC dX4_isWordItem_6 (by decide) ?_
  refine v_ic_eq (tgt := 20) hC dX4_isWordItem_8 rfl (fun h8 => ?_) (fun h8 => ?_)
  · refine w_ic hC dX4_isWordItem_20 rfl ?_
    refine v_zret hC hR dX4_isWordItem_21 (by first | decide | omega) ?_
    first
    | (have e : itW t len p a = (false, p, a) := if_pos (by omega)
       rw [e] at hf
       exact hf rfl w hk (fun _ _ _ _ => rfl))
    | (have e : itW t len p a = (false, tkE t len p, a) := by unfold itW; rw [if_neg (by omega), if_pos (fun z => g2 ⟨z.1, by omega⟩)]
       rw [e] at hf
       exact hf rfl w2 k2 (frM.of o2))
  · refine w_al0 hC dX4_isWordItem_11 ?_
    refine w_ic hC dX4_isWordItem_12 rfl ?_
    refine w_ic hC dX4_isWordItem_13 rfl ?_
    refine w_vi2 hC vi_X4_107 rfl dX4_isWordItem_14 rfl hN (d_isNumber hT (p := tkE t len p) (z := 5) (te_r hp).2 hk.2.1 (fun w2 g2 k2 n2 o2 => ?_) (fun w2 g2 k2 o2 => ?_))
    · refine v_if_ne (tgt := 22) hC dX4_isWordItem_17 rfl (fun _ => ?_) (fun h => absurd h (by decide))
      refine w_al0 hC dX4_isWordItem_22 ?_
      refine v_getI hC dX4_isWordItem_23 fd_X4_91 rfl rfl ?_
      rw [n2]
      have hv := tkV_r q1.2 g2.1
      refine w_is1 hC dX4_isWordItem_26 hN (by first | rfl | assumption) ?_
      refine w_al0 hC dX4_isWordItem_27 ?_
      refine w_ic hC dX4_isWordItem_28 rfl ?_
      refine w_vi1 hC vi_X4_111 rfl dX4_isWordItem_29 rfl hN (d_lettersThere (hT.fm (frM.of o2)) (p := tkE t len (tkE t len p)) (z := 3) q2.2 k2.2.1 (fun w3 g3 k3 n3 o3 => ?_) (fun w3 g3 k3 o3 => ?_))
      · refine w_is2 hC dX4_isWordItem_32 hN (by first | rfl | assumption) ?_
        refine w_il2 hC dX4_isWordItem_33 ?_
        refine v_if_lt (tgt := 52) hC dX4_isWordItem_34 rfl (fun h34 => ?_) (fun h34 => ?_)
        · refine w_ic hC dX4_isWordItem_52 rfl ?_
          refine v_zret hC hR dX4_isWordItem_53 (by first | decide | omega) ?_
          have ft3 := (frM.of o2).tr (frM.of o3)
          first
          | (exfalso; omega)
          | (have e : itW t len p a = (false, leP t len (tkE t len (tkE t len p)), a) := by unfold itW; rw [if_neg (by omega), if_neg (fun z => z ⟨g2.1, by omega⟩), if_neg (fun z => by rw [knb_iff.mpr (kn_cg (a := a) r3 an g4)] at z; exact Bool.noConfusion z.2.2)]
             rw [e] at hf
             exact hf rfl w3 k3 ft3)
          | (have e : itW t len p a = (false, leP t len (tkE t len (tkE t len p)), a) := by unfold itW; rw [if_neg (by omega), if_neg (fun z => z ⟨g2.1, by omega⟩), if_neg (fun z => g3 ⟨z.1, by omega⟩)]
             rw [e] at hf
             exact hf rfl w3 k3 ft3)
        · refine w_al0 hC dX4_isWordItem_37 ?_
          refine v_getR (off := 2) (j := 41) hC dX4_isWordItem_38 fd_X4_13 rfl rfl rfl ?_
          refine w_il2 hC dX4_isWordItem_41 ?_
          refine w_al0 hC dX4_isWordItem_42 ?_
          refine v_getI hC dX4_isWordItem_43 fd_X4_91 rfl rfl ?_
          rw [n3]
          have r3 : RX w3 a := (hr.f o2).f o3
          have e3 : w3 41 3 = a 3 := r3 3 (by decide)
          have hA3 := r3.ok hA
          refine w_st3 hC st_X4_64 dX4_isWordItem_46 rfl hN (d_isThere rfl rfl (by rw [e3]; exact an) (fun g4 => ?_) (fun g4 => ?_))
          · refine v_if_eq (tgt := 54) hC dX4_isWordItem_49 rfl (fun h => absurd h (by decide)) (fun _ => ?_)
            refine w_ic hC dX4_isWordItem_52 rfl ?_
            refine v_zret hC hR dX4_isWordItem_53 (by first | decide | omega) ?_
            have ft3 := (frM.of o2).tr (frM.of o3)
            first
            | (exfalso; omega)
            | (have e : itW t len p a = (false, leP t len (tkE t len (tkE t len p)), a) := by unfold itW; rw [if_neg (by omega), if_neg (fun z => z ⟨g2.1, by omega⟩), if_neg (fun z => by rw [knb_iff.mpr (kn_cg (a := a) r3 an g4)] at z; exact Bool.noConfusion z.2.2)]
               rw [e] at hf
               exact hf rfl w3 k3 ft3)
            | (have e : itW t len p a = (false, leP t len (tkE t len (tkE t len p)), a) := by unfold itW; rw [if_neg (by omega), if_neg (fun z => z ⟨g2.1, by omega⟩), if_neg (fun z => g3 ⟨z.1, by omega⟩)]
               rw [e] at hf
               exact hf rfl w3 k3 ft3)
          · refine v_if_eq (tgt := 54) hC dX4_isWordItem_49 rfl (fun _ => ?_) (fun h => absurd h (by decide))
            refine w_al0 hC dX4_isWordItem_54 ?_
            refine v_getR (off := 2) (j := 41) hC dX4_isWordItem_55 fd_X4_13 rfl rfl rfl ?_
            refine w_il1 hC dX4_isWordItem_58 ?_
            refine w_il2 hC dX4_isWordItem_59 ?_
            refine w_al0 hC dX4_isWordItem_60 ?_
            refine v_getI hC dX4_isWordItem_61 fd_X4_91 rfl rfl ?_
            rw [n3]
            refine w_st4 hC st_X4_74 dX4_isWordItem_64 rfl hN (d_addWord rfl rfl (by rw [e3]; omega) (fun w4 e4 o4 => ?_))
            refine v_pop hC dX4_isWordItem_67 rfl ?_
            refine w_ic hC dX4_isWordItem_68 rfl ?_
            refine v_zret hC hR dX4_isWordItem_69 (by first | decide | omega) ?_
            have e : itW t len p a = (true, leP t len (tkE t len (tkE t len p)), sAddW a (tkV t len (tkE t len p)) (leN t len (tkE t len (tkE t len p))) (leC t len (tkE t len (tkE t len p)))) := by unfold itW; rw [if_neg (by omega), if_neg (fun z => z ⟨g2.1, by omega⟩), if_pos ⟨g3.1, by omega, by cases hb : knb a (leN t len (tkE t len (tkE t len p))) (leC t len (tkE t len (tkE t len p))) with | false => rfl | true => exact absurd (kn_cg2 (a := a) r3 an (knb_iff.mp hb)) g4⟩]
            rw [e] at ht
            exact ht rfl w4 (k3.c (fun k => o4 39 k (show (39 : Nat) ≠ 41 by decide))) (fun k hk => by rw [e4 k]; exact ad_cg r3 an k hk) (((frM.of o2).tr (frM.of o3)).tr (frM.r (fun i k h => o4 i k h)))
      · refine w_is2 hC dX4_isWordItem_32 hN (by first | rfl | assumption) ?_
        refine w_il2 hC dX4_isWordItem_33 ?_
        refine v_if_lt (tgt := 52) hC dX4_isWordItem_34 rfl (fun _ => ?_) (fun h => absurd h (by decide))
        refine w_ic hC dX4_isWordItem_52 rfl ?_
        refine v_zret hC hR dX4_isWordItem_53 (by first | decide | omega) ?_
        have ft3 := (frM.of o2).tr (frM.of o3)
        first
        | (exfalso; omega)
        | (have e : itW t len p a = (false, leP t len (tkE t len (tkE t len p)), a) := by unfold itW; rw [if_neg (by omega), if_neg (fun z => z ⟨g2.1, by omega⟩), if_neg (fun z => by rw [knb_iff.mpr (kn_cg (a := a) r3 an g4)] at z; exact Bool.noConfusion z.2.2)]
           rw [e] at hf
           exact hf rfl w3 k3 ft3)
        | (have e : itW t len p a = (false, leP t len (tkE t len (tkE t len p)), a) := by unfold itW; rw [if_neg (by omega), if_neg (fun z => z ⟨g2.1, by omega⟩), if_neg (fun z => g3 ⟨z.1, by omega⟩)]
           rw [e] at hf
           exact hf rfl w3 k3 ft3)
    · refine v_if_ne (tgt := 22) hC dX4_isWordItem_17 rfl (fun h => absurd h (by decide)) (fun _ => ?_)
      refine w_ic hC dX4_isWordItem_20 rfl ?_
      refine v_zret hC hR dX4_isWordItem_21 (by first | decide | omega) ?_
      first
      | (have e : itW t len p a = (false, p, a) := if_pos (by omega)
         rw [e] at hf
         exact hf rfl w hk (fun _ _ _ _ => rfl))
      | (have e : itW t len p a = (false, tkE t len p, a) := by unfold itW; rw [if_neg (by omega), if_pos (fun z => g2 ⟨z.1, by omega⟩)]
         rw [e] at hf
         exact hf rfl w2 k2 (frM.of o2))

theorem fst_cg {P R : Nat → Prop} [∀ j, Decidable (P j)] [∀ j, Decidable (R j)] {n : Nat} (h : ∀ j, j < n → (P j ↔ R j)) : fstI P n = fstI R n := by
  rcases fstI_spec P n with ⟨h1, h2⟩ | ⟨j, h1, h2, h3, h4⟩
  · rw [h1, fstI_no (fun i hi z => h2 i hi ((h i hi).mpr z))]
  · rw [h2, fstI_at h1 ((h j h1).mp h3) (fun i hi z => h4 i hi ((h i (by omega)).mpr z))]
theorem ln_cg {w : Wd} {a : Nat → Int} {wd : Int} (h : RX w a) (am : 1 ≤ a 1 ∧ a 1 ≤ 6) : lnOf (w 41) wd = lnOf a wd := by
  have e1 := h 1 (by decide)
  unfold lnOf
  rw [e1]
  refine fst_cg (fun j hj => ?_)
  rw [wOn_n (by omega), wOn_n (by omega), h _ (by omega)]

theorem d_isPutItem {d : Nat} {w : Wd} {Q : Option MV → Wd → Prop} {t : Nat → Int} {len p : Nat} {a : Nat → Int} (hT : TXm w t len) (hp : p ≤ len) (hk : TKm w t len p) (hr : RX w a) (hA : AOK a) (ht : (itP t len p a).1 = true → ∀ w2, TKm w2 t len (itP t len p a).2.1 → RX w2 (itP t len p a).2.2 → frM w w2 → Q (some (.inl 1)) w2) (hf : (itP t len p a).1 = false → ∀ w2, TKm w2 t len (itP t len p a).2.1 → frM w w2 → Q (some (.inl 0)) w2) : Call (d + 4) mX4_isPutItem [vR 39] w Q := by
  refine call_in (ls := [some (vR 39), none]) (by decide +kernel) rfl (Nat.le_of_ble_eq_true rfl) (fun κ hC hR hN => ?_)
  have hC : ctxB κ RX4 cX4_isPutItem (d + 4) := hC
  have hN : mlx κ 2 := hN
  have am := hA.m
  have an := hA.n
  have q1 := te_r (t := t) hp
  have q2 := te_r (t := t) q1.2
  have q3 := lt_all (t := t) q2.2
  refine w_al0 hC dX4_isPutItem_0 ?_
  refine w_ic hC dX4_isPutItem_1 rfl ?_
  refine w_al0 hC dX4_isPutItem_2 ?_
  refine v_getR (off := 2) (j := 41) hC dX4_isPutItem_3 fd_X4_13 rfl rfl rfl ?_
  refine w_ic hC dX4_isPutItem_6 rfl ?_
  refine w_ialdk hC 127 (1) dX4_isPutItem_7 rfl rfl (by omega) (by omega) ?_
  rw [hr 1 (by decide)]
  refine w_ic hC dX4_isPutItem_8 rfl ?_
  refine w_isub hC dX4_isPutItem_9 (ri_mk (by omega) (by omega)) ?_
  refine w_vi2 hC vi_X4_107 rfl dX4_isPutItem_10 rfl hN (d_isNumber hT (p := tkE t len p) (z := a 1 - 1) (te_r hp).2 hk.2.1 (fun w2 g2 k2 n2 o2 => ?_) (fun w2 g2 k2 o2 => ?_))
  · refine v_if_eq (tgt := 32) hC dX4_isPutItem_13 rfl (fun h => absurd h (by decide)) (fun _ => ?_)
    have hv1 := tkV_r q1.2 g2.1
    obtain ⟨jn, hjn⟩ := Int.eq_ofNat_of_zero_le hv1.1
    have r2 := hr.f o2
    have hwo : wOn a (tkV t len (tkE t len p)) = a (28 + jn) := by rw [hjn]; exact wOn_n (by omega)
    refine w_al0 hC dX4_isPutItem_16 ?_
    refine v_getR (off := 2) (j := 41) hC dX4_isPutItem_17 fd_X4_13 rfl rfl rfl ?_
    refine v_bipush hC dX4_isPutItem_20 (by decide) ?_
    refine w_al0 hC dX4_isPutItem_22 ?_
    refine v_getI hC dX4_isPutItem_23 fd_X4_91 rfl rfl ?_
    rw [n2, hjn]
    refine w_iadd hC dX4_isPutItem_26 (ri_mk (by omega) (by omega)) ?_
    rw [show (28 : Int) + (jn : Int) = ((28 + jn : Nat) : Int) by omega]
    refine w_ialdk hC 127 (28 + jn) dX4_isPutItem_27 rfl rfl rfl (by omega) ?_
    rw [r2 _ (by omega)]
    refine w_ic hC dX4_isPutItem_28 rfl ?_
    refine v_ic_eq (tgt := 34) hC dX4_isPutItem_29 rfl (fun h29 => ?_) (fun h29 => ?_)
    · refine w_al0 hC dX4_isPutItem_34 ?_
      refine v_getI hC dX4_isPutItem_35 fd_X4_91 rfl rfl ?_
      rw [n2, hjn]
      refine w_is1 hC dX4_isPutItem_38 hN (by first | rfl | assumption) ?_
      refine w_al0 hC dX4_isPutItem_39 ?_
      refine w_ic hC dX4_isPutItem_40 rfl ?_
      refine w_al0 hC dX4_isPutItem_41 ?_
      refine v_getR (off := 2) (j := 41) hC dX4_isPutItem_42 fd_X4_13 rfl rfl rfl ?_
      refine w_ic hC dX4_isPutItem_45 rfl ?_
      refine w_ialdk hC 127 (3) dX4_isPutItem_46 rfl rfl (by omega) (by omega) ?_
      rw [r2 3 (by decide)]
      refine w_ic hC dX4_isPutItem_47 rfl ?_
      refine w_isub hC dX4_isPutItem_48 (ri_mk (by omega) (by omega)) ?_
      refine w_vi2 hC vi_X4_107 rfl dX4_isPutItem_49 rfl hN (d_isNumber (hT.fm (frM.of o2)) (p := tkE t len (tkE t len p)) (z := a 3 - 1) q2.2 k2.2.1 (fun w3 g3 k3 n3 o3 => ?_) (fun w3 g3 k3 o3 => ?_))
      · refine v_if_eq (tgt := 70) hC dX4_isPutItem_52 rfl (fun h => absurd h (by decide)) (fun _ => ?_)
        have hv2 := tkV_r q2.2 g3.1
        have r3 := r2.f o3
        have hA3 := r3.ok hA
        have e31 : w3 41 1 = a 1 := r3 1 (by decide)
        have ft3 := (frM.of o2).tr (frM.of o3)
        refine w_al0 hC dX4_isPutItem_55 ?_
        refine v_getR (off := 2) (j := 41) hC dX4_isPutItem_56 fd_X4_13 rfl rfl rfl ?_
        refine w_al0 hC dX4_isPutItem_59 ?_
        refine v_getI hC dX4_isPutItem_60 fd_X4_91 rfl rfl ?_
        rw [n3]
        refine w_st2 hC st_X4_114 dX4_isPutItem_63 rfl hN (d_lineOf rfl rfl (by rw [e31]; exact am) ?_)
        rw [lnL_eq hA3 hv2.1, ln_cg r3 am]
        refine w_ic hC dX4_isPutItem_66 rfl ?_
        refine v_ic_eq (tgt := 72) hC dX4_isPutItem_67 rfl (fun h67 => ?_) (fun h67 => ?_)
        · refine w_al0 hC dX4_isPutItem_72 ?_
          refine v_getR (off := 2) (j := 41) hC dX4_isPutItem_73 fd_X4_13 rfl rfl rfl ?_
          refine v_bipush hC dX4_isPutItem_76 (by decide) ?_
          refine w_il1 hC dX4_isPutItem_78 ?_
          refine w_iadd hC dX4_isPutItem_79 (ri_mk (by omega) (by omega)) ?_
          rw [show (28 : Int) + (jn : Int) = ((28 + jn : Nat) : Int) by omega]
          refine w_al0 hC dX4_isPutItem_80 ?_
          refine v_getI hC dX4_isPutItem_81 fd_X4_91 rfl rfl ?_
          rw [n3]
          refine w_iastk hC 127 (28 + jn) dX4_isPutItem_84 rfl rfl rfl (by omega) ?_
          refine w_al0 hC dX4_isPutItem_85 ?_
          refine w_vi0 hC vi_X4_104 rfl dX4_isPutItem_86 rfl hN (d_nextToken ((hT.fm ft3).fm (frM.up (fun _ _ _ _ => rfl) _ _)) (p := tkE t len (tkE t len (tkE t len p))) (te_r q2.2).2 (k3.u _ _).2.1 (fun w4 k4 o4 => ?_))
          refine w_al0 hC dX4_isPutItem_89 ?_
          refine v_getI hC dX4_isPutItem_90 fd_X4_94 rfl rfl ?_
          rw [k4.2.2.1]
          refine w_ic hC dX4_isPutItem_93 rfl ?_
          refine v_ic_ne (tgt := 101) hC dX4_isPutItem_94 rfl (fun h94 => ?_) (fun h94 => ?_)
          · refine w_ic hC dX4_isPutItem_101 rfl ?_
            refine v_zret hC hR dX4_isPutItem_102 (by first | decide | omega) ?_
            have e : itP t len p a = (decide (tkK t len (tkE t len (tkE t len (tkE t len p))) = 3), tkE t len (tkE t len (tkE t len p)), ua a (28 + jn) (tkV t len (tkE t len (tkE t len p)))) := by unfold itP; rw [if_neg (fun z => z ⟨⟨g2.1, by omega⟩, hwo.trans h29⟩), if_neg (fun z => z ⟨⟨g3.1, by omega⟩, h67⟩), hjn]; rfl
            rw [e] at ht hf
            first
            | exact ht (decide_eq_true (by omega)) w4 k4 ((r3.u _ _).f o4) ((ft3.up _ _).tr (frM.of o4))
            | exact hf (decide_eq_false (by omega)) w4 k4 ((ft3.up _ _).tr (frM.of o4))
          · refine w_ic hC dX4_isPutItem_97 rfl ?_
            refine v_goto (tgt := 102) hC dX4_isPutItem_98 rfl ?_
            refine v_zret hC hR dX4_isPutItem_102 (by first | decide | omega) ?_
            have e : itP t len p a = (decide (tkK t len (tkE t len (tkE t len (tkE t len p))) = 3), tkE t len (tkE t len (tkE t len p)), ua a (28 + jn) (tkV t len (tkE t len (tkE t len p)))) := by unfold itP; rw [if_neg (fun z => z ⟨⟨g2.1, by omega⟩, hwo.trans h29⟩), if_neg (fun z => z ⟨⟨g3.1, by omega⟩, h67⟩), hjn]; rfl
            rw [e] at ht hf
            first
            | exact ht (decide_eq_true (by omega)) w4 k4 ((r3.u _ _).f o4) ((ft3.up _ _).tr (frM.of o4))
            | exact hf (decide_eq_false (by omega)) w4 k4 ((ft3.up _ _).tr (frM.of o4))
        · refine w_ic hC dX4_isPutItem_70 rfl ?_
          refine v_zret hC hR dX4_isPutItem_71 (by first | decide | omega) ?_
          first
          | (have e : itP t len p a = (false, tkE t len (tkE t len p), a) := by unfold itP; rw [if_neg (fun z => z ⟨⟨g2.1, by omega⟩, hwo.trans h29⟩), if_pos (fun z => g3 ⟨z.1.1, by omega⟩)]
             rw [e] at hf
             exact hf rfl w3 k3 ((frM.of o2).tr (frM.of o3)))
          | (have e : itP t len p a = (false, tkE t len (tkE t len p), a) := by unfold itP; rw [if_neg (fun z => z ⟨⟨g2.1, by omega⟩, hwo.trans h29⟩), if_pos (fun z => h67 z.2)]
             rw [e] at hf
             exact hf rfl w3 k3 ((frM.of o2).tr (frM.of o3)))
      · refine v_if_eq (tgt := 70) hC dX4_isPutItem_52 rfl (fun _ => ?_) (fun h => absurd h (by decide))
        refine w_ic hC dX4_isPutItem_70 rfl ?_
        refine v_zret hC hR dX4_isPutItem_71 (by first | decide | omega) ?_
        first
        | (have e : itP t len p a = (false, tkE t len (tkE t len p), a) := by unfold itP; rw [if_neg (fun z => z ⟨⟨g2.1, by omega⟩, hwo.trans h29⟩), if_pos (fun z => g3 ⟨z.1.1, by omega⟩)]
           rw [e] at hf
           exact hf rfl w3 k3 ((frM.of o2).tr (frM.of o3)))
        | (have e : itP t len p a = (false, tkE t len (tkE t len p), a) := by unfold itP; rw [if_neg (fun z => z ⟨⟨g2.1, by omega⟩, hwo.trans h29⟩), if_pos (fun z => h67 z.2)]
           rw [e] at hf
           exact hf rfl w3 k3 ((frM.of o2).tr (frM.of o3)))
    · refine w_ic hC dX4_isPutItem_32 rfl ?_
      refine v_zret hC hR dX4_isPutItem_33 (by first | decide | omega) ?_
      first
      | (have e : itP t len p a = (false, tkE t len p, a) := if_pos (fun z => g2 ⟨z.1.1, by omega⟩)
         rw [e] at hf
         exact hf rfl w2 k2 (frM.of o2))
      | (have e : itP t len p a = (false, tkE t len p, a) := if_pos (fun z => h29 (by rw [← hwo]; exact z.2))
         rw [e] at hf
         exact hf rfl w2 k2 (frM.of o2))
  · refine v_if_eq (tgt := 32) hC dX4_isPutItem_13 rfl (fun _ => ?_) (fun h => absurd h (by decide))
    refine w_ic hC dX4_isPutItem_32 rfl ?_
    refine v_zret hC hR dX4_isPutItem_33 (by first | decide | omega) ?_
    first
    | (have e : itP t len p a = (false, tkE t len p, a) := if_pos (fun z => g2 ⟨z.1.1, by omega⟩)
       rw [e] at hf
       exact hf rfl w2 k2 (frM.of o2))
    | (have e : itP t len p a = (false, tkE t len p, a) := if_pos (fun z => h29 (by rw [← hwo]; exact z.2))
       rw [e] at hf
       exact hf rfl w2 k2 (frM.of o2))

theorem d_isTakeItem {d : Nat} {w : Wd} {Q : Option MV → Wd → Prop} {t : Nat → Int} {len p : Nat} {a : Nat → Int} (hT : TXm w t len) (hp : p ≤ len) (hk : TKm w t len p) (hr : RX w a) (hA : AOK a) (ht : (itT t len p a).1 = true → ∀ w2, TKm w2 t len (itT t len p a).2.1 → RX w2 (itT t len p a).2.2 → frM w w2 → Q (some (.inl 1)) w2) (hf : (itT t len p a).1 = false → ∀ w2, TKm w2 t len (itT t len p a).2.1 → frM w w2 → Q (some (.inl 0)) w2) : Call (d + 4) mX4_isTakeItem [vR 39] w Q := by
  refine call_in (ls := [some (vR 39)]) (by decide +kernel) rfl (Nat.le_of_ble_eq_true rfl) (fun κ hC hR hN => ?_)
  have hC : ctxB κ RX4 cX4_isTakeItem (d + 4) := hC
  have hN : mlx κ 1 := hN
  have am := hA.m
  have an := hA.n
  have q1 := te_r (t := t) hp
  have q2 := te_r (t := t) q1.2
  have q3 := lt_all (t := t) q2.2
  refine w_al0 hC dX4_isTakeItem_0 ?_
  refine w_ic hC dX4_isTakeItem_1 rfl ?_
  refine w_al0 hC dX4_isTakeItem_2 ?_
  refine v_getR (off := 2) (j := 41) hC dX4_isTakeItem_3 fd_X4_13 rfl rfl rfl ?_
  refine w_ic hC dX4_isTakeItem_6 rfl ?_
  refine w_ialdk hC 127 (1) dX4_isTakeItem_7 rfl rfl (by omega) (by omega) ?_
  rw [hr 1 (by decide)]
  refine w_ic hC dX4_isTakeItem_8 rfl ?_
  refine w_isub hC dX4_isTakeItem_9 (ri_mk (by omega) (by omega)) ?_
  refine w_vi2 hC vi_X4_107 rfl dX4_isTakeItem_10 rfl hN (d_isNumber hT (p := tkE t len p) (z := a 1 - 1) (te_r hp).2 hk.2.1 (fun w2 g2 k2 n2 o2 => ?_) (fun w2 g2 k2 o2 => ?_))
  · refine v_if_eq (tgt := 32) hC dX4_isTakeItem_13 rfl (fun h => absurd h (by decide)) (fun _ => ?_)
    have hv1 := tkV_r q1.2 g2.1
    obtain ⟨jn, hjn⟩ := Int.eq_ofNat_of_zero_le hv1.1
    have r2 := hr.f o2
    have ft2 := frM.of o2
    have hwo : wOn a (tkV t len (tkE t len p)) = a (28 + jn) := by rw [hjn]; exact wOn_n (by omega)
    refine w_al0 hC dX4_isTakeItem_16 ?_
    refine v_getR (off := 2) (j := 41) hC dX4_isTakeItem_17 fd_X4_13 rfl rfl rfl ?_
    refine v_bipush hC dX4_isTakeItem_20 (by decide) ?_
    refine w_al0 hC dX4_isTakeItem_22 ?_
    refine v_getI hC dX4_isTakeItem_23 fd_X4_91 rfl rfl ?_
    rw [n2, hjn]
    refine w_iadd hC dX4_isTakeItem_26 (ri_mk (by omega) (by omega)) ?_
    rw [show (28 : Int) + (jn : Int) = ((28 + jn : Nat) : Int) by omega]
    refine w_ialdk hC 127 (28 + jn) dX4_isTakeItem_27 rfl rfl rfl (by omega) ?_
    rw [r2 _ (by omega)]
    refine w_ic hC dX4_isTakeItem_28 rfl ?_
    refine v_ic_ne (tgt := 34) hC dX4_isTakeItem_29 rfl (fun h29 => ?_) (fun h29 => ?_)
    · refine w_al0 hC dX4_isTakeItem_34 ?_
      refine v_getR (off := 2) (j := 41) hC dX4_isTakeItem_35 fd_X4_13 rfl rfl rfl ?_
      refine v_bipush hC dX4_isTakeItem_38 (by decide) ?_
      refine w_al0 hC dX4_isTakeItem_40 ?_
      refine v_getI hC dX4_isTakeItem_41 fd_X4_91 rfl rfl ?_
      rw [n2, hjn]
      refine w_iadd hC dX4_isTakeItem_44 (ri_mk (by omega) (by omega)) ?_
      rw [show (28 : Int) + (jn : Int) = ((28 + jn : Nat) : Int) by omega]
      refine w_ic hC dX4_isTakeItem_45 rfl ?_
      refine w_iastk hC 127 (28 + jn) dX4_isTakeItem_46 rfl rfl rfl (by omega) ?_
      refine w_al0 hC dX4_isTakeItem_47 ?_
      refine w_vi0 hC vi_X4_104 rfl dX4_isTakeItem_48 rfl hN (d_nextToken ((hT.fm ft2).fm (frM.up (fun _ _ _ _ => rfl) _ _)) (p := tkE t len (tkE t len p)) q2.2 (k2.u _ _).2.1 (fun w4 k4 o4 => ?_))
      refine w_al0 hC dX4_isTakeItem_51 ?_
      refine v_getI hC dX4_isTakeItem_52 fd_X4_94 rfl rfl ?_
      rw [k4.2.2.1]
      refine w_ic hC dX4_isTakeItem_55 rfl ?_
      refine v_ic_ne (tgt := 63) hC dX4_isTakeItem_56 rfl (fun h56 => ?_) (fun h56 => ?_)
      · refine w_ic hC dX4_isTakeItem_63 rfl ?_
        refine v_zret hC hR dX4_isTakeItem_64 (by first | decide | omega) ?_
        have e : itT t len p a = (decide (tkK t len (tkE t len (tkE t len p)) = 3), tkE t len (tkE t len p), ua a (28 + jn) (-1)) := by unfold itT; rw [if_neg (fun z => z ⟨⟨g2.1, by omega⟩, fun y => h29 (hwo.symm.trans y)⟩), hjn]; rfl
        rw [e] at ht hf
        first
        | exact ht (decide_eq_true (by omega)) w4 k4 ((r2.u _ _).f o4) ((ft2.up _ _).tr (frM.of o4))
        | exact hf (decide_eq_false (by omega)) w4 k4 ((ft2.up _ _).tr (frM.of o4))
      · refine w_ic hC dX4_isTakeItem_59 rfl ?_
        refine v_goto (tgt := 64) hC dX4_isTakeItem_60 rfl ?_
        refine v_zret hC hR dX4_isTakeItem_64 (by first | decide | omega) ?_
        have e : itT t len p a = (decide (tkK t len (tkE t len (tkE t len p)) = 3), tkE t len (tkE t len p), ua a (28 + jn) (-1)) := by unfold itT; rw [if_neg (fun z => z ⟨⟨g2.1, by omega⟩, fun y => h29 (hwo.symm.trans y)⟩), hjn]; rfl
        rw [e] at ht hf
        first
        | exact ht (decide_eq_true (by omega)) w4 k4 ((r2.u _ _).f o4) ((ft2.up _ _).tr (frM.of o4))
        | exact hf (decide_eq_false (by omega)) w4 k4 ((ft2.up _ _).tr (frM.of o4))
    · refine w_ic hC dX4_isTakeItem_32 rfl ?_
      refine v_zret hC hR dX4_isTakeItem_33 (by first | decide | omega) ?_
      first
      | (have e : itT t len p a = (false, tkE t len p, a) := if_pos (fun z => g2 ⟨z.1.1, by omega⟩)
         rw [e] at hf
         exact hf rfl w2 k2 (frM.of o2))
      | (have e : itT t len p a = (false, tkE t len p, a) := if_pos (fun z => z.2 (hwo.trans (by omega)))
         rw [e] at hf
         exact hf rfl w2 k2 (frM.of o2))
  · refine v_if_eq (tgt := 32) hC dX4_isTakeItem_13 rfl (fun _ => ?_) (fun h => absurd h (by decide))
    refine w_ic hC dX4_isTakeItem_32 rfl ?_
    refine v_zret hC hR dX4_isTakeItem_33 (by first | decide | omega) ?_
    first
    | (have e : itT t len p a = (false, tkE t len p, a) := if_pos (fun z => g2 ⟨z.1.1, by omega⟩)
       rw [e] at hf
       exact hf rfl w2 k2 (frM.of o2))
    | (have e : itT t len p a = (false, tkE t len p, a) := if_pos (fun z => z.2 (hwo.trans (by omega)))
       rw [e] at hf
       exact hf rfl w2 k2 (frM.of o2))

theorem d_isItem {d : Nat} {w : Wd} {Q : Option MV → Wd → Prop} {t : Nat → Int} {len p : Nat} {a : Nat → Int} (hT : TXm w t len) (hp : p ≤ len) (hk : TKm w t len p) (hr : RX w a) {i : Nat} (hA : AOK a) (h14 : w 39 14 = i) (hb : i = 0 → a = bg0) (ht : (itX i t len p a).1 = true → ∀ w2, TKm w2 t len (itX i t len p a).2.1 → RX w2 (itX i t len p a).2.2 → frM w w2 → Q (some (.inl 1)) w2) (hf : (itX i t len p a).1 = false → ∀ w2, TKm w2 t len (itX i t len p a).2.1 → frM w w2 → Q (some (.inl 0)) w2) : Call (d + 5) mX4_isItem [vR 39] w Q := by
  refine call_in (ls := [some (vR 39), none]) (by decide +kernel) rfl (Nat.le_of_ble_eq_true rfl) (fun κ hC hR hN => ?_)
  have hC : ctxB κ RX4 cX4_isItem (d + 5) := hC
  have hN : mlx κ 2 := hN
  have hWd : ∀ j, j < 4 → tkK t len p = 1 → (nmb t len p j = true ↔ wdV t (tkS t len p) (tkE t len p - tkS t len p) = pkS j) := fun j hj h => nm_wd hj h
  have hN0 := hWd 0 (by decide)
  have hN1 := hWd 1 (by decide)
  have hN2 := hWd 2 (by decide)
  have hN3 := hWd 3 (by decide)
  have hp0 : pkS 0 = 508508140389 := rfl
  have hp1 : pkS 1 = 2003792484 := rfl
  have hp2 : pkS 2 = 7370100 := rfl
  have hp3 : pkS 3 = 1952541541 := rfl
  rw [hp0] at hN0
  rw [hp1] at hN1
  rw [hp2] at hN2
  rw [hp3] at hN3
  refine w_al0 hC dX4_isItem_0 ?_
  refine v_getI hC dX4_isItem_1 fd_X4_118 rfl rfl ?_
  rw [h14]
  refine v_if_ne (tgt := 11) hC dX4_isItem_4 rfl (fun h4 => ?_) (fun h4 => ?_)
  · refine w_ic hC dX4_isItem_11 rfl ?_
    refine w_is1 hC dX4_isItem_12 hN (by first | rfl | assumption) ?_
    refine w_al0 hC dX4_isItem_13 ?_
    refine v_getI hC dX4_isItem_14 fd_X4_94 rfl rfl ?_
    rw [hk.2.2.1]
    refine w_ic hC dX4_isItem_17 rfl ?_
    refine v_ic_ne (tgt := 41) hC dX4_isItem_18 rfl (fun h18 => ?_) (fun h18 => ?_)
    · refine w_ic hC dX4_isItem_41 rfl ?_
      refine v_zret hC hR dX4_isItem_42 (by first | decide | omega) ?_
      first
      | (exfalso; omega)
      | (have hz : i = 0 := by omega
         subst hz
         rw [itX_0, itV_n (nmb_1 h18)] at hf
         exact hf rfl w hk (fun _ _ _ _ => rfl))
      | (rw [itX_1 (by omega), itI_n (nmb_1 h18) (nmb_1 h18) (nmb_1 h18)] at hf
         exact hf rfl w hk (fun _ _ _ _ => rfl))
      | (have hz : i = 0 := by omega
         subst hz
         rw [itX_0, itV_n (nmb_f (fun y => c30 (cc_eq.mpr (hM0.mp y))))] at hf
         exact hf rfl w hk (fun _ _ _ _ => rfl))
      | (have hw0 := cc_eq.mp c30
         rw [itX_1 (by omega), itI_n (nmb_f (fun y => by have := hM1.mp y; omega)) (nmb_f (fun y => by have := hM2.mp y; omega)) (nmb_f (fun y => by have := hM3.mp y; omega))] at hf
         exact hf rfl w hk (fun _ _ _ _ => rfl))
    · refine w_il1 hC dX4_isItem_21 ?_
      refine w_al0 hC dX4_isItem_22 ?_
      have hK1 : tkK t len p = 1 := by omega
      have h13 := hk.2.2.2.2 hK1
      have hM0 := hN0 hK1
      have hM1 := hN1 hK1
      have hM2 := hN2 hK1
      have hM3 := hN3 hK1
      generalize wdV t (tkS t len p) (tkE t len p - tkS t len p) = wv at h13 hM0 hM1 hM2 hM3
      refine v_getL hC dX4_isItem_23 fd_X4_88 rfl rfl ?_
      rw [h13]
      refine v_ldc2 (n := 508508140389) hC dX4_isItem_26 kl_X4_121 rfl (ckL_ok rfl) ?_
      refine v_lcmp hC dX4_isItem_29 ?_
      refine v_if_ne (tgt := 37) hC dX4_isItem_30 rfl (fun c30 => ?_) (fun c30 => ?_)
      · refine w_ic hC dX4_isItem_37 rfl ?_
        refine v_ic_eq (tgt := 43) hC dX4_isItem_38 rfl (fun _ => ?_) (fun h => absurd h (by decide))
        refine w_il1 hC dX4_isItem_43 ?_
        refine v_if_eq (tgt := 52) hC dX4_isItem_44 rfl (fun _ => ?_) (fun h => absurd h (by decide))
        refine w_al0 hC dX4_isItem_52 ?_
        refine v_getL hC dX4_isItem_53 fd_X4_88 rfl rfl ?_
        rw [h13]
        refine v_ldc2 (n := 2003792484) hC dX4_isItem_56 kl_X4_127 rfl (ckL_ok rfl) ?_
        refine v_lcmp hC dX4_isItem_59 ?_
        refine v_if_ne (tgt := 68) hC dX4_isItem_60 rfl (fun c60 => ?_) (fun c60 => ?_)
        · refine w_al0 hC dX4_isItem_68 ?_
          refine v_getL hC dX4_isItem_69 fd_X4_88 rfl rfl ?_
          rw [h13]
          refine v_ldc2 (n := 7370100) hC dX4_isItem_72 kl_X4_132 rfl (ckL_ok rfl) ?_
          refine v_lcmp hC dX4_isItem_75 ?_
          refine v_if_ne (tgt := 86) hC dX4_isItem_76 rfl (fun c76 => ?_) (fun c76 => ?_)
          · refine w_al0 hC dX4_isItem_86 ?_
            refine v_getL hC dX4_isItem_87 fd_X4_88 rfl rfl ?_
            rw [h13]
            refine v_ldc2 (n := 1952541541) hC dX4_isItem_90 kl_X4_137 rfl (ckL_ok rfl) ?_
            refine v_lcmp hC dX4_isItem_93 ?_
            refine v_if_ne (tgt := 108) hC dX4_isItem_94 rfl (fun c94 => ?_) (fun c94 => ?_)
            · refine w_ic hC dX4_isItem_108 rfl ?_
              refine v_zret hC hR dX4_isItem_109 (by first | decide | omega) ?_
              first
              | exact ht z w5 k5 r5 o5
              | exact hf z w5 k5 o5
              | (rw [itX_1 (by omega), itI_n (nmb_f (fun y => c60 (cc_eq.mpr (hM1.mp y)))) (nmb_f (fun y => c76 (cc_eq.mpr (hM2.mp y)))) (nmb_f (fun y => c94 (cc_eq.mpr (hM3.mp y))))] at hf
                 exact hf rfl w hk (fun _ _ _ _ => rfl))
            · rw [itX_1 (by omega), itI_t (nmb_f (fun y => c60 (cc_eq.mpr (hM1.mp y)))) (nmb_f (fun y => c76 (cc_eq.mpr (hM2.mp y)))) (hM3.mpr (cc_eq.mp c94))] at ht hf
              refine w_al0 hC dX4_isItem_97 ?_
              refine w_vi0 hC vi_X4_139 rfl dX4_isItem_98 rfl hN (d_isTakeItem hT hp hk hr hA (fun z w5 k5 r5 o5 => ?_) (fun z w5 k5 o5 => ?_))
              · refine v_if_eq (tgt := 108) hC dX4_isItem_101 rfl (fun h => absurd h (by decide)) (fun _ => ?_)
                refine w_ic hC dX4_isItem_104 rfl ?_
                refine v_goto (tgt := 109) hC dX4_isItem_105 rfl ?_
                refine v_zret hC hR dX4_isItem_109 (by first | decide | omega) ?_
                first
                | exact ht z w5 k5 r5 o5
                | exact hf z w5 k5 o5
                | (rw [itX_1 (by omega), itI_n (nmb_f (fun y => c60 (cc_eq.mpr (hM1.mp y)))) (nmb_f (fun y => c76 (cc_eq.mpr (hM2.mp y)))) (nmb_f (fun y => c94 (cc_eq.mpr (hM3.mp y))))] at hf
                   exact hf rfl w hk (fun _ _ _ _ => rfl))
              · refine v_if_eq (tgt := 108) hC dX4_isItem_101 rfl (fun _ => ?_) (fun h => absurd h (by decide))
                refine w_ic hC dX4_isItem_108 rfl ?_
                refine v_zret hC hR dX4_isItem_109 (by first | decide | omega) ?_
                first
                | exact ht z w5 k5 r5 o5
                | exact hf z w5 k5 o5
                | (rw [itX_1 (by omega), itI_n (nmb_f (fun y => c60 (cc_eq.mpr (hM1.mp y)))) (nmb_f (fun y => c76 (cc_eq.mpr (hM2.mp y)))) (nmb_f (fun y => c94 (cc_eq.mpr (hM3.mp y))))] at hf
                   exact hf rfl w hk (fun _ _ _ _ => rfl))
          · rw [itX_1 (by omega), itI_p (nmb_f (fun y => c60 (cc_eq.mpr (hM1.mp y)))) (hM2.mpr (cc_eq.mp c76))] at ht hf
            refine w_al0 hC dX4_isItem_79 ?_
            refine w_vi0 hC vi_X4_134 rfl dX4_isItem_80 rfl hN (d_isPutItem hT hp hk hr hA (fun z w5 k5 r5 o5 => ?_) (fun z w5 k5 o5 => ?_))
            · refine v_goto (tgt := 109) hC dX4_isItem_83 rfl ?_
              refine v_zret hC hR dX4_isItem_109 (by first | decide | omega) ?_
              first
              | exact ht z w5 k5 r5 o5
              | exact hf z w5 k5 o5
              | (rw [itX_1 (by omega), itI_n (nmb_f (fun y => c60 (cc_eq.mpr (hM1.mp y)))) (nmb_f (fun y => c76 (cc_eq.mpr (hM2.mp y)))) (nmb_f (fun y => c94 (cc_eq.mpr (hM3.mp y))))] at hf
                 exact hf rfl w hk (fun _ _ _ _ => rfl))
            · refine v_goto (tgt := 109) hC dX4_isItem_83 rfl ?_
              refine v_zret hC hR dX4_isItem_109 (by first | decide | omega) ?_
              first
              | exact ht z w5 k5 r5 o5
              | exact hf z w5 k5 o5
              | (rw [itX_1 (by omega), itI_n (nmb_f (fun y => c60 (cc_eq.mpr (hM1.mp y)))) (nmb_f (fun y => c76 (cc_eq.mpr (hM2.mp y)))) (nmb_f (fun y => c94 (cc_eq.mpr (hM3.mp y))))] at hf
                 exact hf rfl w hk (fun _ _ _ _ => rfl))
        · refine w_al0 hC dX4_isItem_63 ?_
          rw [itX_1 (by omega), itI_w (hM1.mpr (cc_eq.mp c60))] at ht hf
          refine w_vi0 hC vi_X4_129 rfl dX4_isItem_64 rfl hN (d_isWordItem hT hp hk hr hA (fun z w5 k5 r5 o5 => ?_) (fun z w5 k5 o5 => ?_))
          · refine v_zret hC hR dX4_isItem_67 (by first | decide | omega) ?_
            first | exact ht z w5 k5 r5 o5 | exact hf z w5 k5 o5
          · refine v_zret hC hR dX4_isItem_67 (by first | decide | omega) ?_
            first | exact ht z w5 k5 r5 o5 | exact hf z w5 k5 o5
      · refine w_ic hC dX4_isItem_33 rfl ?_
        refine v_goto (tgt := 38) hC dX4_isItem_34 rfl ?_
        refine v_ic_eq (tgt := 43) hC dX4_isItem_38 rfl (fun h => absurd h (by decide)) (fun _ => ?_)
        refine w_ic hC dX4_isItem_41 rfl ?_
        refine v_zret hC hR dX4_isItem_42 (by first | decide | omega) ?_
        first
        | (exfalso; omega)
        | (have hz : i = 0 := by omega
           subst hz
           rw [itX_0, itV_n (nmb_1 h18)] at hf
           exact hf rfl w hk (fun _ _ _ _ => rfl))
        | (rw [itX_1 (by omega), itI_n (nmb_1 h18) (nmb_1 h18) (nmb_1 h18)] at hf
           exact hf rfl w hk (fun _ _ _ _ => rfl))
        | (have hz : i = 0 := by omega
           subst hz
           rw [itX_0, itV_n (nmb_f (fun y => c30 (cc_eq.mpr (hM0.mp y))))] at hf
           exact hf rfl w hk (fun _ _ _ _ => rfl))
        | (have hw0 := cc_eq.mp c30
           rw [itX_1 (by omega), itI_n (nmb_f (fun y => by have := hM1.mp y; omega)) (nmb_f (fun y => by have := hM2.mp y; omega)) (nmb_f (fun y => by have := hM3.mp y; omega))] at hf
           exact hf rfl w hk (fun _ _ _ _ => rfl))
  · refine w_ic hC dX4_isItem_7 rfl ?_
    refine v_goto (tgt := 12) hC dX4_isItem_8 rfl ?_
    refine w_is1 hC dX4_isItem_12 hN (by first | rfl | assumption) ?_
    refine w_al0 hC dX4_isItem_13 ?_
    refine v_getI hC dX4_isItem_14 fd_X4_94 rfl rfl ?_
    rw [hk.2.2.1]
    refine w_ic hC dX4_isItem_17 rfl ?_
    refine v_ic_ne (tgt := 41) hC dX4_isItem_18 rfl (fun h18 => ?_) (fun h18 => ?_)
    · refine w_ic hC dX4_isItem_41 rfl ?_
      refine v_zret hC hR dX4_isItem_42 (by first | decide | omega) ?_
      first
      | (exfalso; omega)
      | (have hz : i = 0 := by omega
         subst hz
         rw [itX_0, itV_n (nmb_1 h18)] at hf
         exact hf rfl w hk (fun _ _ _ _ => rfl))
      | (rw [itX_1 (by omega), itI_n (nmb_1 h18) (nmb_1 h18) (nmb_1 h18)] at hf
         exact hf rfl w hk (fun _ _ _ _ => rfl))
      | (have hz : i = 0 := by omega
         subst hz
         rw [itX_0, itV_n (nmb_f (fun y => c30 (cc_eq.mpr (hM0.mp y))))] at hf
         exact hf rfl w hk (fun _ _ _ _ => rfl))
      | (have hw0 := cc_eq.mp c30
         rw [itX_1 (by omega), itI_n (nmb_f (fun y => by have := hM1.mp y; omega)) (nmb_f (fun y => by have := hM2.mp y; omega)) (nmb_f (fun y => by have := hM3.mp y; omega))] at hf
         exact hf rfl w hk (fun _ _ _ _ => rfl))
    · refine w_il1 hC dX4_isItem_21 ?_
      refine w_al0 hC dX4_isItem_22 ?_
      have hK1 : tkK t len p = 1 := by omega
      have h13 := hk.2.2.2.2 hK1
      have hM0 := hN0 hK1
      have hM1 := hN1 hK1
      have hM2 := hN2 hK1
      have hM3 := hN3 hK1
      generalize wdV t (tkS t len p) (tkE t len p - tkS t len p) = wv at h13 hM0 hM1 hM2 hM3
      refine v_getL hC dX4_isItem_23 fd_X4_88 rfl rfl ?_
      rw [h13]
      refine v_ldc2 (n := 508508140389) hC dX4_isItem_26 kl_X4_121 rfl (ckL_ok rfl) ?_
      refine v_lcmp hC dX4_isItem_29 ?_
      refine v_if_ne (tgt := 37) hC dX4_isItem_30 rfl (fun c30 => ?_) (fun c30 => ?_)
      · refine w_ic hC dX4_isItem_37 rfl ?_
        refine v_ic_eq (tgt := 43) hC dX4_isItem_38 rfl (fun h => absurd h (by decide)) (fun _ => ?_)
        refine w_ic hC dX4_isItem_41 rfl ?_
        refine v_zret hC hR dX4_isItem_42 (by first | decide | omega) ?_
        first
        | (exfalso; omega)
        | (have hz : i = 0 := by omega
           subst hz
           rw [itX_0, itV_n (nmb_1 h18)] at hf
           exact hf rfl w hk (fun _ _ _ _ => rfl))
        | (rw [itX_1 (by omega), itI_n (nmb_1 h18) (nmb_1 h18) (nmb_1 h18)] at hf
           exact hf rfl w hk (fun _ _ _ _ => rfl))
        | (have hz : i = 0 := by omega
           subst hz
           rw [itX_0, itV_n (nmb_f (fun y => c30 (cc_eq.mpr (hM0.mp y))))] at hf
           exact hf rfl w hk (fun _ _ _ _ => rfl))
        | (have hw0 := cc_eq.mp c30
           rw [itX_1 (by omega), itI_n (nmb_f (fun y => by have := hM1.mp y; omega)) (nmb_f (fun y => by have := hM2.mp y; omega)) (nmb_f (fun y => by have := hM3.mp y; omega))] at hf
           exact hf rfl w hk (fun _ _ _ _ => rfl))
      · refine w_ic hC dX4_isItem_33 rfl ?_
        refine v_goto (tgt := 38) hC dX4_isItem_34 rfl ?_
        refine v_ic_eq (tgt := 43) hC dX4_isItem_38 rfl (fun _ => ?_) (fun h => absurd h (by decide))
        refine w_il1 hC dX4_isItem_43 ?_
        refine v_if_eq (tgt := 52) hC dX4_isItem_44 rfl (fun h => absurd h (by decide)) (fun _ => ?_)
        refine w_al0 hC dX4_isItem_47 ?_
        have hz : i = 0 := by omega
        subst hz
        have hn0 := hM0.mpr (cc_eq.mp c30)
        rw [itX_0] at ht hf
        refine w_vi0 hC vi_X4_123 rfl dX4_isItem_48 rfl hN (d_isVerseItem hT hp hk hr (hb rfl) hn0 (fun z w5 k5 r5 o5 => ?_) (fun z w5 k5 o5 => ?_))
        · refine v_zret hC hR dX4_isItem_51 (by first | decide | omega) ?_
          first | exact ht z w5 k5 r5 o5 | exact hf z w5 k5 o5
        · refine v_zret hC hR dX4_isItem_51 (by first | decide | omega) ?_
          first | exact ht z w5 k5 r5 o5 | exact hf z w5 k5 o5

theorem bg_e : ∀ k, k < 127 → (if 28 ≤ k ∧ k < 34 then (-1 : Int) else if k = 1 then 3 else 0) = bg0 k := by
  intro k _
  unfold bg0 sBegin
  by_cases h0 : k = 0
  · subst h0; rfl
  · rw [if_neg h0]
    by_cases h1 : k = 1
    · subst h1; rfl
    · rw [if_neg h1, if_neg h1]
      by_cases h2 : k = 2
      · subst h2; rfl
      · rw [if_neg h2]
theorem itX_ok {i : Nat} {t : Nat → Int} {len q : Nat} {b : Nat → Int} (hB : AOK b) (hq : q ≤ len) : itOK t len q (itX i t len q b) := by
  unfold itX
  split
  · exact itV_ok hq
  · exact itI_ok hB hq
theorem rx_s {i : Nat} {t : Nat → Int} {len q : Nat} {a b : Nat → Int} (hz : (itX i t len q b).1 = true) (hb0 : i = 0 → b = bg0 ∧ q = 0) (hR : 1 ≤ i → rdF t len (151 - i) i q b = rd0 t len a) (ht0 : i ≠ 0 → ¬ tkK t len q = 0) (hi : i ≤ 150) : rdF t len (151 - (i + 1)) (i + 1) (tkE t len (itX i t len q b).2.1) (itX i t len q b).2.2 = rd0 t len a := by
  by_cases h : i = 0
  · subst h
    obtain ⟨rfl, rfl⟩ := hb0 rfl
    rw [itX_0] at hz ⊢
    obtain ⟨e1, e2, e3⟩ := itV_a t len 0 bg0 a
    rw [e3 hz, e2]
    exact rd_v1 (e1 ▸ hz)
  · have hr := hR (by omega)
    rw [itX_1 h] at hz ⊢
    rw [show 151 - i = (151 - (i + 1)) + 1 by omega, rdF_1 (ht0 h) hz] at hr
    exact hr
theorem rx_f {i : Nat} {t : Nat → Int} {len q : Nat} {a b : Nat → Int} (hz : (itX i t len q b).1 = false) (hb0 : i = 0 → b = bg0 ∧ q = 0) (hR : 1 ≤ i → rdF t len (151 - i) i q b = rd0 t len a) (ht0 : i ≠ 0 → ¬ tkK t len q = 0) (hi : i ≤ 150) : (rd0 t len a).1 = false ∧ (rd0 t len a).2.2.1 = (itX i t len q b).2.1 := by
  by_cases h : i = 0
  · subst h
    obtain ⟨rfl, rfl⟩ := hb0 rfl
    rw [itX_0] at hz ⊢
    obtain ⟨e1, e2, e3⟩ := itV_a t len 0 bg0 a
    have hz2 : (itV t len 0 a).1 = false := by rw [← e1]; exact hz
    refine ⟨rd_v0 hz2, ?_⟩
    unfold rd0
    rw [if_neg (bf_ne hz2)]
    exact e2.symm
  · have hr := hR (by omega)
    rw [itX_1 h] at hz ⊢
    rw [show 151 - i = (151 - (i + 1)) + 1 by omega, rdF_2 (ht0 h) hz] at hr
    rw [← hr]
    exact ⟨rfl, rfl⟩
theorem rx_t {i : Nat} {t : Nat → Int} {len q : Nat} {a b : Nat → Int} (h : i ≠ 0) (hR : 1 ≤ i → rdF t len (151 - i) i q b = rd0 t len a) (h0 : tkK t len q = 0) (hi : i ≤ 150) : rd0 t len a = (true, i, q, b) := by
  have hr := hR (by omega)
  rw [show 151 - i = (151 - (i + 1)) + 1 by omega, rdF_0 h0] at hr
  exact hr.symm

theorem d_isRead {d : Nat} {w : Wd} {Q : Option MV → Wd → Prop} {t : Nat → Int} {len : Nat} {a : Nat → Int} (hT : TXm w t len) (ht : (rd0 t len a).1 = true → ∀ w2, TKm w2 t len (rd0 t len a).2.2.1 → w2 39 14 = (rd0 t len a).2.1 → RX w2 (rd0 t len a).2.2.2 → AOK (rd0 t len a).2.2.2 → frN w w2 → Q (some (.inl 1)) w2) (hf : (rd0 t len a).1 = false → ∀ w2, TKm w2 t len (rd0 t len a).2.2.1 → frN w w2 → Q (some (.inl 0)) w2) : Call (d + 6) mX4_isRead [vR 39] w Q := by
  refine call_in (ls := [some (vR 39)]) (by decide +kernel) rfl (Nat.le_of_ble_eq_true rfl) (fun κ hC hR hN => ?_)
  have hC : ctxB κ RX4 cX4_isRead (d + 6) := hC
  have hN : mlx κ 1 := hN
  refine w_al0 hC dX4_isRead_0 ?_
  refine v_getR (off := 2) (j := 41) hC dX4_isRead_1 fd_X4_13 rfl rfl rfl ?_
  refine w_st1 hC st_X4_45 dX4_isRead_4 rfl hN (d_begin rfl rfl (fun w1 e1 o1 => ?_))
  refine w_al0 hC dX4_isRead_7 ?_
  refine w_ic hC dX4_isRead_8 rfl ?_
  refine v_putI hC dX4_isRead_9 fp_X4_82 rfl rfl ?_
  refine w_al0 hC dX4_isRead_12 ?_
  refine w_ic hC dX4_isRead_13 rfl ?_
  refine v_putI hC dX4_isRead_14 fp_X4_118 rfl rfl ?_
  refine w_al0 hC dX4_isRead_17 ?_
  refine w_vi0 hC vi_X4_104 rfl dX4_isRead_18 rfl hN (d_nextToken (t := t) (len := len) (p := 0) (hT.fr (fun k => by rw [up_id _ _ (by decide), up_id _ _ (by decide)]; exact o1 45 k (show (45 : Nat) ≠ 41 by decide)) (by rw [up_pl _ _ (by decide), up_pl _ _ (by decide)]; exact o1 39 7 (show (39 : Nat) ≠ 41 by decide))) (Nat.zero_le _) (by rw [up_pl _ _ (by decide), up_same]; rfl) (fun w2 k2 o2 => ?_))
  have lp21 : ∀ (K : Nat) (w2 : Wd) (i q : Nat) (b : Nat → Int), (152 - i) < K → (q ≤ len) → (i ≤ q) → (TKm w2 t len q) → (RX w2 b) → (AOK b) → (w2 39 14 = i) → (i = 0 → b = bg0 ∧ q = 0) → (1 ≤ i → rdF t len (151 - i) i q b = rd0 t len a) → (frN w w2) → VV κ 21 [some (vR 39)] [] w2 := by
    intro K
    induction K with
    | zero => intros; omega
    | succ K ih21 =>
      intro w2 i q b hm21 hq hiq k2 r2 hB h14 hb0 hRd o2
      have hl := hT.2.2.1
      have hok := itX_ok (i := i) (t := t) hB hq
      refine w_al0 hC dX4_isRead_21 ?_
      refine v_getI hC dX4_isRead_22 fd_X4_94 rfl rfl ?_
      rw [k2.2.2.1]
      refine v_if_ne (tgt := 35) hC dX4_isRead_25 rfl (fun h25 => ?_) (fun h25 => ?_)
      · refine w_al0 hC dX4_isRead_35 ?_
        refine w_vi0 hC vi_X4_142 rfl dX4_isRead_36 rfl hN (d_isItem (hT.fn o2) hq k2 r2 (i := i) hB h14 (fun z => (hb0 z).1) (fun z w5 k5 r5 o5 => ?_) (fun z w5 k5 o5 => ?_))
        · refine v_if_ne (tgt := 44) hC dX4_isRead_39 rfl (fun _ => ?_) (fun h => absurd h (by decide))
          refine w_al0 hC dX4_isRead_44 ?_
          refine v_dup hC dX4_isRead_45 rfl ?_
          refine v_getI hC dX4_isRead_46 fd_X4_118 rfl rfl ?_
          rw [o5 39 14 (by decide) (by decide), h14]
          have hst := it_step hok z
          refine w_ic hC dX4_isRead_49 rfl ?_
          refine w_iadd hC dX4_isRead_50 (ri_mk (by omega) (by omega)) ?_
          refine v_putI hC dX4_isRead_51 fp_X4_118 rfl rfl ?_
          refine w_al0 hC dX4_isRead_54 ?_
          refine w_vi0 hC vi_X4_104 rfl dX4_isRead_55 rfl hN (d_nextToken (t := t) (len := len) (p := tkE t len (itX i t len q b).2.1) ((hT.fn (o2.m o5)).fr (fun k => up_id _ _ (by decide)) (up_pl _ _ (by decide))) hst.2 (by rw [up_pl _ _ (by decide)]; exact k5.2.1) (fun w7 k7 o7 => ?_))
          refine v_goto (tgt := 21) hC dX4_isRead_58 rfl ?_
          exact ih21 w7 (i + 1) _ _ (by omega) hst.2 (by omega) k7 (fun k hk => by rw [o7 41 k (by omega), up_id _ _ (by decide)]; exact r5 k hk) (hok.2 z).2 (by rw [o7 39 14 (by decide), up_same]; rfl) (fun h => absurd h (Nat.succ_ne_zero i)) (fun _ => rx_s z hb0 hRd (by omega) (by omega)) (fun a b h1 h2 => by rw [o7 a b (by omega), up_ne _ _ (by omega)]; exact (o2.m o5) a b h1 h2)
        · refine v_if_ne (tgt := 44) hC dX4_isRead_39 rfl (fun h => absurd h (by decide)) (fun _ => ?_)
          refine w_ic hC dX4_isRead_42 rfl ?_
          refine v_zret hC hR dX4_isRead_43 (by first | decide | omega) ?_
          obtain ⟨q1, q2⟩ := rx_f z hb0 hRd (by omega) (by omega)
          exact hf q1 w5 (by rw [q2]; exact k5) (o2.m o5)
      · refine w_al0 hC dX4_isRead_28 ?_
        refine v_getI hC dX4_isRead_29 fd_X4_118 rfl rfl ?_
        rw [h14]
        refine v_if_ne (tgt := 61) hC dX4_isRead_32 rfl (fun h32 => ?_) (fun h32 => ?_)
        · refine w_ic hC dX4_isRead_61 rfl ?_
          refine v_zret hC hR dX4_isRead_62 (by first | decide | omega) ?_
          have e := rx_t (a := a) (by omega) hRd h25 (by omega)
          rw [e] at ht
          exact ht rfl w2 k2 h14 r2 hB o2
        · refine w_al0 hC dX4_isRead_35 ?_
          refine w_vi0 hC vi_X4_142 rfl dX4_isRead_36 rfl hN (d_isItem (hT.fn o2) hq k2 r2 (i := i) hB h14 (fun z => (hb0 z).1) (fun z w5 k5 r5 o5 => ?_) (fun z w5 k5 o5 => ?_))
          · refine v_if_ne (tgt := 44) hC dX4_isRead_39 rfl (fun _ => ?_) (fun h => absurd h (by decide))
            refine w_al0 hC dX4_isRead_44 ?_
            refine v_dup hC dX4_isRead_45 rfl ?_
            refine v_getI hC dX4_isRead_46 fd_X4_118 rfl rfl ?_
            rw [o5 39 14 (by decide) (by decide), h14]
            have hst := it_step hok z
            refine w_ic hC dX4_isRead_49 rfl ?_
            refine w_iadd hC dX4_isRead_50 (ri_mk (by omega) (by omega)) ?_
            refine v_putI hC dX4_isRead_51 fp_X4_118 rfl rfl ?_
            refine w_al0 hC dX4_isRead_54 ?_
            refine w_vi0 hC vi_X4_104 rfl dX4_isRead_55 rfl hN (d_nextToken (t := t) (len := len) (p := tkE t len (itX i t len q b).2.1) ((hT.fn (o2.m o5)).fr (fun k => up_id _ _ (by decide)) (up_pl _ _ (by decide))) hst.2 (by rw [up_pl _ _ (by decide)]; exact k5.2.1) (fun w7 k7 o7 => ?_))
            refine v_goto (tgt := 21) hC dX4_isRead_58 rfl ?_
            exact ih21 w7 (i + 1) _ _ (by omega) hst.2 (by omega) k7 (fun k hk => by rw [o7 41 k (by omega), up_id _ _ (by decide)]; exact r5 k hk) (hok.2 z).2 (by rw [o7 39 14 (by decide), up_same]; rfl) (fun h => absurd h (Nat.succ_ne_zero i)) (fun _ => rx_s z hb0 hRd (by omega) (by omega)) (fun a b h1 h2 => by rw [o7 a b (by omega), up_ne _ _ (by omega)]; exact (o2.m o5) a b h1 h2)
          · refine v_if_ne (tgt := 44) hC dX4_isRead_39 rfl (fun h => absurd h (by decide)) (fun _ => ?_)
            refine w_ic hC dX4_isRead_42 rfl ?_
            refine v_zret hC hR dX4_isRead_43 (by first | decide | omega) ?_
            obtain ⟨q1, q2⟩ := rx_f z hb0 hRd (by omega) (by omega)
            exact hf q1 w5 (by rw [q2]; exact k5) (o2.m o5)
  exact lp21 153 w2 0 0 bg0 (by omega) (Nat.zero_le _) (Nat.le_refl 0) k2 (fun k hk => by rw [o2 41 k (by omega), up_id _ _ (by decide), up_id _ _ (by decide), e1 k hk]; exact bg_e k hk) bg_ok (by rw [o2 39 14 (by decide), up_same]; rfl) (fun _ => ⟨rfl, rfl⟩) (fun h => absurd h (by decide)) (fun a b h1 h2 => by rw [o2 a b (by omega), up_ne _ _ (by omega), up_ne _ _ (by omega)]; exact o1 a b h1)

theorem d_read {d : Nat} {w : Wd} {Q : Option MV → Wd → Prop} {t : Nat → Int} {len : Nat} {a : Nat → Int} (hT : TXm w t len) (hk : (rd0 t len a).1 = true → ∀ w2, (∀ k, k < 127 → w2 40 k = (rd0 t len a).2.2.2 k) → AOK (rd0 t len a).2.2.2 → (∀ i k : Nat, i ≠ 40 → i ≠ 41 → ¬ (i = 39 ∧ 9 ≤ k ∧ k ≤ 14) → w2 i k = w i k) → Q (some (.inl ((rd0 t len a).2.1 : Int))) w2) (hf : (rd0 t len a).1 = false → ∀ w2, frN w w2 → Q (some (.inl (-10 - (tkS t len (rd0 t len a).2.2.1 : Int)))) w2) : Call (d + 7) mX4_read [vR 39] w Q := by
  refine call_in (ls := [some (vR 39)]) (by decide +kernel) rfl (Nat.le_of_ble_eq_true rfl) (fun κ hC hR hN => ?_)
  have hC : ctxB κ RX4 cX4_read (d + 7) := hC
  have hN : mlx κ 1 := hN
  refine w_al0 hC dX4_read_0 ?_
  refine w_vi0 hC vi_X4_145 rfl dX4_read_1 rfl hN (d_isRead (a := a) hT (fun z w2 k2 i2 r2 A2 o2 => ?_) (fun z w2 k2 o2 => ?_))
  · refine v_if_ne (tgt := 15) hC dX4_read_4 rfl (fun _ => ?_) (fun h => absurd h (by decide))
    refine w_al0 hC dX4_read_15 ?_
    refine v_getR (off := 2) (j := 41) hC dX4_read_16 fd_X4_13 rfl rfl rfl ?_
    refine w_ic hC dX4_read_19 rfl ?_
    refine w_al0 hC dX4_read_20 ?_
    refine v_getR (off := 1) (j := 40) hC dX4_read_21 fd_X4_7 rfl rfl rfl ?_
    refine w_ic hC dX4_read_24 rfl ?_
    refine v_bipush hC dX4_read_25 (by decide) ?_
    refine w_st5 hC st_X4_148 dX4_read_27 rfl hN (d_bring (x := 41) (y := 40) (i := 0) (j := 0) (n := 127) rfl rfl (by decide) (by decide) (Or.inl (by decide)) (fun w3 b3 o3 => ?_))
    refine w_al0 hC dX4_read_30 ?_
    refine v_getI hC dX4_read_31 fd_X4_118 rfl rfl ?_
    rw [o3 39 14 (by omega), i2]
    refine v_iret hC hR dX4_read_34 ?_
    exact hk z w3 (fun k hk => by have := b3 k hk; rw [Nat.zero_add] at this; rw [this]; exact r2 k hk) A2 (fun i k h1 h2 h3 => by rw [o3 i k (by omega)]; exact o2 i k h2 h3)
  · refine v_if_ne (tgt := 15) hC dX4_read_4 rfl (fun h => absurd h (by decide)) (fun _ => ?_)
    refine v_bipush hC dX4_read_7 (by decide) ?_
    refine w_al0 hC dX4_read_9 ?_
    refine v_getI hC dX4_read_10 fd_X4_85 rfl rfl ?_
    rw [k2.1]
    have hl := hT.2.2.1
    have hq : (rd0 t len a).2.2.1 ≤ len := rd0_le
    have hs := tkS_r (t := t) hq
    refine w_isub hC dX4_read_13 (ri_mk (by omega) (by omega)) ?_
    refine v_iret hC hR dX4_read_14 ?_
    exact hf z w2 o2
