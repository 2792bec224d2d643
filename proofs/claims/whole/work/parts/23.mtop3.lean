/-! the most that are alike, counted from each one -/
def apF (ow : Int) (s : Nat) (n j : Int) (k : Nat) : Nat → Int := fun o => if (s.testBit k = true ∧ s.testBit o = true) ∧ saN ow k n j = saN ow o n j then 1 else 0
def apM (ow : Int) (s : Nat) (n j : Int) : Int := maxN (fun k => sumN (apF ow s n j k) 6) 6
theorem maxN_ge {f : Nat → Int} {k : Nat} (n : Nat) (h : k < n) : f k ≤ maxN f n := by
  induction n with
  | zero => omega
  | succ n ih =>
    show f k ≤ max (maxN f n) (f n)
    by_cases q : k = n
    · subst q; omega
    · have := ih (by omega); omega
theorem maxN_le {f : Nat → Int} {c : Int} (n : Nat) (h0 : 0 ≤ c) (h : ∀ k, k < n → f k ≤ c) : maxN f n ≤ c := by
  induction n with
  | zero => exact h0
  | succ n ih =>
    have h1 := ih (fun k hk => h k (by omega))
    have h2 := h n (by omega)
    show max (maxN f n) (f n) ≤ c
    omega
theorem maxN_0 {f : Nat → Int} (n : Nat) : 0 ≤ maxN f n := by
  induction n with
  | zero => exact Int.le_refl 0
  | succ n ih => show 0 ≤ max (maxN f n) (f n); omega
theorem sumN_le {f g : Nat → Int} (n : Nat) (h : ∀ k, k < n → f k ≤ g k) : sumN f n ≤ sumN g n := by
  induction n with
  | zero => exact Int.le_refl _
  | succ n ih =>
    have h1 := ih (fun k hk => h k (by omega))
    have h2 := h n (by omega)
    show sumN f n + f n ≤ sumN g n + g n
    omega
theorem ap_al (ow : Int) (s : Nat) (n j : Int) : apM ow s n j = alM ow s n j := by
  apply Int.le_antisymm
  · refine maxN_le 6 (maxN_0 6) (fun k hk => ?_)
    by_cases hb : s.testBit k = true
    · obtain ⟨k0, ⟨z1, z2, z3⟩, z4⟩ := pk_least (fun q => q < 6 ∧ s.testBit q = true ∧ saN ow q n j = saN ow k n j) ⟨k, hk, hb, rfl⟩
      have e : sumN (apF ow s n j k) 6 = alK ow s n j k0 := by
        unfold alK
        rw [if_pos z2]
        apply sumN_congr
        intro o ho
        unfold apF alF
        by_cases q : (s.testBit k = true ∧ s.testBit o = true) ∧ saN ow k n j = saN ow o n j
        · rw [if_pos q, if_pos ⟨Nat.le_of_not_lt (fun y => z4 o y ⟨ho, q.1.2, q.2.symm⟩), q.1.2, by rw [z3]; exact q.2.symm⟩]
        · rw [if_neg q, if_neg (fun y => q ⟨⟨hb, y.2.1⟩, by rw [← z3]; exact y.2.2.symm⟩)]
      rw [e]
      exact maxN_ge (f := alK ow s n j) 6 z1
    · rw [sumN_0 (f := apF ow s n j k) 6 (fun o _ => if_neg (fun y => hb y.1.1))]
      exact maxN_0 6
  · refine maxN_le 6 (maxN_0 6) (fun k hk => ?_)
    refine Int.le_trans ?_ (maxN_ge (f := fun k => sumN (apF ow s n j k) 6) 6 hk)
    unfold alK
    split
    next hb =>
      refine sumN_le 6 (fun o _ => ?_)
      unfold alF apF
      by_cases q : k ≤ o ∧ s.testBit o = true ∧ saN ow o n j = saN ow k n j
      · rw [if_pos q, if_pos ⟨⟨hb, q.2.1⟩, q.2.2.symm⟩]; exact Int.le_refl _
      · rw [if_neg q]; split <;> omega
    next => exact (sumN_r (f := apF ow s n j k) (c := 1) 6 (fun o _ => by unfold apF; split <;> omega)).1
theorem ap_t {ow : Int} {s : Nat} {n j : Int} {k o : Nat} (h1 : s.testBit k = true) (h2 : s.testBit o = true) (h3 : saN ow k n j = saN ow o n j) : apF ow s n j k o = 1 := if_pos ⟨⟨h1, h2⟩, h3⟩
theorem ap_f1 {ow : Int} {s : Nat} {n j : Int} {k o : Nat} (h1 : s.testBit k = false) : apF ow s n j k o = 0 := if_neg (fun y => bf_ne h1 y.1.1)
theorem ap_f2 {ow : Int} {s : Nat} {n j : Int} {k o : Nat} (h1 : s.testBit o = false) : apF ow s n j k o = 0 := if_neg (fun y => bf_ne h1 y.1.2)
theorem ap_f3 {ow : Int} {s : Nat} {n j : Int} {k o : Nat} (h3 : ¬ saN ow k n j = saN ow o n j) : apF ow s n j k o = 0 := if_neg (fun y => h3 y.2)
theorem sa_0 {k n j : Int} {ow : Int} (h : ow = 0) : plN k n j = saN ow k n j := (if_pos h).symm
theorem sa_1 {k n j : Int} {ow : Int} (h : ¬ ow = 0) : coN k n j = saN ow k n j := (if_neg h).symm

theorem maxN_s (f : Nat → Int) (n : Nat) : maxN f (n + 1) = max (maxN f n) (f n) := rfl

theorem d_alike {d : Nat} {w : Wd} {Q : Option MV → Wd → Prop} {s : Nat} {fo n j : Int} (hs : s < 64) (hn : 1 ≤ n ∧ n ≤ 6) (hj : 0 ≤ j ∧ j ≤ 6) (hQ : Q (some (.inl (alM (1 - fo) s n j))) w) (hfo : fo = 0 ∨ fo = 1) : Call (d + 1) mX4_alike [vI (s : Int), vI fo, vI n, vI j] w Q := by
  refine call_in (ls := [some (vI (s : Int)), some (vI fo), some (vI n), some (vI j), none, none, none, none, none, none]) (by decide +kernel) rfl (Nat.le_of_ble_eq_true rfl) (fun κ hC hR hN => ?_)
  have hC : ctxB κ RX4 cX4_alike (d + 1) := hC
  have hN : mlx κ 10 := hN
  refine w_ic hC dX4_alike_0 rfl ?_
  refine w_is4 hC dX4_alike_1 hN (by first | rfl | assumption) ?_
  refine w_ic hC dX4_alike_3 rfl ?_
  refine w_is5 hC dX4_alike_4 hN (by first | rfl | assumption) ?_
  refine w_dr6 ?_
  refine w_dr7 ?_
  refine w_dr8 ?_
  refine w_dr9 ?_
  have lp6 : ∀ (K : Nat) (mo : Int) (k : Nat), (6 - k) < K → (k ≤ 6) → (mo = maxN (fun k => sumN (apF (1 - fo) s n j k) 6) k) → VV κ 6 [some (vI (s : Int)), some (vI fo), some (vI n), some (vI j), some (vI mo), some (vI (k : Int)), none, none, none, none] [] w := by
    intro K
    induction K with
    | zero => intros; omega
    | succ K ih6 =>
      intro mo k hm6 hk hm
      refine w_il5 hC dX4_alike_6 ?_
      refine v_bipush hC dX4_alike_8 (by decide) ?_
      refine v_ic_ge (tgt := 135) hC dX4_alike_10 rfl (fun h10 => ?_) (fun h10 => ?_)
      · refine w_il4 hC dX4_alike_135 ?_
        refine v_iret hC hR dX4_alike_137 ?_
        rw [show k = 6 by omega] at hm
        rw [← ap_al] at hQ
        exact qz hm.symm hQ
      · refine w_il1 hC dX4_alike_13 ?_
        have tl34 : ∀ (own : Int), (own = saN (1 - fo) (k : Int) n j) → VV κ 34 [some (vI (s : Int)), some (vI fo), some (vI n), some (vI j), some (vI mo), some (vI (k : Int)), none, none, none, none] [vI own] w := by
          intro own hown
          refine w_is6 hC dX4_alike_34 hN (by first | rfl | assumption) ?_
          refine w_ic hC dX4_alike_36 rfl ?_
          refine w_is7 hC dX4_alike_37 hN (by first | rfl | assumption) ?_
          refine w_ic hC dX4_alike_39 rfl ?_
          refine w_is8 hC dX4_alike_40 hN (by first | rfl | assumption) ?_
          refine w_dr9 ?_
          have lp42 : ∀ (K2 : Nat) (pa : Int) (o : Nat), (6 - o) < K2 → (o ≤ 6) → (pa = sumN (apF (1 - fo) s n j k) o) → VV κ 42 [some (vI (s : Int)), some (vI fo), some (vI n), some (vI j), some (vI mo), some (vI (k : Int)), some (vI own), some (vI pa), some (vI (o : Int)), none] [] w := by
            intro K2
            induction K2 with
            | zero => intros; omega
            | succ K2 ih42 =>
              intro pa o hm42 ho hp
              have hra := sumN_r (f := apF (1 - fo) s n j k) (c := 1) o (fun o _ => by unfold apF; split <;> omega)
              refine w_il8 hC dX4_alike_42 ?_
              refine v_bipush hC dX4_alike_44 (by decide) ?_
              refine v_ic_ge (tgt := 113) hC dX4_alike_46 rfl (fun h46 => ?_) (fun h46 => ?_)
              · have hpa : pa = sumN (apF (1 - fo) s n j k) 6 := by rw [hp]; congr 1; omega
                refine w_il7 hC dX4_alike_113 ?_
                refine w_il4 hC dX4_alike_115 ?_
                refine v_ic_le (tgt := 125) hC dX4_alike_117 rfl (fun h117 => ?_) (fun h117 => ?_)
                · refine w_il4 hC dX4_alike_125 ?_
                  refine w_is4 hC dX4_alike_127 hN (by first | rfl | assumption) ?_
                  refine w_inc5 hC dX4_alike_129 hN (by first | rfl | assumption) (ri_mk (by omega) (by omega)) ?_
                  refine v_goto (tgt := 6) hC dX4_alike_132 rfl ?_
                  refine w_dr6 ?_
                  refine w_dr7 ?_
                  refine w_dr8 ?_
                  refine w_dr9 ?_
                  exact ih6 _ (k + 1) (by omega) (by omega) (by rw [maxN_s, ← hm, ← hpa]; omega)
                · refine w_il7 hC dX4_alike_120 ?_
                  refine v_goto (tgt := 127) hC dX4_alike_122 rfl ?_
                  refine w_is4 hC dX4_alike_127 hN (by first | rfl | assumption) ?_
                  refine w_inc5 hC dX4_alike_129 hN (by first | rfl | assumption) (ri_mk (by omega) (by omega)) ?_
                  refine v_goto (tgt := 6) hC dX4_alike_132 rfl ?_
                  refine w_dr6 ?_
                  refine w_dr7 ?_
                  refine w_dr8 ?_
                  refine w_dr9 ?_
                  exact ih6 _ (k + 1) (by omega) (by omega) (by rw [maxN_s, ← hm, ← hpa]; omega)
              · refine w_il1 hC dX4_alike_49 ?_
                have tl70 : ∀ (oth : Int), (oth = saN (1 - fo) (o : Int) n j) → VV κ 70 [some (vI (s : Int)), some (vI fo), some (vI n), some (vI j), some (vI mo), some (vI (k : Int)), some (vI own), some (vI pa), some (vI (o : Int)), none] [vI oth] w := by
                  intro oth hoth
                  refine w_is9 hC dX4_alike_70 hN (by first | rfl | assumption) ?_
                  refine w_il7 hC dX4_alike_72 ?_
                  refine w_il0 hC dX4_alike_74 ?_
                  refine w_il5 hC dX4_alike_75 ?_
                  refine w_st2 hC st_X4_191 dX4_alike_77 rfl hN (d_has (by omega) (by omega) (fun g1 => ?_) (fun g1 => ?_))
                  · refine v_if_eq (tgt := 103) hC dX4_alike_80 rfl (fun h => absurd h (by decide)) (fun _ => ?_)
                    refine w_il0 hC dX4_alike_83 ?_
                    refine w_il8 hC dX4_alike_84 ?_
                    refine w_st2 hC st_X4_191 dX4_alike_86 rfl hN (d_has (by omega) (by omega) (fun g2 => ?_) (fun g2 => ?_))
                    · refine v_if_eq (tgt := 103) hC dX4_alike_89 rfl (fun h => absurd h (by decide)) (fun _ => ?_)
                      refine w_il6 hC dX4_alike_92 ?_
                      refine w_il9 hC dX4_alike_94 ?_
                      refine v_ic_ne (tgt := 103) hC dX4_alike_96 rfl (fun h96 => ?_) (fun h96 => ?_)
                      · refine w_ic hC dX4_alike_103 rfl ?_
                        refine w_iadd hC dX4_alike_104 (ri_mk (by omega) (by omega)) ?_
                        refine w_is7 hC dX4_alike_105 hN (by first | rfl | assumption) ?_
                        refine w_inc8 hC dX4_alike_107 hN (by first | rfl | assumption) (ri_mk (by omega) (by omega)) ?_
                        refine v_goto (tgt := 42) hC dX4_alike_110 rfl ?_
                        refine w_dr9 ?_
                        first | exact ih42 _ (o + 1) (by omega) (by omega) (sumN_s hp (ap_t g1 g2 (by omega))) | exact ih42 _ (o + 1) (by omega) (by omega) (sumN_s hp (ap_f3 (by omega))) | exact ih42 _ (o + 1) (by omega) (by omega) (sumN_s hp (ap_f2 g2)) | exact ih42 _ (o + 1) (by omega) (by omega) (sumN_s hp (ap_f1 g1))
                      · refine w_ic hC dX4_alike_99 rfl ?_
                        refine v_goto (tgt := 104) hC dX4_alike_100 rfl ?_
                        refine w_iadd hC dX4_alike_104 (ri_mk (by omega) (by omega)) ?_
                        refine w_is7 hC dX4_alike_105 hN (by first | rfl | assumption) ?_
                        refine w_inc8 hC dX4_alike_107 hN (by first | rfl | assumption) (ri_mk (by omega) (by omega)) ?_
                        refine v_goto (tgt := 42) hC dX4_alike_110 rfl ?_
                        refine w_dr9 ?_
                        first | exact ih42 _ (o + 1) (by omega) (by omega) (sumN_s hp (ap_t g1 g2 (by omega))) | exact ih42 _ (o + 1) (by omega) (by omega) (sumN_s hp (ap_f3 (by omega))) | exact ih42 _ (o + 1) (by omega) (by omega) (sumN_s hp (ap_f2 g2)) | exact ih42 _ (o + 1) (by omega) (by omega) (sumN_s hp (ap_f1 g1))
                    · refine v_if_eq (tgt := 103) hC dX4_alike_89 rfl (fun _ => ?_) (fun h => absurd h (by decide))
                      refine w_ic hC dX4_alike_103 rfl ?_
                      refine w_iadd hC dX4_alike_104 (ri_mk (by omega) (by omega)) ?_
                      refine w_is7 hC dX4_alike_105 hN (by first | rfl | assumption) ?_
                      refine w_inc8 hC dX4_alike_107 hN (by first | rfl | assumption) (ri_mk (by omega) (by omega)) ?_
                      refine v_goto (tgt := 42) hC dX4_alike_110 rfl ?_
                      refine w_dr9 ?_
                      first | exact ih42 _ (o + 1) (by omega) (by omega) (sumN_s hp (ap_t g1 g2 (by omega))) | exact ih42 _ (o + 1) (by omega) (by omega) (sumN_s hp (ap_f3 (by omega))) | exact ih42 _ (o + 1) (by omega) (by omega) (sumN_s hp (ap_f2 g2)) | exact ih42 _ (o + 1) (by omega) (by omega) (sumN_s hp (ap_f1 g1))
                  · refine v_if_eq (tgt := 103) hC dX4_alike_80 rfl (fun _ => ?_) (fun h => absurd h (by decide))
                    refine w_ic hC dX4_alike_103 rfl ?_
                    refine w_iadd hC dX4_alike_104 (ri_mk (by omega) (by omega)) ?_
                    refine w_is7 hC dX4_alike_105 hN (by first | rfl | assumption) ?_
                    refine w_inc8 hC dX4_alike_107 hN (by first | rfl | assumption) (ri_mk (by omega) (by omega)) ?_
                    refine v_goto (tgt := 42) hC dX4_alike_110 rfl ?_
                    refine w_dr9 ?_
                    first | exact ih42 _ (o + 1) (by omega) (by omega) (sumN_s hp (ap_t g1 g2 (by omega))) | exact ih42 _ (o + 1) (by omega) (by omega) (sumN_s hp (ap_f3 (by omega))) | exact ih42 _ (o + 1) (by omega) (by omega) (sumN_s hp (ap_f2 g2)) | exact ih42 _ (o + 1) (by omega) (by omega) (sumN_s hp (ap_f1 g1))
                refine v_if_eq (tgt := 63) hC dX4_alike_50 rfl (fun h50 => ?_) (fun h50 => ?_)
                · refine w_il8 hC dX4_alike_63 ?_
                  refine w_il2 hC dX4_alike_65 ?_
                  refine w_il3 hC dX4_alike_66 ?_
                  refine w_st3 hC st_X4_152 dX4_alike_67 rfl hN (d_costBy ⟨by omega, hn.2⟩ hj ?_)
                  first | exact tl70 _ (sa_0 (by omega)) | exact tl70 _ (sa_1 (by omega))
                · refine w_il8 hC dX4_alike_53 ?_
                  refine w_il2 hC dX4_alike_55 ?_
                  refine w_il3 hC dX4_alike_56 ?_
                  refine w_st3 hC st_X4_156 dX4_alike_57 rfl hN (d_placeBy hn hj ?_)
                  refine v_goto (tgt := 70) hC dX4_alike_60 rfl ?_
                  first | exact tl70 _ (sa_0 (by omega)) | exact tl70 _ (sa_1 (by omega))
          exact lp42 7 0 0 (by omega) (by omega) rfl
        refine v_if_eq (tgt := 27) hC dX4_alike_14 rfl (fun h14 => ?_) (fun h14 => ?_)
        · refine w_il5 hC dX4_alike_27 ?_
          refine w_il2 hC dX4_alike_29 ?_
          refine w_il3 hC dX4_alike_30 ?_
          refine w_st3 hC st_X4_152 dX4_alike_31 rfl hN (d_costBy ⟨by omega, hn.2⟩ hj ?_)
          first | exact tl34 _ (sa_0 (by omega)) | exact tl34 _ (sa_1 (by omega))
        · refine w_il5 hC dX4_alike_17 ?_
          refine w_il2 hC dX4_alike_19 ?_
          refine w_il3 hC dX4_alike_20 ?_
          refine w_st3 hC st_X4_156 dX4_alike_21 rfl hN (d_placeBy hn hj ?_)
          refine v_goto (tgt := 34) hC dX4_alike_24 rfl ?_
          first | exact tl34 _ (sa_0 (by omega)) | exact tl34 _ (sa_1 (by omega))
  exact lp6 7 0 0 (by omega) (by omega) rfl

/-- how many questions are before a number -/
def qsN (c : Nat) : Nat := 6 * ((c - 30) / 10) + min 6 ((c - 30) % 10)
theorem bq_low (f c : Nat → Int) (t : Nat) : (bqS f c t).2 ≤ 7 := by
  induction t with
  | zero => exact Int.le_refl 7
  | succ t ih =>
    rw [bqS_s]
    split
    next h => show f t ≤ 7; omega
    next => exact ih

theorem qs_in {c : Nat} (h : 30 ≤ c) (h2 : c % 10 ≤ 5) : qsN (c + 1) = qsN c + 1 := by unfold qsN; omega
theorem qs_out {c : Nat} (h : 30 ≤ c) (h2 : 5 < c % 10) : qsN (c + 1) = qsN c := by unfold qsN; omega
theorem bq_skip {f cf : Nat → Int} {be fe : Int} {c : Nat} (hp : (be, fe) = bqS f cf (qsN c)) (h : 30 ≤ c ∧ 5 < c % 10) : (be, fe) = bqS f cf (qsN (c + 1)) := by rw [qs_out h.1 h.2]; exact hp
theorem bq_1 {f cf : Nat → Int} {be fe z y : Int} {c : Nat} (hp : (be, fe) = bqS f cf (qsN c)) (hf : f (qsN c) = z) (hc : cf (qsN c) = y) (h : 30 ≤ c ∧ c % 10 ≤ 5) (hl : z < fe) : (y, z) = bqS f cf (qsN (c + 1)) := by
  rw [qs_in h.1 h.2, bqS_s, ← hp, hf, hc]
  exact (if_pos hl).symm
theorem bq_0 {f cf : Nat → Int} {be fe z : Int} {c : Nat} (hp : (be, fe) = bqS f cf (qsN c)) (hf : f (qsN c) = z) (h : 30 ≤ c ∧ c % 10 ≤ 5) (hl : ¬ z < fe) : (be, fe) = bqS f cf (qsN (c + 1)) := by
  rw [qs_in h.1 h.2, bqS_s, ← hp, hf]
  exact (if_neg hl).symm

theorem d_bestLook {d : Nat} {w : Wd} {Q : Option MV → Wd → Prop} {s : Nat} {fo : Int} (hs : s < 64) (hfo : fo = 0 ∨ fo = 1) (hQ : Q (some (.inl (bqR (1 - fo) s))) w) : Call (d + 2) mX4_bestLook [vI (s : Int), vI fo] w Q := by
  refine call_in (ls := [some (vI (s : Int)), some (vI fo), none, none, none, none]) (by decide +kernel) rfl (Nat.le_of_ble_eq_true rfl) (fun κ hC hR hN => ?_)
  have hC : ctxB κ RX4 cX4_bestLook (d + 2) := hC
  have hN : mlx κ 6 := hN
  refine w_ic hC dX4_bestLook_0 rfl ?_
  refine w_is2 hC dX4_bestLook_1 hN (by first | rfl | assumption) ?_
  refine v_bipush hC dX4_bestLook_2 (by decide) ?_
  refine w_is3 hC dX4_bestLook_4 hN (by first | rfl | assumption) ?_
  refine v_bipush hC dX4_bestLook_5 (by decide) ?_
  refine w_is4 hC dX4_bestLook_7 hN (by first | rfl | assumption) ?_
  refine w_dr5 ?_
  have lp9 : ∀ (K : Nat) (be fe : Int) (c : Nat), (66 - c) < K → (30 ≤ c ∧ c ≤ 66) → ((be, fe) = bqS (bqF (1 - fo) s) bqC (qsN c)) → (s = 0 → c = 30) → VV κ 9 [some (vI (s : Int)), some (vI fo), some (vI be), some (vI fe), some (vI (c : Int)), none] [] w := by
    intro K
    induction K with
    | zero => intros; omega
    | succ K ih9 =>
      intro be fe c hm9 hc hp hz
      have hlo := bq_low (bqF (1 - fo) s) bqC (qsN c)
      rw [← hp] at hlo
      dsimp only at hlo
      refine w_il4 hC dX4_bestLook_9 ?_
      refine v_bipush hC dX4_bestLook_11 (by decide) ?_
      refine v_ic_ge (tgt := 83) hC dX4_bestLook_13 rfl (fun h13 => ?_) (fun h13 => ?_)
      · refine w_il2 hC dX4_bestLook_83 ?_
        refine v_iret hC hR dX4_bestLook_84 ?_
        refine qz ?_ hQ
        unfold bqR
        by_cases q : s = 0
        · rw [if_pos q]
          have h3 := hz q
          subst h3
          exact (congrArg Prod.fst hp).symm
        · rw [if_neg q]
          have h7 : c = 66 := by omega
          subst h7
          exact (congrArg Prod.fst hp).symm
      · refine w_il0 hC dX4_bestLook_16 ?_
        refine v_if_eq (tgt := 83) hC dX4_bestLook_17 rfl (fun h17 => ?_) (fun h17 => ?_)
        · refine w_il2 hC dX4_bestLook_83 ?_
          refine v_iret hC hR dX4_bestLook_84 ?_
          refine qz ?_ hQ
          unfold bqR
          by_cases q : s = 0
          · rw [if_pos q]
            have h3 := hz q
            subst h3
            exact (congrArg Prod.fst hp).symm
          · rw [if_neg q]
            have h7 : c = 66 := by omega
            subst h7
            exact (congrArg Prod.fst hp).symm
        · refine w_il4 hC dX4_bestLook_20 ?_
          refine v_bipush hC dX4_bestLook_22 (by decide) ?_
          refine v_irem_n hC (by omega) (by omega) dX4_bestLook_24 ?_
          rw [show (c : Int) % 10 = ((c % 10 : Nat) : Int) by omega]
          refine w_ic hC dX4_bestLook_25 rfl ?_
          refine v_ic_le (tgt := 34) hC dX4_bestLook_26 rfl (fun h26 => ?_) (fun h26 => ?_)
          · refine w_il0 hC dX4_bestLook_34 ?_
            refine w_il1 hC dX4_bestLook_35 ?_
            refine w_il4 hC dX4_bestLook_36 ?_
            refine v_bipush hC dX4_bestLook_38 (by decide) ?_
            refine v_idiv_n hC (by omega) (by omega) dX4_bestLook_40 ?_
            rw [show (c : Int) / 10 = ((c / 10 : Nat) : Int) by omega]
            refine w_il4 hC dX4_bestLook_41 ?_
            refine v_bipush hC dX4_bestLook_43 (by decide) ?_
            refine v_irem_n hC (by omega) (by omega) dX4_bestLook_45 ?_
            rw [show (c : Int) % 10 = ((c % 10 : Nat) : Int) by omega]
            refine w_st4 hC st_X4_212 dX4_bestLook_46 rfl hN (d_alike hs ⟨by omega, by omega⟩ ⟨by omega, by omega⟩ ?_ hfo)
            have hq6 : qsN c / 6 = c / 10 - 3 ∧ qsN c % 6 = c % 10 := by unfold qsN; omega
            have hbf : bqF (1 - fo) s (qsN c) = alM (1 - fo) s ((c / 10 : Nat) : Int) ((c % 10 : Nat) : Int) := by
              unfold bqF
              rw [hq6.1, hq6.2, show (3 : Int) + ((c / 10 - 3 : Nat) : Int) = ((c / 10 : Nat) : Int) by omega]
            have hbc : bqC (qsN c) = (c : Int) := by
              unfold bqC
              rw [hq6.1, hq6.2]
              omega
            generalize alM (1 - fo) s ((c / 10 : Nat) : Int) ((c % 10 : Nat) : Int) = mst at hbf ⊢
            refine w_is5 hC dX4_bestLook_49 hN (by first | rfl | assumption) ?_
            refine w_il5 hC dX4_bestLook_51 ?_
            refine w_il3 hC dX4_bestLook_53 ?_
            refine v_ic_ge (tgt := 62) hC dX4_bestLook_54 rfl (fun h54 => ?_) (fun h54 => ?_)
            · refine w_il2 hC dX4_bestLook_62 ?_
              refine w_is2 hC dX4_bestLook_63 hN (by first | rfl | assumption) ?_
              refine w_il5 hC dX4_bestLook_64 ?_
              refine w_il3 hC dX4_bestLook_66 ?_
              refine v_ic_ge (tgt := 75) hC dX4_bestLook_67 rfl (fun h67 => ?_) (fun h67 => ?_)
              · refine w_il3 hC dX4_bestLook_75 ?_
                refine w_is3 hC dX4_bestLook_76 hN (by first | rfl | assumption) ?_
                refine w_inc4 hC dX4_bestLook_77 hN (by first | rfl | assumption) (ri_mk (by omega) (by omega)) ?_
                refine v_goto (tgt := 9) hC dX4_bestLook_80 rfl ?_
                refine w_dr5 ?_
                first
                  | (exfalso; omega)
                  | exact ih9 _ _ (c + 1) (by omega) (by omega) (bq_skip hp (by omega)) (fun z => by omega)
                  | exact ih9 _ _ (c + 1) (by omega) (by omega) (bq_1 hp hbf hbc (by omega) (by omega)) (fun z => by omega)
                  | exact ih9 _ _ (c + 1) (by omega) (by omega) (bq_0 hp hbf (by omega) (by omega)) (fun z => by omega)
              · refine w_il5 hC dX4_bestLook_70 ?_
                refine v_goto (tgt := 76) hC dX4_bestLook_72 rfl ?_
                refine w_is3 hC dX4_bestLook_76 hN (by first | rfl | assumption) ?_
                refine w_inc4 hC dX4_bestLook_77 hN (by first | rfl | assumption) (ri_mk (by omega) (by omega)) ?_
                refine v_goto (tgt := 9) hC dX4_bestLook_80 rfl ?_
                refine w_dr5 ?_
                first
                  | (exfalso; omega)
                  | exact ih9 _ _ (c + 1) (by omega) (by omega) (bq_skip hp (by omega)) (fun z => by omega)
                  | exact ih9 _ _ (c + 1) (by omega) (by omega) (bq_1 hp hbf hbc (by omega) (by omega)) (fun z => by omega)
                  | exact ih9 _ _ (c + 1) (by omega) (by omega) (bq_0 hp hbf (by omega) (by omega)) (fun z => by omega)
            · refine w_il4 hC dX4_bestLook_57 ?_
              refine v_goto (tgt := 63) hC dX4_bestLook_59 rfl ?_
              refine w_is2 hC dX4_bestLook_63 hN (by first | rfl | assumption) ?_
              refine w_il5 hC dX4_bestLook_64 ?_
              refine w_il3 hC dX4_bestLook_66 ?_
              refine v_ic_ge (tgt := 75) hC dX4_bestLook_67 rfl (fun h67 => ?_) (fun h67 => ?_)
              · refine w_il3 hC dX4_bestLook_75 ?_
                refine w_is3 hC dX4_bestLook_76 hN (by first | rfl | assumption) ?_
                refine w_inc4 hC dX4_bestLook_77 hN (by first | rfl | assumption) (ri_mk (by omega) (by omega)) ?_
                refine v_goto (tgt := 9) hC dX4_bestLook_80 rfl ?_
                refine w_dr5 ?_
                first
                  | (exfalso; omega)
                  | exact ih9 _ _ (c + 1) (by omega) (by omega) (bq_skip hp (by omega)) (fun z => by omega)
                  | exact ih9 _ _ (c + 1) (by omega) (by omega) (bq_1 hp hbf hbc (by omega) (by omega)) (fun z => by omega)
                  | exact ih9 _ _ (c + 1) (by omega) (by omega) (bq_0 hp hbf (by omega) (by omega)) (fun z => by omega)
              · refine w_il5 hC dX4_bestLook_70 ?_
                refine v_goto (tgt := 76) hC dX4_bestLook_72 rfl ?_
                refine w_is3 hC dX4_bestLook_76 hN (by first | rfl | assumption) ?_
                refine w_inc4 hC dX4_bestLook_77 hN (by first | rfl | assumption) (ri_mk (by omega) (by omega)) ?_
                refine v_goto (tgt := 9) hC dX4_bestLook_80 rfl ?_
                refine w_dr5 ?_
                first
                  | (exfalso; omega)
                  | exact ih9 _ _ (c + 1) (by omega) (by omega) (bq_skip hp (by omega)) (fun z => by omega)
                  | exact ih9 _ _ (c + 1) (by omega) (by omega) (bq_1 hp hbf hbc (by omega) (by omega)) (fun z => by omega)
                  | exact ih9 _ _ (c + 1) (by omega) (by omega) (bq_0 hp hbf (by omega) (by omega)) (fun z => by omega)
          · refine v_bipush hC dX4_bestLook_29 (by decide) ?_
            refine v_goto (tgt := 49) hC dX4_bestLook_31 rfl ?_
            refine w_is5 hC dX4_bestLook_49 hN (by first | rfl | assumption) ?_
            refine w_il5 hC dX4_bestLook_51 ?_
            refine w_il3 hC dX4_bestLook_53 ?_
            refine v_ic_ge (tgt := 62) hC dX4_bestLook_54 rfl (fun h54 => ?_) (fun h54 => ?_)
            · refine w_il2 hC dX4_bestLook_62 ?_
              refine w_is2 hC dX4_bestLook_63 hN (by first | rfl | assumption) ?_
              refine w_il5 hC dX4_bestLook_64 ?_
              refine w_il3 hC dX4_bestLook_66 ?_
              refine v_ic_ge (tgt := 75) hC dX4_bestLook_67 rfl (fun h67 => ?_) (fun h67 => ?_)
              · refine w_il3 hC dX4_bestLook_75 ?_
                refine w_is3 hC dX4_bestLook_76 hN (by first | rfl | assumption) ?_
                refine w_inc4 hC dX4_bestLook_77 hN (by first | rfl | assumption) (ri_mk (by omega) (by omega)) ?_
                refine v_goto (tgt := 9) hC dX4_bestLook_80 rfl ?_
                refine w_dr5 ?_
                first
                  | (exfalso; omega)
                  | exact ih9 _ _ (c + 1) (by omega) (by omega) (bq_skip hp (by omega)) (fun z => by omega)
                  | exact ih9 _ _ (c + 1) (by omega) (by omega) (bq_1 hp hbf hbc (by omega) (by omega)) (fun z => by omega)
                  | exact ih9 _ _ (c + 1) (by omega) (by omega) (bq_0 hp hbf (by omega) (by omega)) (fun z => by omega)
              · refine w_il5 hC dX4_bestLook_70 ?_
                refine v_goto (tgt := 76) hC dX4_bestLook_72 rfl ?_
                refine w_is3 hC dX4_bestLook_76 hN (by first | rfl | assumption) ?_
                refine w_inc4 hC dX4_bestLook_77 hN (by first | rfl | assumption) (ri_mk (by omega) (by omega)) ?_
                refine v_goto (tgt := 9) hC dX4_bestLook_80 rfl ?_
                refine w_dr5 ?_
                first
                  | (exfalso; omega)
                  | exact ih9 _ _ (c + 1) (by omega) (by omega) (bq_skip hp (by omega)) (fun z => by omega)
                  | exact ih9 _ _ (c + 1) (by omega) (by omega) (bq_1 hp hbf hbc (by omega) (by omega)) (fun z => by omega)
                  | exact ih9 _ _ (c + 1) (by omega) (by omega) (bq_0 hp hbf (by omega) (by omega)) (fun z => by omega)
            · refine w_il4 hC dX4_bestLook_57 ?_
              refine v_goto (tgt := 63) hC dX4_bestLook_59 rfl ?_
              refine w_is2 hC dX4_bestLook_63 hN (by first | rfl | assumption) ?_
              refine w_il5 hC dX4_bestLook_64 ?_
              refine w_il3 hC dX4_bestLook_66 ?_
              refine v_ic_ge (tgt := 75) hC dX4_bestLook_67 rfl (fun h67 => ?_) (fun h67 => ?_)
              · refine w_il3 hC dX4_bestLook_75 ?_
                refine w_is3 hC dX4_bestLook_76 hN (by first | rfl | assumption) ?_
                refine w_inc4 hC dX4_bestLook_77 hN (by first | rfl | assumption) (ri_mk (by omega) (by omega)) ?_
                refine v_goto (tgt := 9) hC dX4_bestLook_80 rfl ?_
                refine w_dr5 ?_
                first
                  | (exfalso; omega)
                  | exact ih9 _ _ (c + 1) (by omega) (by omega) (bq_skip hp (by omega)) (fun z => by omega)
                  | exact ih9 _ _ (c + 1) (by omega) (by omega) (bq_1 hp hbf hbc (by omega) (by omega)) (fun z => by omega)
                  | exact ih9 _ _ (c + 1) (by omega) (by omega) (bq_0 hp hbf (by omega) (by omega)) (fun z => by omega)
              · refine w_il5 hC dX4_bestLook_70 ?_
                refine v_goto (tgt := 76) hC dX4_bestLook_72 rfl ?_
                refine w_is3 hC dX4_bestLook_76 hN (by first | rfl | assumption) ?_
                refine w_inc4 hC dX4_bestLook_77 hN (by first | rfl | assumption) (ri_mk (by omega) (by omega)) ?_
                refine v_goto (tgt := 9) hC dX4_bestLook_80 rfl ?_
                refine w_dr5 ?_
                first
                  | (exfalso; omega)
                  | exact ih9 _ _ (c + 1) (by omega) (by omega) (bq_skip hp (by omega)) (fun z => by omega)
                  | exact ih9 _ _ (c + 1) (by omega) (by omega) (bq_1 hp hbf hbc (by omega) (by omega)) (fun z => by omega)
                  | exact ih9 _ _ (c + 1) (by omega) (by omega) (bq_0 hp hbf (by omega) (by omega)) (fun z => by omega)
  exact lp9 67 (-1) 7 30 (by omega) (by omega) rfl (fun _ => rfl)

theorem d_look {d : Nat} {w : Wd} {Q : Option MV → Wd → Prop} (hA : AOK (w 40)) (hQ : Q (some (.inl (bqR 0 (mkM (nAgr (w 40)) 6)))) w) : Call (d + 3) mX4_look [vR 39] w Q := by
  have am := hA.m
  have an := hA.n
  have af := hA.f
  have anc := hA.nc
  have amc := hA.mc
  have auc := hA.uc
  refine call_in (ls := [some (vR 39)]) (by decide +kernel) rfl (Nat.le_of_ble_eq_true rfl) (fun κ hC hR hN => ?_)
  have hC : ctxB κ RX4 cX4_look (d + 3) := hC
  have hN : mlx κ 1 := hN
  refine w_al0 hC dX4_look_0 ?_
  refine w_vi0 hC vi_X4_216 rfl dX4_look_1 rfl hN (d_formsSeen hA ?_)
  refine w_ic hC dX4_look_4 rfl ?_
  refine w_st2 hC st_X4_219 dX4_look_5 rfl hN (d_bestLook (mkM_lt _ 6) (Or.inr rfl) ?_)
  refine v_iret hC hR dX4_look_8 ?_
  exact hQ

theorem d_ask {d : Nat} {w : Wd} {Q : Option MV → Wd → Prop} (hA : AOK (w 40)) {n : Int} (hb0 : ¬ (0 ≤ n ∧ n < w 40 3) → Q (some (.inl (-2))) (cI w 44 0)) (hk : 0 ≤ n ∧ n < w 40 3 → Q (some (.inl (bqR 1 (mkM (mAgr (w 40) n) 6)))) w) : Call (d + 3) mX4_ask [vR 39, vI n] w Q := by
  have am := hA.m
  have an := hA.n
  have af := hA.f
  have anc := hA.nc
  have amc := hA.mc
  have auc := hA.uc
  refine call_in (ls := [some (vR 39), some (vI n)]) (by decide +kernel) rfl (Nat.le_of_ble_eq_true rfl) (fun κ hC hR hN => ?_)
  have hC : ctxB κ RX4 cX4_ask (d + 3) := hC
  have hN : mlx κ 2 := hN
  refine w_al0 hC dX4_ask_0 ?_
  refine w_il1 hC dX4_ask_1 ?_
  refine w_vi1 hC vi_X4_178 rfl dX4_ask_2 rfl hN (d_isWord hA (fun g1 => ?_) (fun g1 => ?_))
  · refine v_if_eq (tgt := 20) hC dX4_ask_5 rfl (fun h => absurd h (by decide)) (fun _ => ?_)
    refine w_al0 hC dX4_ask_8 ?_
    refine w_il1 hC dX4_ask_9 ?_
    refine w_vi1 hC vi_X4_222 rfl dX4_ask_10 rfl hN (d_kindsSeen hA ?_)
    refine w_ic hC dX4_ask_13 rfl ?_
    refine w_st2 hC st_X4_219 dX4_ask_14 rfl hN (d_bestLook (mkM_lt _ 6) (Or.inl rfl) ?_)
    refine v_goto (tgt := 24) hC dX4_ask_17 rfl ?_
    refine v_iret hC hR dX4_ask_24 ?_
    first | exact hb0 g1 | exact hk g1
  · refine v_if_eq (tgt := 20) hC dX4_ask_5 rfl (fun _ => ?_) (fun h => absurd h (by decide))
    refine w_al0 hC dX4_ask_20 ?_
    refine w_vi0 hC vi_X4_60 rfl dX4_ask_21 rfl hN (d_bad ?_)
    refine v_iret hC hR dX4_ask_24 ?_
    first | exact hb0 g1 | exact hk g1
