/-! most lines, rows, luck of the model -/
def hdT (w : Wd) (F : Nat → Nat → Bool) (n m j : Nat) : Prop := ∀ q u, j ≤ q → q ≤ m → u < 256 → w 47 (256 * q + u) = hdN F n m (m - q) u
def mxR (c : Nat → Prop) (f : Nat → Int) (s : Int) (k : Nat) (z : Int) : Prop := ∀ inst : DecidablePred c, z = @mxB c inst f s k
theorem mxR_0 (c : Nat → Prop) (f : Nat → Int) (s : Int) : mxR c f s 0 s := fun _ => rfl
theorem mxR_t1 {c : Nat → Prop} {f : Nat → Int} {s z v : Int} {k : Nat} (h : mxR c f s k z) (hc : c k) (hv : f k = v) (hl : z < v) : mxR c f s (k + 1) v := by
  intro inst
  show v = (if c k then max (mxB c f s k) (f k) else mxB c f s k)
  rw [if_pos hc, ← h inst, hv]
  omega
theorem mxR_t2 {c : Nat → Prop} {f : Nat → Int} {s z v : Int} {k : Nat} (h : mxR c f s k z) (hc : c k) (hv : f k = v) (hl : v ≤ z) : mxR c f s (k + 1) z := by
  intro inst
  show z = (if c k then max (mxB c f s k) (f k) else mxB c f s k)
  rw [if_pos hc, ← h inst, hv]
  omega
theorem mxR_f {c : Nat → Prop} {f : Nat → Int} {s z : Int} {k : Nat} (h : mxR c f s k z) (hc : ¬ c k) : mxR c f s (k + 1) z := by
  intro inst
  show z = (if c k then max (mxB c f s k) (f k) else mxB c f s k)
  rw [if_neg hc]
  exact h inst
def hdC (F : Nat → Nat → Bool) (m r u : Nat) : Nat → Prop := fun k => u.testBit k = false ∧ F k (m - (r + 1)) = true
theorem hc_t {a : Nat → Int} {f : Int} {m r u k j : Nat} (hj : m - (r + 1) = j) (h1 : u.testBit k = false) (h2 : fitB a f k j) : hdC (fitF a f) m r u k := ⟨h1, by rw [hj]; exact fitF_t.mpr h2⟩
theorem hc_1 {F : Nat → Nat → Bool} {m r u k : Nat} (h1 : u.testBit k = true) : ¬ hdC F m r u k := fun z => by
  have z1 := z.1
  rw [h1] at z1
  exact absurd z1 (by decide)
theorem hc_2 {a : Nat → Int} {f : Int} {m r u k j : Nat} (hj : m - (r + 1) = j) (h2 : ¬ fitB a f k j) : ¬ hdC (fitF a f) m r u k := fun z => h2 (by rw [← hj]; exact fitF_t.mp z.2)

theorem d_held {d : Nat} {w : Wd} {Q : Option MV → Wd → Prop} (hA : AOK (w 40)) (hQ : ∀ w2, frW w w2 → Q (some (.inl (hdN (fitF (w 40) (w 40 0)) (w 40 3).toNat (w 40 1).toNat (w 40 1).toNat 0))) w2) : Call (d + 4) mX4_held [vR 39] w Q := by
  have am := hA.m
  have an := hA.n
  have af := hA.f
  have anc := hA.nc
  have amc := hA.mc
  have auc := hA.uc
  obtain ⟨n, h3⟩ := Int.eq_ofNat_of_zero_le an.1
  obtain ⟨m, h1⟩ := Int.eq_ofNat_of_zero_le (show 0 ≤ w 40 1 by omega)
  have e3 : (w 40 3).toNat = n := by omega
  have e1 : (w 40 1).toNat = m := by omega
  refine call_in (ls := [some (vR 39), none, none, none, none, none, none, none]) (by decide +kernel) rfl (Nat.le_of_ble_eq_true rfl) (fun κ hC hR hN => ?_)
  have hC : ctxB κ RX4 cX4_held (d + 4) := hC
  have hN : mlx κ 8 := hN
  refine w_al0 hC dX4_held_0 ?_
  refine v_getR (off := 1) (j := 40) hC dX4_held_1 fd_X4_7 rfl rfl rfl ?_
  refine w_ic hC dX4_held_4 rfl ?_
  refine w_ialdk hC 127 (1) dX4_held_5 rfl rfl (by omega) (by omega) ?_
  rw [h1]
  refine w_is1 hC dX4_held_6 hN (by first | rfl | assumption) ?_
  refine w_ic hC dX4_held_7 rfl ?_
  refine w_is2 hC dX4_held_8 hN (by first | rfl | assumption) ?_
  refine w_dr3 ?_
  refine w_dr4 ?_
  refine w_dr5 ?_
  refine w_dr6 ?_
  refine w_dr7 ?_
  have lp9 : ∀ (K : Nat) (w2 : Wd) (u : Nat), (256 - u) < K → (u ≤ 256) → (∀ q, q < u → w2 47 (256 * m + q) = 0) → (frW w w2) → VV κ 9 [some (vR 39), some (vI (m : Int)), some (vI (u : Int)), none, none, none, none, none] [] w2 := by
    intro K
    induction K with
    | zero => intros; omega
    | succ K ih9 =>
      intro w2 u hm9 hu g1 o2
      refine w_il2 hC dX4_held_9 ?_
      refine v_sipush hC dX4_held_10 (by decide) ?_
      refine v_ic_ge (tgt := 35) hC dX4_held_13 rfl (fun h13 => ?_) (fun h13 => ?_)
      · refine w_il1 hC dX4_held_35 ?_
        refine w_ic hC dX4_held_36 rfl ?_
        refine w_isub hC dX4_held_37 (ri_mk (by omega) (by omega)) ?_
        refine w_is2 hC dX4_held_38 hN (by first | rfl | assumption) ?_
        refine w_dr3 ?_
        refine w_dr4 ?_
        refine w_dr5 ?_
        refine w_dr6 ?_
        refine w_dr7 ?_
        have lp39 : ∀ (K1 : Nat) (w3 : Wd) (t : Nat), t < K1 → (t ≤ m) → (hdT w3 (fitF (w 40) (w 40 0)) n m t) → (frW w w3) → VV κ 39 [some (vR 39), some (vI (m : Int)), some (vI ((t : Int) - 1)), none, none, none, none, none] [] w3 := by
          intro K1
          induction K1 with
          | zero => intros; omega
          | succ K1 ih39 =>
            intro w3 t hm39 ht g3 o3
            refine w_il2 hC dX4_held_39 ?_
            refine v_if_lt (tgt := 194) hC dX4_held_40 rfl (fun h40 => ?_) (fun h40 => ?_)
            · have g0 := g3 0 0 (by omega) (Nat.zero_le _) (by decide)
              rw [show 256 * 0 + 0 = 0 from rfl, Nat.sub_zero] at g0
              refine w_al0 hC dX4_held_194 ?_
              refine v_getR (off := 8) (j := 47) hC dX4_held_195 fd_X4_36 rfl rfl rfl ?_
              refine w_ic hC dX4_held_198 rfl ?_
              refine w_ialdk hC 1792 (0) dX4_held_199 rfl rfl (by omega) (by omega) ?_
              rw [g0]
              refine v_iret hC hR dX4_held_200 ?_
              rw [e3, e1] at hQ
              exact hQ w3 o3
            · obtain ⟨j, rfl⟩ : ∃ j, t = j + 1 := ⟨t - 1, by omega⟩
              rw [show (((j + 1 : Nat)) : Int) - 1 = (j : Int) by omega]
              obtain ⟨r, hr⟩ : ∃ r, m - j = r + 1 := ⟨m - j - 1, by omega⟩
              have er : m - (j + 1) = r := by omega
              have ej : m - (r + 1) = j := by omega
              refine w_ic hC dX4_held_43 rfl ?_
              refine w_is3 hC dX4_held_44 hN (by first | rfl | assumption) ?_
              refine w_dr4 ?_
              refine w_dr5 ?_
              refine w_dr6 ?_
              refine w_dr7 ?_
              have lp45 : ∀ (K2 : Nat) (w4 : Wd) (u : Nat), (256 - u) < K2 → (u ≤ 256) → (∀ v, v < u → w4 47 (256 * j + v) = hdN (fitF (w 40) (w 40 0)) n m (m - j) v) → (hdT w4 (fitF (w 40) (w 40 0)) n m (j + 1)) → (frW w w4) → VV κ 45 [some (vR 39), some (vI (m : Int)), some (vI (j : Int)), some (vI (u : Int)), none, none, none, none] [] w4 := by
                intro K2
                induction K2 with
                | zero => intros; omega
                | succ K2 ih45 =>
                  intro w4 u hm45 hu k4 k5 o4
                  have e40 : w4 40 = w 40 := funext (fun q => o4 40 q (by decide) (by decide))
                  have hA4 : AOK (w4 40) := by rw [e40]; exact hA
                  refine w_il3 hC dX4_held_45 ?_
                  refine v_sipush hC dX4_held_46 (by decide) ?_
                  refine v_ic_ge (tgt := 188) hC dX4_held_49 rfl (fun h49 => ?_) (fun h49 => ?_)
                  · refine w_inc2 hC dX4_held_188 hN (by first | rfl | assumption) (ri_mk (by omega) (by omega)) ?_
                    refine v_goto (tgt := 39) hC dX4_held_191 rfl ?_
                    refine w_dr3 ?_
                    refine w_dr4 ?_
                    refine w_dr5 ?_
                    refine w_dr6 ?_
                    refine w_dr7 ?_
                    exact ih39 _ j (by omega) (by omega) (fun q v q1 q2 q3 => by
                      by_cases z : q = j
                      · subst z; exact k4 v (by omega)
                      · exact k5 q v (by omega) q2 q3) o4
                  · have ku5 := k5 (j + 1) u (Nat.le_refl _) (by omega) (by omega)
                    rw [er] at ku5
                    have hr0 := hdN_r (F := fitF (w 40) (w 40 0)) (n := n) (m := m) r u
                    refine w_al0 hC dX4_held_52 ?_
                    refine v_getR (off := 8) (j := 47) hC dX4_held_53 fd_X4_36 rfl rfl rfl ?_
                    refine v_sipush hC dX4_held_56 (by decide) ?_
                    refine w_il2 hC dX4_held_59 ?_
                    refine w_ic hC dX4_held_60 rfl ?_
                    refine w_iadd hC dX4_held_61 (ri_mk (by omega) (by omega)) ?_
                    refine w_imul hC dX4_held_62 (ri_mk (by omega) (by omega)) ?_
                    rw [show (256 : Int) * ((j : Int) + 1) = ((256 * (j + 1) : Nat) : Int) by omega]
                    refine w_il3 hC dX4_held_63 ?_
                    refine w_iadd hC dX4_held_64 (ri_mk (by omega) (by omega)) ?_
                    rw [show ((256 * (j + 1) : Nat) : Int) + (u : Int) = ((256 * (j + 1) + u : Nat) : Int) by omega]
                    refine w_ialdk hC 1792 (256 * (j + 1) + u) dX4_held_65 rfl rfl (by omega) (by omega) ?_
                    rw [ku5]
                    refine w_is4 hC dX4_held_66 hN (by first | rfl | assumption) ?_
                    refine w_ic hC dX4_held_68 rfl ?_
                    refine w_is5 hC dX4_held_69 hN (by first | rfl | assumption) ?_
                    refine w_dr6 ?_
                    refine w_dr7 ?_
                    have lp71 : ∀ (K3 : Nat) (mo : Int) (k : Nat), (n - k) < K3 → (k ≤ n) → (0 ≤ mo) → (mxR (hdC (fitF (w 40) (w 40 0)) m r u) (fun k => 1 + hdN (fitF (w 40) (w 40 0)) n m r (u ||| 2 ^ k)) (hdN (fitF (w 40) (w 40 0)) n m r u) k mo) → VV κ 71 [some (vR 39), some (vI (m : Int)), some (vI (j : Int)), some (vI (u : Int)), some (vI mo), some (vI (k : Int)), none, none] [] w4 := by
                      intro K3
                      induction K3 with
                      | zero => intros; omega
                      | succ K3 ih71 =>
                        intro mo k hm71 hk hmo hmx
                        refine w_il5 hC dX4_held_71 ?_
                        refine w_al0 hC dX4_held_73 ?_
                        refine v_getR (off := 1) (j := 40) hC dX4_held_74 fd_X4_7 rfl rfl rfl ?_
                        refine w_ic hC dX4_held_77 rfl ?_
                        refine w_ialdk hC 127 (3) dX4_held_78 rfl rfl (by omega) (by omega) ?_
                        rw [e40, h3]
                        refine v_ic_ge (tgt := 168) hC dX4_held_79 rfl (fun h79 => ?_) (fun h79 => ?_)
                        · have hmost : mo = hdN (fitF (w 40) (w 40 0)) n m (r + 1) u := by rw [show k = n by omega] at hmx; exact hmx _
                          refine w_al0 hC dX4_held_168 ?_
                          refine v_getR (off := 8) (j := 47) hC dX4_held_169 fd_X4_36 rfl rfl rfl ?_
                          refine v_sipush hC dX4_held_172 (by decide) ?_
                          refine w_il2 hC dX4_held_175 ?_
                          refine w_imul hC dX4_held_176 (ri_mk (by omega) (by omega)) ?_
                          rw [show (256 : Int) * (j : Int) = ((256 * j : Nat) : Int) by omega]
                          refine w_il3 hC dX4_held_177 ?_
                          refine w_iadd hC dX4_held_178 (ri_mk (by omega) (by omega)) ?_
                          rw [show ((256 * j : Nat) : Int) + (u : Int) = ((256 * j + u : Nat) : Int) by omega]
                          refine w_il4 hC dX4_held_179 ?_
                          refine w_iastk hC 1792 (256 * j + u) dX4_held_181 rfl rfl (by omega) (by omega) ?_
                          refine w_inc3 hC dX4_held_182 hN (by first | rfl | assumption) (ri_mk (by omega) (by omega)) ?_
                          refine v_goto (tgt := 45) hC dX4_held_185 rfl ?_
                          refine w_dr4 ?_
                          refine w_dr5 ?_
                          refine w_dr6 ?_
                          refine w_dr7 ?_
                          exact ih45 _ (u + 1) (by omega) (by omega) (lt_s (fun v hv => by rw [up_pl _ _ (by omega)]; exact k4 v hv) (by rw [up_same, hr]; exact hmost)) (fun q v q1 q2 q3 => by rw [up_pl _ _ (by omega)]; exact k5 q v q1 q2 q3) (fun i k p q => by rw [up_id _ _ q]; exact o4 i k p q)
                        · have hkn : k < n := by omega
                          have hob : u ||| 2 ^ k < 256 := Nat.or_lt_two_pow (n := 8) (by omega) (two_lt (by omega))
                          have kk5 := k5 (j + 1) (u ||| 2 ^ k) (Nat.le_refl _) (by omega) hob
                          rw [er] at kk5
                          have hr1 := hdN_r (F := fitF (w 40) (w 40 0)) (n := n) (m := m) r (u ||| 2 ^ k)
                          refine w_il3 hC dX4_held_82 ?_
                          refine w_il5 hC dX4_held_83 ?_
                          refine w_st2 hC st_X4_191 dX4_held_85 rfl hN (d_has (by omega) (by omega) (fun g5 => ?_) (fun g5 => ?_))
                          · refine v_if_ne (tgt := 111) hC dX4_held_88 rfl (fun _ => ?_) (fun h => absurd h (by decide))
                            refine w_ic hC dX4_held_111 rfl ?_
                            refine w_is6 hC dX4_held_112 hN (by first | rfl | assumption) ?_
                            refine w_il6 hC dX4_held_114 ?_
                            refine v_if_eq (tgt := 143) hC dX4_held_116 rfl (fun _ => ?_) (fun h => absurd h (by decide))
                            refine w_ic hC dX4_held_143 rfl ?_
                            refine w_is7 hC dX4_held_144 hN (by first | rfl | assumption) ?_
                            refine w_il7 hC dX4_held_146 ?_
                            refine w_il4 hC dX4_held_148 ?_
                            refine v_ic_le (tgt := 158) hC dX4_held_150 rfl (fun h150 => ?_) (fun h150 => ?_)
                            · refine w_il4 hC dX4_held_158 ?_
                              refine w_is4 hC dX4_held_160 hN (by first | rfl | assumption) ?_
                              refine w_inc5 hC dX4_held_162 hN (by first | rfl | assumption) (ri_mk (by omega) (by omega)) ?_
                              refine v_goto (tgt := 71) hC dX4_held_165 rfl ?_
                              refine w_dr6 ?_
                              refine w_dr7 ?_
                              first
                                | exact ih71 _ (k + 1) (by omega) (by omega) (by omega) (mxR_f hmx (hc_1 g5))
                                | exact ih71 _ (k + 1) (by omega) (by omega) (by omega) (mxR_f hmx (hc_2 ej g6))
                                | exact ih71 _ (k + 1) (by omega) (by omega) (by omega) (mxR_t2 hmx (hc_t ej g5 g6) rfl h150)
                                | exact ih71 _ (k + 1) (by omega) (by omega) (by omega) (mxR_t1 hmx (hc_t ej g5 g6) rfl (Int.not_le.mp h150))
                                | (exfalso; omega)
                            · refine w_il7 hC dX4_held_153 ?_
                              refine v_goto (tgt := 160) hC dX4_held_155 rfl ?_
                              refine w_is4 hC dX4_held_160 hN (by first | rfl | assumption) ?_
                              refine w_inc5 hC dX4_held_162 hN (by first | rfl | assumption) (ri_mk (by omega) (by omega)) ?_
                              refine v_goto (tgt := 71) hC dX4_held_165 rfl ?_
                              refine w_dr6 ?_
                              refine w_dr7 ?_
                              first
                                | exact ih71 _ (k + 1) (by omega) (by omega) (by omega) (mxR_f hmx (hc_1 g5))
                                | exact ih71 _ (k + 1) (by omega) (by omega) (by omega) (mxR_f hmx (hc_2 ej g6))
                                | exact ih71 _ (k + 1) (by omega) (by omega) (by omega) (mxR_t2 hmx (hc_t ej g5 g6) rfl h150)
                                | exact ih71 _ (k + 1) (by omega) (by omega) (by omega) (mxR_t1 hmx (hc_t ej g5 g6) rfl (Int.not_le.mp h150))
                                | (exfalso; omega)
                          · refine v_if_ne (tgt := 111) hC dX4_held_88 rfl (fun h => absurd h (by decide)) (fun _ => ?_)
                            refine w_al0 hC dX4_held_91 ?_
                            refine w_al0 hC dX4_held_92 ?_
                            refine v_getR (off := 1) (j := 40) hC dX4_held_93 fd_X4_7 rfl rfl rfl ?_
                            refine w_ic hC dX4_held_96 rfl ?_
                            refine w_ialdk hC 127 (0) dX4_held_97 rfl rfl (by omega) (by omega) ?_
                            rw [e40]
                            refine w_il5 hC dX4_held_98 ?_
                            refine w_il2 hC dX4_held_100 ?_
                            refine w_vi3 hC vi_X4_168 rfl dX4_held_101 rfl hN (d_isFit hA4 (by rw [e40]; exact ⟨by omega, by omega⟩) ⟨by omega, by omega⟩ (fun g6 => ?_) (fun g6 => ?_))
                            · rw [e40] at g6
                              refine v_if_eq (tgt := 111) hC dX4_held_104 rfl (fun h => absurd h (by decide)) (fun _ => ?_)
                              refine w_ic hC dX4_held_107 rfl ?_
                              refine v_goto (tgt := 112) hC dX4_held_108 rfl ?_
                              refine w_is6 hC dX4_held_112 hN (by first | rfl | assumption) ?_
                              refine w_il6 hC dX4_held_114 ?_
                              refine v_if_eq (tgt := 143) hC dX4_held_116 rfl (fun h => absurd h (by decide)) (fun _ => ?_)
                              refine w_ic hC dX4_held_119 rfl ?_
                              refine w_al0 hC dX4_held_120 ?_
                              refine v_getR (off := 8) (j := 47) hC dX4_held_121 fd_X4_36 rfl rfl rfl ?_
                              refine v_sipush hC dX4_held_124 (by decide) ?_
                              refine w_il2 hC dX4_held_127 ?_
                              refine w_ic hC dX4_held_128 rfl ?_
                              refine w_iadd hC dX4_held_129 (ri_mk (by omega) (by omega)) ?_
                              refine w_imul hC dX4_held_130 (ri_mk (by omega) (by omega)) ?_
                              rw [show (256 : Int) * ((j : Int) + 1) = ((256 * (j + 1) : Nat) : Int) by omega]
                              refine w_il3 hC dX4_held_131 ?_
                              refine w_ic hC dX4_held_132 rfl ?_
                              refine w_il5 hC dX4_held_133 ?_
                              refine v_ishl hC dX4_held_135 ?_
                              rw [bShl_1 (by omega)]
                              refine v_ior hC dX4_held_136 ?_
                              rw [bOr_n (by omega) (by have := two_lt (show k < 8 by omega); omega)]
                              refine w_iadd hC dX4_held_137 (ri_mk (by omega) (by omega)) ?_
                              rw [show ((256 * (j + 1) : Nat) : Int) + ((u ||| 2 ^ k : Nat) : Int) = ((256 * (j + 1) + (u ||| 2 ^ k) : Nat) : Int) by omega]
                              refine w_ialdk hC 1792 (256 * (j + 1) + (u ||| 2 ^ k)) dX4_held_138 rfl rfl (by omega) (by omega) ?_
                              rw [kk5]
                              refine w_iadd hC dX4_held_139 (ri_mk (by omega) (by omega)) ?_
                              refine v_goto (tgt := 144) hC dX4_held_140 rfl ?_
                              refine w_is7 hC dX4_held_144 hN (by first | rfl | assumption) ?_
                              refine w_il7 hC dX4_held_146 ?_
                              refine w_il4 hC dX4_held_148 ?_
                              refine v_ic_le (tgt := 158) hC dX4_held_150 rfl (fun h150 => ?_) (fun h150 => ?_)
                              · refine w_il4 hC dX4_held_158 ?_
                                refine w_is4 hC dX4_held_160 hN (by first | rfl | assumption) ?_
                                refine w_inc5 hC dX4_held_162 hN (by first | rfl | assumption) (ri_mk (by omega) (by omega)) ?_
                                refine v_goto (tgt := 71) hC dX4_held_165 rfl ?_
                                refine w_dr6 ?_
                                refine w_dr7 ?_
                                first
                                  | exact ih71 _ (k + 1) (by omega) (by omega) (by omega) (mxR_f hmx (hc_1 g5))
                                  | exact ih71 _ (k + 1) (by omega) (by omega) (by omega) (mxR_f hmx (hc_2 ej g6))
                                  | exact ih71 _ (k + 1) (by omega) (by omega) (by omega) (mxR_t2 hmx (hc_t ej g5 g6) rfl h150)
                                  | exact ih71 _ (k + 1) (by omega) (by omega) (by omega) (mxR_t1 hmx (hc_t ej g5 g6) rfl (Int.not_le.mp h150))
                                  | (exfalso; omega)
                              · refine w_il7 hC dX4_held_153 ?_
                                refine v_goto (tgt := 160) hC dX4_held_155 rfl ?_
                                refine w_is4 hC dX4_held_160 hN (by first | rfl | assumption) ?_
                                refine w_inc5 hC dX4_held_162 hN (by first | rfl | assumption) (ri_mk (by omega) (by omega)) ?_
                                refine v_goto (tgt := 71) hC dX4_held_165 rfl ?_
                                refine w_dr6 ?_
                                refine w_dr7 ?_
                                first
                                  | exact ih71 _ (k + 1) (by omega) (by omega) (by omega) (mxR_f hmx (hc_1 g5))
                                  | exact ih71 _ (k + 1) (by omega) (by omega) (by omega) (mxR_f hmx (hc_2 ej g6))
                                  | exact ih71 _ (k + 1) (by omega) (by omega) (by omega) (mxR_t2 hmx (hc_t ej g5 g6) rfl h150)
                                  | exact ih71 _ (k + 1) (by omega) (by omega) (by omega) (mxR_t1 hmx (hc_t ej g5 g6) rfl (Int.not_le.mp h150))
                                  | (exfalso; omega)
                            · rw [e40] at g6
                              refine v_if_eq (tgt := 111) hC dX4_held_104 rfl (fun _ => ?_) (fun h => absurd h (by decide))
                              refine w_ic hC dX4_held_111 rfl ?_
                              refine w_is6 hC dX4_held_112 hN (by first | rfl | assumption) ?_
                              refine w_il6 hC dX4_held_114 ?_
                              refine v_if_eq (tgt := 143) hC dX4_held_116 rfl (fun _ => ?_) (fun h => absurd h (by decide))
                              refine w_ic hC dX4_held_143 rfl ?_
                              refine w_is7 hC dX4_held_144 hN (by first | rfl | assumption) ?_
                              refine w_il7 hC dX4_held_146 ?_
                              refine w_il4 hC dX4_held_148 ?_
                              refine v_ic_le (tgt := 158) hC dX4_held_150 rfl (fun h150 => ?_) (fun h150 => ?_)
                              · refine w_il4 hC dX4_held_158 ?_
                                refine w_is4 hC dX4_held_160 hN (by first | rfl | assumption) ?_
                                refine w_inc5 hC dX4_held_162 hN (by first | rfl | assumption) (ri_mk (by omega) (by omega)) ?_
                                refine v_goto (tgt := 71) hC dX4_held_165 rfl ?_
                                refine w_dr6 ?_
                                refine w_dr7 ?_
                                first
                                  | exact ih71 _ (k + 1) (by omega) (by omega) (by omega) (mxR_f hmx (hc_1 g5))
                                  | exact ih71 _ (k + 1) (by omega) (by omega) (by omega) (mxR_f hmx (hc_2 ej g6))
                                  | exact ih71 _ (k + 1) (by omega) (by omega) (by omega) (mxR_t2 hmx (hc_t ej g5 g6) rfl h150)
                                  | exact ih71 _ (k + 1) (by omega) (by omega) (by omega) (mxR_t1 hmx (hc_t ej g5 g6) rfl (Int.not_le.mp h150))
                                  | (exfalso; omega)
                              · refine w_il7 hC dX4_held_153 ?_
                                refine v_goto (tgt := 160) hC dX4_held_155 rfl ?_
                                refine w_is4 hC dX4_held_160 hN (by first | rfl | assumption) ?_
                                refine w_inc5 hC dX4_held_162 hN (by first | rfl | assumption) (ri_mk (by omega) (by omega)) ?_
                                refine v_goto (tgt := 71) hC dX4_held_165 rfl ?_
                                refine w_dr6 ?_
                                refine w_dr7 ?_
                                first
                                  | exact ih71 _ (k + 1) (by omega) (by omega) (by omega) (mxR_f hmx (hc_1 g5))
                                  | exact ih71 _ (k + 1) (by omega) (by omega) (by omega) (mxR_f hmx (hc_2 ej g6))
                                  | exact ih71 _ (k + 1) (by omega) (by omega) (by omega) (mxR_t2 hmx (hc_t ej g5 g6) rfl h150)
                                  | exact ih71 _ (k + 1) (by omega) (by omega) (by omega) (mxR_t1 hmx (hc_t ej g5 g6) rfl (Int.not_le.mp h150))
                                  | (exfalso; omega)
                    exact lp71 (n + 1) _ 0 (by omega) (by omega) hr0.1 (mxR_0 _ _ _)
              exact lp45 257 w3 0 (by omega) (by omega) (fun v h => by omega) g3 o3
        exact lp39 (m + 1) w2 m (by omega) (by omega) (fun q v q1 q2 q3 => by
          have e : q = m := by omega
          subst e
          rw [Nat.sub_self]
          exact g1 v (by omega)) o2
      · refine w_al0 hC dX4_held_16 ?_
        refine v_getR (off := 8) (j := 47) hC dX4_held_17 fd_X4_36 rfl rfl rfl ?_
        refine v_sipush hC dX4_held_20 (by decide) ?_
        refine w_il1 hC dX4_held_23 ?_
        refine w_imul hC dX4_held_24 (ri_mk (by omega) (by omega)) ?_
        rw [show (256 : Int) * (m : Int) = ((256 * m : Nat) : Int) by omega]
        refine w_il2 hC dX4_held_25 ?_
        refine w_iadd hC dX4_held_26 (ri_mk (by omega) (by omega)) ?_
        refine w_ic hC dX4_held_27 rfl ?_
        refine w_iastk hC 1792 (256 * m + u) dX4_held_28 rfl rfl (by omega) (by omega) ?_
        refine w_inc2 hC dX4_held_29 hN (by first | rfl | assumption) (ri_mk (by omega) (by omega)) ?_
        refine v_goto (tgt := 9) hC dX4_held_32 rfl ?_
        refine w_dr3 ?_
        refine w_dr4 ?_
        refine w_dr5 ?_
        refine w_dr6 ?_
        refine w_dr7 ?_
        exact ih9 _ (u + 1) (by omega) (by omega) (lt_s (fun q hq => by rw [up_pl _ _ (by omega)]; exact g1 q hq) (up_same _ _ _ _)) (fun i k p q => by rw [up_id _ _ q]; exact o2 i k p q)
  exact lp9 257 w 0 (by omega) (by omega) (fun q h => by omega) (fun _ _ _ _ => rfl)

/-! rows of letters -/
theorem rb_r {L : Nat → Nat → Int} {n : Nat} (hL : ∀ k l, k < n → 0 ≤ L k l ∧ L k l ≤ 9) (r : Nat) : ∀ (l u : Nat) (row : Int) (rest : Nat), 0 ≤ row → row < 10 ^ l → rbN L n r l u row rest = -1 ∨ (0 ≤ rbN L n r l u row rest ∧ rbN L n r l u row rest < 10 ^ (l + r)) := by
  induction r with
  | zero => exact fun l u row rest h0 h1 => Or.inr ⟨h0, h1⟩
  | succ r ih =>
    intro l u row rest h0 h1
    by_cases z : n ≤ rest % 8 ∨ u.testBit (rest % 8) = true
    · exact Or.inl (if_pos z)
    · have e : rbN L n (r + 1) l u row rest = rbN L n r (l + 1) (u ||| 2 ^ (rest % 8)) (10 * row + L (rest % 8) l) (rest / 8) := if_neg z
      have hl := hL (rest % 8) l (by omega)
      rw [e, show l + (r + 1) = (l + 1) + r by omega]
      exact ih _ _ _ _ (by omega) (by rw [Int.pow_succ]; omega)

theorem d_rowBy {d : Nat} {w : Wd} {Q : Option MV → Wd → Prop} (hA : AOK (w 40)) {N c : Nat} (hN3 : N ≤ 3) (hc : c < 512) (hQ : Q (some (.inl (rbN (laF (w 40)) (w 40 3).toNat N 0 0 0 c))) w) : Call (d + 3) mX4_rowBy [vR 39, vI (N : Int), vI (c : Int)] w Q := by
  have am := hA.m
  have an := hA.n
  have af := hA.f
  have anc := hA.nc
  have amc := hA.mc
  have auc := hA.uc
  obtain ⟨n, h3⟩ := Int.eq_ofNat_of_zero_le an.1
  obtain ⟨m, h1⟩ := Int.eq_ofNat_of_zero_le (show 0 ≤ w 40 1 by omega)
  have e3 : (w 40 3).toNat = n := by omega
  have e1 : (w 40 1).toNat = m := by omega
  refine call_in (ls := [some (vR 39), some (vI (N : Int)), some (vI (c : Int)), none, none, none, none, none]) (by decide +kernel) rfl (Nat.le_of_ble_eq_true rfl) (fun κ hC hR hN => ?_)
  have hC : ctxB κ RX4 cX4_rowBy (d + 3) := hC
  have hN : mlx κ 8 := hN
  refine w_ic hC dX4_rowBy_0 rfl ?_
  refine w_is3 hC dX4_rowBy_1 hN (by first | rfl | assumption) ?_
  refine w_ic hC dX4_rowBy_2 rfl ?_
  refine w_is4 hC dX4_rowBy_3 hN (by first | rfl | assumption) ?_
  refine w_il2 hC dX4_rowBy_5 ?_
  refine w_is5 hC dX4_rowBy_6 hN (by first | rfl | assumption) ?_
  refine w_ic hC dX4_rowBy_8 rfl ?_
  refine w_is6 hC dX4_rowBy_9 hN (by first | rfl | assumption) ?_
  refine w_dr7 ?_
  have lp11 : ∀ (K : Nat) (u : Nat) (row : Int) (rest j : Nat), (N - j) < K → (j ≤ N) → (u < 256) → (0 ≤ row ∧ row < 10 ^ j) → (rest < 512) → (rbN (laF (w 40)) n (N - j) j u row rest = rbN (laF (w 40)) n N 0 0 0 c) → VV κ 11 [some (vR 39), some (vI (N : Int)), some (vI (c : Int)), some (vI (u : Int)), some (vI row), some (vI (rest : Int)), some (vI (j : Int)), none] [] w := by
    intro K
    induction K with
    | zero => intros; omega
    | succ K ih11 =>
      intro u row rest j hm11 hj hu hrow hrest hrb
      refine w_il6 hC dX4_rowBy_11 ?_
      refine w_il1 hC dX4_rowBy_13 ?_
      refine v_ic_ge (tgt := 88) hC dX4_rowBy_14 rfl (fun h14 => ?_) (fun h14 => ?_)
      · refine w_il4 hC dX4_rowBy_88 ?_
        refine v_iret hC hR dX4_rowBy_90 ?_
        rw [e3, ← hrb, show N - j = 0 by omega] at hQ
        exact hQ
      · have h10 : (10 : Int) ^ j ≤ 100 := by
          have : ∀ j, j ≤ 2 → (10 : Int) ^ j ≤ 100 := by decide
          exact this j (by omega)
        have hNj : N - j = (N - j - 1) + 1 := by omega
        refine w_il5 hC dX4_rowBy_17 ?_
        refine v_bipush hC dX4_rowBy_19 (by decide) ?_
        refine v_irem_n hC (by omega) (by omega) dX4_rowBy_21 ?_
        rw [show (rest : Int) % 8 = ((rest % 8 : Nat) : Int) by omega]
        refine w_is7 hC dX4_rowBy_22 hN (by first | rfl | assumption) ?_
        refine w_il5 hC dX4_rowBy_24 ?_
        refine v_bipush hC dX4_rowBy_26 (by decide) ?_
        refine v_idiv_n hC (by omega) (by omega) dX4_rowBy_28 ?_
        rw [show (rest : Int) / 8 = ((rest / 8 : Nat) : Int) by omega]
        refine w_is5 hC dX4_rowBy_29 hN (by first | rfl | assumption) ?_
        refine w_il7 hC dX4_rowBy_31 ?_
        refine w_al0 hC dX4_rowBy_33 ?_
        refine v_getR (off := 1) (j := 40) hC dX4_rowBy_34 fd_X4_7 rfl rfl rfl ?_
        refine w_ic hC dX4_rowBy_37 rfl ?_
        refine w_ialdk hC 127 (3) dX4_rowBy_38 rfl rfl (by omega) (by omega) ?_
        rw [h3]
        refine v_ic_ge (tgt := 51) hC dX4_rowBy_39 rfl (fun h39 => ?_) (fun h39 => ?_)
        · refine w_ic hC dX4_rowBy_51 rfl ?_
          refine v_iret hC hR dX4_rowBy_52 ?_
          rw [e3, ← hrb, hNj] at hQ
          first
          | (rw [rb_1 (by omega)] at hQ; exact hQ)
          | (rw [rb_2 g5] at hQ; exact hQ)
        · refine w_il3 hC dX4_rowBy_42 ?_
          refine w_il7 hC dX4_rowBy_43 ?_
          refine w_st2 hC st_X4_191 dX4_rowBy_45 rfl hN (d_has (by omega) (by omega) (fun g5 => ?_) (fun g5 => ?_))
          · refine v_if_eq (tgt := 53) hC dX4_rowBy_48 rfl (fun h => absurd h (by decide)) (fun _ => ?_)
            refine w_ic hC dX4_rowBy_51 rfl ?_
            refine v_iret hC hR dX4_rowBy_52 ?_
            rw [e3, ← hrb, hNj] at hQ
            first
            | (rw [rb_1 (by omega)] at hQ; exact hQ)
            | (rw [rb_2 g5] at hQ; exact hQ)
          · refine v_if_eq (tgt := 53) hC dX4_rowBy_48 rfl (fun _ => ?_) (fun h => absurd h (by decide))
            refine w_il3 hC dX4_rowBy_53 ?_
            refine w_ic hC dX4_rowBy_54 rfl ?_
            refine w_il7 hC dX4_rowBy_55 ?_
            refine v_ishl hC dX4_rowBy_57 ?_
            rw [bShl_1 (by omega)]
            refine v_ior hC dX4_rowBy_58 ?_
            rw [bOr_n (by omega) (by have := two_lt (show rest % 8 < 8 by omega); omega)]
            refine w_is3 hC dX4_rowBy_59 hN (by first | rfl | assumption) ?_
            refine v_bipush hC dX4_rowBy_60 (by decide) ?_
            refine w_il4 hC dX4_rowBy_62 ?_
            refine w_imul hC dX4_rowBy_64 (ri_mk (by omega) (by omega)) ?_
            refine w_al0 hC dX4_rowBy_65 ?_
            refine w_al0 hC dX4_rowBy_66 ?_
            refine v_getR (off := 1) (j := 40) hC dX4_rowBy_67 fd_X4_7 rfl rfl rfl ?_
            refine w_ic hC dX4_rowBy_70 rfl ?_
            refine w_ialdk hC 127 (0) dX4_rowBy_71 rfl rfl (by omega) (by omega) ?_
            refine w_il7 hC dX4_rowBy_72 ?_
            refine w_il6 hC dX4_rowBy_74 ?_
            refine w_vi3 hC vi_X4_162 rfl dX4_rowBy_76 rfl hN (d_counting hA ⟨by omega, by omega⟩ ⟨by omega, by omega⟩ ?_)
            have hlr := laF_r (l := j) hA h3 (show rest % 8 < n by omega)
            have hla : lBy (w 40) (w 40 0) ((rest % 8 : Nat) : Int) j = laF (w 40) (rest % 8) j := rfl
            rw [hla]
            refine w_iadd hC dX4_rowBy_79 (ri_mk (by omega) (by omega)) ?_
            refine w_is4 hC dX4_rowBy_80 hN (by first | rfl | assumption) ?_
            refine w_inc6 hC dX4_rowBy_82 hN (by first | rfl | assumption) (ri_mk (by omega) (by omega)) ?_
            refine v_goto (tgt := 11) hC dX4_rowBy_85 rfl ?_
            refine w_dr7 ?_
            exact ih11 _ _ _ (j + 1) (by omega) (by omega) (Nat.or_lt_two_pow (n := 8) (by omega) (two_lt (by omega))) (by rw [Int.pow_succ]; omega) (by omega) (by rw [← hrb, hNj, rb_3 (by omega) g5, show N - (j + 1) = N - j - 1 by omega])
  exact lp11 (N + 1) 0 0 c 0 (by omega) (by omega) (by decide) ⟨by decide, by decide⟩ hc rfl

def fr48 (w w2 : Wd) : Prop := ∀ i k : Nat, i ≠ 48 → w2 i k = w i k
def mk48 (w : Wd) (T : Nat → Prop) : Prop := ∀ q, q < 1000 → (w 48 q = 1 ∧ T q) ∨ (w 48 q = 0 ∧ ¬ T q)
theorem mk_up {w : Wd} {T R : Nat → Prop} {z : Nat} (h : mk48 w T) (e : ∀ q, R q ↔ T q ∨ q = z) : mk48 (up w 48 z 1) R := by
  intro q hq
  by_cases c : q = z
  · subst c
    exact Or.inl ⟨up_same _ _ _ _, (e q).mpr (Or.inr rfl)⟩
  · rw [up_pl _ _ c]
    rcases h q hq with ⟨h1, h2⟩ | ⟨h1, h2⟩
    · exact Or.inl ⟨h1, (e q).mpr (Or.inl h2)⟩
    · exact Or.inr ⟨h1, fun y => ((e q).mp y).elim h2 c⟩
theorem mk_eq {w : Wd} {T R : Nat → Prop} (h : mk48 w T) (e : ∀ q, q < 1000 → (R q ↔ T q)) : mk48 w R := by
  intro q hq
  rcases h q hq with ⟨h1, h2⟩ | ⟨h1, h2⟩
  · exact Or.inl ⟨h1, (e q hq).mpr h2⟩
  · exact Or.inr ⟨h1, fun y => h2 ((e q hq).mp y)⟩
def rbT (L : Nat → Nat → Int) (n N c : Nat) (q : Nat) : Prop := ∃ c2, c2 < c ∧ rbN L n N 0 0 0 c2 = (q : Int)
theorem rbT_s {L : Nat → Nat → Int} {n N c z : Nat} (h : rbN L n N 0 0 0 c = (z : Int)) (q : Nat) : rbT L n N (c + 1) q ↔ rbT L n N c q ∨ q = z := by
  constructor
  · rintro ⟨c2, h1, h2⟩
    by_cases e : c2 = c
    · subst e; right; omega
    · exact Or.inl ⟨c2, by omega, h2⟩
  · rintro (⟨c2, h1, h2⟩ | h1)
    · exact ⟨c2, by omega, h2⟩
    · exact ⟨c, by omega, by rw [h, h1]⟩
theorem rbT_n {L : Nat → Nat → Int} {n N c : Nat} (h : rbN L n N 0 0 0 c < 0) (q : Nat) : rbT L n N (c + 1) q ↔ rbT L n N c q := by
  constructor
  · rintro ⟨c2, h1, h2⟩
    by_cases e : c2 = c
    · subst e; omega
    · exact ⟨c2, by omega, h2⟩
  · rintro ⟨c2, h1, h2⟩
    exact ⟨c2, by omega, h2⟩
/-- the greatest so far -/
def grL (T : Nat → Prop) (k : Nat) (g : Int) : Prop := (∀ q, q < k → T q → (q : Int) ≤ g) ∧ (g = -1 ∨ ∃ q, q < k ∧ T q ∧ (q : Int) = g)
theorem grL_t {T : Nat → Prop} {k : Nat} {g : Int} (h : grL T k g) (ht : T k) : grL T (k + 1) (k : Int) := ⟨fun q hq _ => by omega, Or.inr ⟨k, by omega, ht, rfl⟩⟩
theorem grL_f {T : Nat → Prop} {k : Nat} {g : Int} (h : grL T k g) (ht : ¬ T k) : grL T (k + 1) g := ⟨fun q hq hz => by
  by_cases e : q = k
  · subst e; exact absurd hz ht
  · exact h.1 q (by omega) hz, h.2.elim Or.inl (fun ⟨q, h1, h2⟩ => Or.inr ⟨q, by omega, h2⟩)⟩
theorem cn_t {P : Nat → Prop} {n : Nat} {z : Int} (h : z = (cnP P n : Int)) (hp : P n) : z + 1 = (cnP P (n + 1) : Int) := by rw [cnP_t hp, h]; rfl
theorem cn_f {P : Nat → Prop} {n : Nat} {z : Int} (h : z = (cnP P n : Int)) (hp : ¬ P n) : z + 0 = (cnP P (n + 1) : Int) := by rw [cnP_f hp, h]; omega
theorem bz_t {T : Prop} {z : Int} (h : (z = 1 ∧ T) ∨ (z = 0 ∧ ¬ T)) (q : ¬ z = 0) : T := by rcases h with h | h; exact h.2; exact absurd h.1 q
theorem bz_f {T : Prop} {z : Int} (h : (z = 1 ∧ T) ∨ (z = 0 ∧ ¬ T)) (q : z = 0) : ¬ T := by rcases h with h | h; omega; exact h.2
theorem ro_all {a : Nat → Int} {n N : Nat} (hA : AOK a) (h3 : a 3 = n) (hn : n ≤ 8) (q : Nat) : roN (laF a) n N 0 0 0 q ↔ rbT (laF a) n N (8 ^ N) q := ro_rb2 hn (fun k l h => (laF_r hA h3 h).1) N 0 0 0 q (Int.le_refl 0) (Int.ofNat_nonneg q)

theorem d_rows {d : Nat} {w : Wd} {Q : Option MV → Wd → Prop} (hA : AOK (w 40)) {n1 x : Int} (hb0 : ¬ ((1 ≤ n1 ∧ n1 ≤ min 3 (w 40 1)) ∧ 0 ≤ x ∧ x ≤ 1) → Q (some (.inl (-2))) (cI w 44 0)) (hk0 : (1 ≤ n1 ∧ n1 ≤ min 3 (w 40 1)) ∧ 0 ≤ x ∧ x ≤ 1 → x = 0 → ∀ w2, fr48 w w2 → Q (some (.inl (cnP (fun q => roN (laF (w 40)) (w 40 3).toNat n1.toNat 0 0 0 q) 1000 : Int))) w2) (hk1 : (1 ≤ n1 ∧ n1 ≤ min 3 (w 40 1)) ∧ 0 ≤ x ∧ x ≤ 1 → x = 1 → ∀ z w2, grB (fun q => roN (laF (w 40)) (w 40 3).toNat n1.toNat 0 0 0 q) z → fr48 w w2 → Q (some (.inl z)) w2) : Call (d + 4) mX4_rows [vR 39, vI n1, vI x] w Q := by
  have am := hA.m
  have an := hA.n
  have af := hA.f
  have anc := hA.nc
  have amc := hA.mc
  have auc := hA.uc
  obtain ⟨n, h3⟩ := Int.eq_ofNat_of_zero_le an.1
  obtain ⟨m, h1⟩ := Int.eq_ofNat_of_zero_le (show 0 ≤ w 40 1 by omega)
  have e3 : (w 40 3).toNat = n := by omega
  have e1 : (w 40 1).toNat = m := by omega
  refine call_in (ls := [some (vR 39), some (vI n1), some (vI x), none, none, none]) (by decide +kernel) rfl (Nat.le_of_ble_eq_true rfl) (fun κ hC hR hN => ?_)
  have hC : ctxB κ RX4 cX4_rows (d + 4) := hC
  have hN : mlx κ 6 := hN
  refine w_il1 hC dX4_rows_0 ?_
  refine w_ic hC dX4_rows_1 rfl ?_
  refine w_ic hC dX4_rows_2 rfl ?_
  refine w_st3 hC st_X4_53 dX4_rows_3 rfl hN (d_in (fun g1 => ?_) (fun g1 => ?_))
  · refine v_if_eq (tgt := 28) hC dX4_rows_6 rfl (fun h => absurd h (by decide)) (fun _ => ?_)
    refine w_il1 hC dX4_rows_9 ?_
    refine w_al0 hC dX4_rows_10 ?_
    refine v_getR (off := 1) (j := 40) hC dX4_rows_11 fd_X4_7 rfl rfl rfl ?_
    refine w_ic hC dX4_rows_14 rfl ?_
    refine w_ialdk hC 127 (1) dX4_rows_15 rfl rfl (by omega) (by omega) ?_
    
    refine v_ic_gt (tgt := 28) hC dX4_rows_16 rfl (fun h16 => ?_) (fun h16 => ?_)
    · refine w_al0 hC dX4_rows_28 ?_
      refine w_vi0 hC vi_X4_60 rfl dX4_rows_29 rfl hN (d_bad ?_)
      refine v_iret hC hR dX4_rows_32 ?_
      exact hb0 (by omega)
    · refine w_il2 hC dX4_rows_19 ?_
      refine w_ic hC dX4_rows_20 rfl ?_
      refine w_ic hC dX4_rows_21 rfl ?_
      refine w_st3 hC st_X4_53 dX4_rows_22 rfl hN (d_in (fun g2 => ?_) (fun g2 => ?_))
      · refine v_if_ne (tgt := 33) hC dX4_rows_25 rfl (fun _ => ?_) (fun h => absurd h (by decide))
        have hCC : (1 ≤ n1 ∧ n1 ≤ min 3 (w 40 1)) ∧ 0 ≤ x ∧ x ≤ 1 := by omega
        obtain ⟨N, hN1⟩ := Int.eq_ofNat_of_zero_le (show 0 ≤ n1 by omega)
        subst hN1
        rw [show ((N : Nat) : Int).toNat = N from rfl, e3] at hk0 hk1
        refine w_ic hC dX4_rows_33 rfl ?_
        refine w_is3 hC dX4_rows_34 hN (by first | rfl | assumption) ?_
        refine w_dr4 ?_
        refine w_dr5 ?_
        have lp35 : ∀ (K : Nat) (w2 : Wd) (k : Nat), (1000 - k) < K → (k ≤ 1000) → (∀ q, q < k → w2 48 q = 0) → (fr48 w w2) → VV κ 35 [some (vR 39), some (vI (N : Int)), some (vI x), some (vI (k : Int)), none, none] [] w2 := by
          intro K
          induction K with
          | zero => intros; omega
          | succ K ih35 =>
            intro w2 k hm35 hk z2 o2
            refine w_il3 hC dX4_rows_35 ?_
            refine v_sipush hC dX4_rows_36 (by decide) ?_
            refine v_ic_ge (tgt := 55) hC dX4_rows_39 rfl (fun h39 => ?_) (fun h39 => ?_)
            · refine w_ic hC dX4_rows_55 rfl ?_
              refine w_is3 hC dX4_rows_56 hN (by first | rfl | assumption) ?_
              refine w_dr4 ?_
              refine w_dr5 ?_
              have lp57 : ∀ (K1 : Nat) (w3 : Wd) (c : Nat), (8 ^ N - c) < K1 → (c ≤ 8 ^ N) → (mk48 w3 (rbT (laF (w 40)) n N c)) → (fr48 w w3) → VV κ 57 [some (vR 39), some (vI (N : Int)), some (vI x), some (vI (c : Int)), none, none] [] w3 := by
                intro K1
                induction K1 with
                | zero => intros; omega
                | succ K1 ih57 =>
                  intro w3 c hm57 hc z3 o3
                  have e40 : w3 40 = w 40 := funext (fun q => o3 40 q (by decide))
                  have hA3 : AOK (w3 40) := by rw [e40]; exact hA
                  have h8N : 8 ^ N ≤ 512 := Nat.pow_le_pow_right (n := 8) (by decide) (show N ≤ 3 by omega)
                  refine w_il3 hC dX4_rows_57 ?_
                  refine w_ic hC dX4_rows_58 rfl ?_
                  refine w_ic hC dX4_rows_59 rfl ?_
                  refine w_il1 hC dX4_rows_60 ?_
                  refine w_imul hC dX4_rows_61 (ri_mk (by omega) (by omega)) ?_
                  rw [show (3 : Int) * (N : Int) = ((3 * N : Nat) : Int) by omega]
                  refine v_ishl hC dX4_rows_62 ?_
                  rw [bShl_1 (by omega), show 2 ^ (3 * N) = 8 ^ N by rw [Nat.pow_mul]]
                  refine v_ic_ge (tgt := 93) hC dX4_rows_63 rfl (fun h63 => ?_) (fun h63 => ?_)
                  · rw [show c = 8 ^ N by omega] at z3
                    refine w_ic hC dX4_rows_93 rfl ?_
                    refine w_is3 hC dX4_rows_94 hN (by first | rfl | assumption) ?_
                    refine w_ic hC dX4_rows_95 rfl ?_
                    refine w_is4 hC dX4_rows_96 hN (by first | rfl | assumption) ?_
                    refine w_ic hC dX4_rows_98 rfl ?_
                    refine w_is5 hC dX4_rows_99 hN (by first | rfl | assumption) ?_
                    have lp101 : ∀ (K2 : Nat) (mn g : Int) (k : Nat), (1000 - k) < K2 → (k ≤ 1000) → (mn = (cnP (rbT (laF (w 40)) n N (8 ^ N)) k : Int)) → (grL (rbT (laF (w 40)) n N (8 ^ N)) k g) → VV κ 101 [some (vR 39), some (vI (N : Int)), some (vI x), some (vI mn), some (vI g), some (vI (k : Int))] [] w3 := by
                      intro K2
                      induction K2 with
                      | zero => intros; omega
                      | succ K2 ih101 =>
                        intro mn g k hm101 hk hmn hg
                        have hcl := cnP_le (rbT (laF (w 40)) n N (8 ^ N)) k
                        refine w_il5 hC dX4_rows_101 ?_
                        refine v_sipush hC dX4_rows_103 (by decide) ?_
                        refine v_ic_ge (tgt := 152) hC dX4_rows_106 rfl (fun h106 => ?_) (fun h106 => ?_)
                        · refine w_il2 hC dX4_rows_152 ?_
                          refine v_if_ne (tgt := 160) hC dX4_rows_153 rfl (fun h153 => ?_) (fun h153 => ?_)
                          · refine w_il4 hC dX4_rows_160 ?_
                            refine v_iret hC hR dX4_rows_162 ?_
                            rw [show k = 1000 by omega] at hmn hg
                            have hro := ro_all (N := N) hA h3 (show n ≤ 8 by omega)
                            first
                            | (rw [hmn]
                               rw [← cnP_congr 1000 (fun q _ => hro q)]
                               exact hk0 hCC h153 w3 o3)
                            | (refine hk1 hCC (by omega) _ w3 ⟨fun q hq => ?_, ?_⟩ o3
                               · have hq1 := (hro q).mp hq
                                 obtain ⟨c2, c3, c4⟩ := hq1
                                 have hrr := rb_r (L := laF (w 40)) (n := n) (fun k l h => laF_r hA h3 h) N 0 0 0 c2 (Int.le_refl 0) (by decide)
                                 rw [Nat.zero_add] at hrr
                                 have h10 : (10 : Int) ^ N ≤ 1000 := by
                                   have : ∀ j, j ≤ 3 → (10 : Int) ^ j ≤ 1000 := by decide
                                   exact this N (by omega)
                                 exact hg.1 q (by omega) ((hro q).mp hq)
                               · rcases hg.2 with h | ⟨q, q1, q2, q3⟩
                                 · exact Or.inl h
                                 · exact Or.inr ⟨q, (hro q).mpr q2, q3⟩)
                          · refine w_il3 hC dX4_rows_156 ?_
                            refine v_goto (tgt := 162) hC dX4_rows_157 rfl ?_
                            refine v_iret hC hR dX4_rows_162 ?_
                            rw [show k = 1000 by omega] at hmn hg
                            have hro := ro_all (N := N) hA h3 (show n ≤ 8 by omega)
                            first
                            | (rw [hmn]
                               rw [← cnP_congr 1000 (fun q _ => hro q)]
                               exact hk0 hCC h153 w3 o3)
                            | (refine hk1 hCC (by omega) _ w3 ⟨fun q hq => ?_, ?_⟩ o3
                               · have hq1 := (hro q).mp hq
                                 obtain ⟨c2, c3, c4⟩ := hq1
                                 have hrr := rb_r (L := laF (w 40)) (n := n) (fun k l h => laF_r hA h3 h) N 0 0 0 c2 (Int.le_refl 0) (by decide)
                                 rw [Nat.zero_add] at hrr
                                 have h10 : (10 : Int) ^ N ≤ 1000 := by
                                   have : ∀ j, j ≤ 3 → (10 : Int) ^ j ≤ 1000 := by decide
                                   exact this N (by omega)
                                 exact hg.1 q (by omega) ((hro q).mp hq)
                               · rcases hg.2 with h | ⟨q, q1, q2, q3⟩
                                 · exact Or.inl h
                                 · exact Or.inr ⟨q, (hro q).mpr q2, q3⟩)
                        · refine w_il3 hC dX4_rows_109 ?_
                          refine w_al0 hC dX4_rows_110 ?_
                          refine v_getR (off := 9) (j := 48) hC dX4_rows_111 fd_X4_39 rfl rfl rfl ?_
                          refine w_il5 hC dX4_rows_114 ?_
                          refine w_zald hC 1000 dX4_rows_116 rfl rfl (by omega) (by omega) ?_
                          rw [show ((k : Nat) : Int).toNat = k from rfl]
                          refine v_if_eq (tgt := 124) hC dX4_rows_117 rfl (fun h117 => ?_) (fun h117 => ?_)
                          · refine w_ic hC dX4_rows_124 rfl ?_
                            refine w_iadd hC dX4_rows_125 (ri_mk (by omega) (by omega)) ?_
                            refine w_is3 hC dX4_rows_126 hN (by first | rfl | assumption) ?_
                            refine w_al0 hC dX4_rows_127 ?_
                            refine v_getR (off := 9) (j := 48) hC dX4_rows_128 fd_X4_39 rfl rfl rfl ?_
                            refine w_il5 hC dX4_rows_131 ?_
                            refine w_zald hC 1000 dX4_rows_133 rfl rfl (by omega) (by omega) ?_
                            rw [show ((k : Nat) : Int).toNat = k from rfl]
                            refine v_if_eq (tgt := 142) hC dX4_rows_134 rfl (fun h134 => ?_) (fun h134 => ?_)
                            · refine w_il4 hC dX4_rows_142 ?_
                              refine w_is4 hC dX4_rows_144 hN (by first | rfl | assumption) ?_
                              refine w_inc5 hC dX4_rows_146 hN (by first | rfl | assumption) (ri_mk (by omega) (by omega)) ?_
                              refine v_goto (tgt := 101) hC dX4_rows_149 rfl ?_
                              first
                                | exact ih101 _ _ (k + 1) (by omega) (by omega) (cn_f hmn (bz_f (z3 k (by omega)) h117)) (grL_f hg (bz_f (z3 k (by omega)) h117))
                                | exact ih101 _ _ (k + 1) (by omega) (by omega) (cn_t hmn (bz_t (z3 k (by omega)) h117)) (grL_t hg (bz_t (z3 k (by omega)) h117))
                                | (exfalso; omega)
                            · refine w_il5 hC dX4_rows_137 ?_
                              refine v_goto (tgt := 144) hC dX4_rows_139 rfl ?_
                              refine w_is4 hC dX4_rows_144 hN (by first | rfl | assumption) ?_
                              refine w_inc5 hC dX4_rows_146 hN (by first | rfl | assumption) (ri_mk (by omega) (by omega)) ?_
                              refine v_goto (tgt := 101) hC dX4_rows_149 rfl ?_
                              first
                                | exact ih101 _ _ (k + 1) (by omega) (by omega) (cn_f hmn (bz_f (z3 k (by omega)) h117)) (grL_f hg (bz_f (z3 k (by omega)) h117))
                                | exact ih101 _ _ (k + 1) (by omega) (by omega) (cn_t hmn (bz_t (z3 k (by omega)) h117)) (grL_t hg (bz_t (z3 k (by omega)) h117))
                                | (exfalso; omega)
                          · refine w_ic hC dX4_rows_120 rfl ?_
                            refine v_goto (tgt := 125) hC dX4_rows_121 rfl ?_
                            refine w_iadd hC dX4_rows_125 (ri_mk (by omega) (by omega)) ?_
                            refine w_is3 hC dX4_rows_126 hN (by first | rfl | assumption) ?_
                            refine w_al0 hC dX4_rows_127 ?_
                            refine v_getR (off := 9) (j := 48) hC dX4_rows_128 fd_X4_39 rfl rfl rfl ?_
                            refine w_il5 hC dX4_rows_131 ?_
                            refine w_zald hC 1000 dX4_rows_133 rfl rfl (by omega) (by omega) ?_
                            rw [show ((k : Nat) : Int).toNat = k from rfl]
                            refine v_if_eq (tgt := 142) hC dX4_rows_134 rfl (fun h134 => ?_) (fun h134 => ?_)
                            · refine w_il4 hC dX4_rows_142 ?_
                              refine w_is4 hC dX4_rows_144 hN (by first | rfl | assumption) ?_
                              refine w_inc5 hC dX4_rows_146 hN (by first | rfl | assumption) (ri_mk (by omega) (by omega)) ?_
                              refine v_goto (tgt := 101) hC dX4_rows_149 rfl ?_
                              first
                                | exact ih101 _ _ (k + 1) (by omega) (by omega) (cn_f hmn (bz_f (z3 k (by omega)) h117)) (grL_f hg (bz_f (z3 k (by omega)) h117))
                                | exact ih101 _ _ (k + 1) (by omega) (by omega) (cn_t hmn (bz_t (z3 k (by omega)) h117)) (grL_t hg (bz_t (z3 k (by omega)) h117))
                                | (exfalso; omega)
                            · refine w_il5 hC dX4_rows_137 ?_
                              refine v_goto (tgt := 144) hC dX4_rows_139 rfl ?_
                              refine w_is4 hC dX4_rows_144 hN (by first | rfl | assumption) ?_
                              refine w_inc5 hC dX4_rows_146 hN (by first | rfl | assumption) (ri_mk (by omega) (by omega)) ?_
                              refine v_goto (tgt := 101) hC dX4_rows_149 rfl ?_
                              first
                                | exact ih101 _ _ (k + 1) (by omega) (by omega) (cn_f hmn (bz_f (z3 k (by omega)) h117)) (grL_f hg (bz_f (z3 k (by omega)) h117))
                                | exact ih101 _ _ (k + 1) (by omega) (by omega) (cn_t hmn (bz_t (z3 k (by omega)) h117)) (grL_t hg (bz_t (z3 k (by omega)) h117))
                                | (exfalso; omega)
                    exact lp101 1001 0 (-1) 0 (by omega) (by omega) rfl ⟨fun q h => by omega, Or.inl rfl⟩
                  · refine w_al0 hC dX4_rows_66 ?_
                    refine w_il1 hC dX4_rows_67 ?_
                    refine w_il3 hC dX4_rows_68 ?_
                    refine w_vi2 hC vi_X4_209 rfl dX4_rows_69 rfl hN (d_rowBy hA3 (N := N) (c := c) (by omega) (by omega) ?_)
                    rw [e40, e3]
                    have hrr := rb_r (L := laF (w 40)) (n := n) (fun k l h => laF_r hA h3 h) N 0 0 0 c (Int.le_refl 0) (by decide)
                    rw [Nat.zero_add] at hrr
                    have h10 : (10 : Int) ^ N ≤ 1000 := by
                      have : ∀ j, j ≤ 3 → (10 : Int) ^ j ≤ 1000 := by decide
                      exact this N (by omega)
                    refine w_is4 hC dX4_rows_72 hN (by first | rfl | assumption) ?_
                    refine w_il4 hC dX4_rows_74 ?_
                    refine v_if_lt (tgt := 87) hC dX4_rows_76 rfl (fun h76 => ?_) (fun h76 => ?_)
                    · refine w_inc3 hC dX4_rows_87 hN (by first | rfl | assumption) (ri_mk (by omega) (by omega)) ?_
                      refine v_goto (tgt := 57) hC dX4_rows_90 rfl ?_
                      refine w_dr4 ?_
                      refine w_dr5 ?_
                      first
                        | exact ih57 _ (c + 1) (by omega) (by omega) (mk_eq z3 (fun q _ => rbT_n h76 q)) o3
                        | exact ih57 _ (c + 1) (by omega) (by omega) (mk_up z3 (rbT_s hz)) (fun i k q => by rw [up_id _ _ q]; exact o3 i k q)
                    · obtain ⟨z, hz⟩ := Int.eq_ofNat_of_zero_le (show 0 ≤ rbN (laF (w 40)) n N 0 0 0 c by omega)
                      rw [hz]
                      rw [hz] at hrr
                      refine w_al0 hC dX4_rows_79 ?_
                      refine v_getR (off := 9) (j := 48) hC dX4_rows_80 fd_X4_39 rfl rfl rfl ?_
                      refine w_il4 hC dX4_rows_83 ?_
                      refine w_ic hC dX4_rows_85 rfl ?_
                      refine w_zast hC 1000 dX4_rows_86 rfl rfl (by omega) (by omega) (by first | decide | omega) ?_
                      rw [show ((z : Nat) : Int).toNat = z from rfl]
                      refine w_inc3 hC dX4_rows_87 hN (by first | rfl | assumption) (ri_mk (by omega) (by omega)) ?_
                      refine v_goto (tgt := 57) hC dX4_rows_90 rfl ?_
                      refine w_dr4 ?_
                      refine w_dr5 ?_
                      first
                        | exact ih57 _ (c + 1) (by omega) (by omega) (mk_eq z3 (fun q _ => rbT_n h76 q)) o3
                        | exact ih57 _ (c + 1) (by omega) (by omega) (mk_up z3 (rbT_s hz)) (fun i k q => by rw [up_id _ _ q]; exact o3 i k q)
              exact lp57 (8 ^ N + 1) w2 0 (Nat.lt_succ_of_le (Nat.sub_le _ _)) (Nat.zero_le _) (fun q hq => Or.inr ⟨z2 q (by omega), fun ⟨c2, h, _⟩ => by omega⟩) o2
            · refine w_al0 hC dX4_rows_42 ?_
              refine v_getR (off := 9) (j := 48) hC dX4_rows_43 fd_X4_39 rfl rfl rfl ?_
              refine w_il3 hC dX4_rows_46 ?_
              refine w_ic hC dX4_rows_47 rfl ?_
              refine w_zast hC 1000 dX4_rows_48 rfl rfl (by omega) (by omega) (by first | decide | omega) ?_
              rw [show ((k : Nat) : Int).toNat = k from rfl]
              refine w_inc3 hC dX4_rows_49 hN (by first | rfl | assumption) (ri_mk (by omega) (by omega)) ?_
              refine v_goto (tgt := 35) hC dX4_rows_52 rfl ?_
              refine w_dr4 ?_
              refine w_dr5 ?_
              exact ih35 _ (k + 1) (by omega) (by omega) (lt_s (fun q hq => by rw [up_pl _ _ (by omega)]; exact z2 q hq) (up_same _ _ _ _)) (fun i k q => by rw [up_id _ _ q]; exact o2 i k q)
        exact lp35 1001 w 0 (by omega) (by omega) (fun q h => by omega) (fun _ _ _ => rfl)
      · refine v_if_ne (tgt := 33) hC dX4_rows_25 rfl (fun h => absurd h (by decide)) (fun _ => ?_)
        refine w_al0 hC dX4_rows_28 ?_
        refine w_vi0 hC vi_X4_60 rfl dX4_rows_29 rfl hN (d_bad ?_)
        refine v_iret hC hR dX4_rows_32 ?_
        exact hb0 (by omega)
  · refine v_if_eq (tgt := 28) hC dX4_rows_6 rfl (fun _ => ?_) (fun h => absurd h (by decide))
    refine w_al0 hC dX4_rows_28 ?_
    refine w_vi0 hC vi_X4_60 rfl dX4_rows_29 rfl hN (d_bad ?_)
    refine v_iret hC hR dX4_rows_32 ?_
    exact hb0 (by omega)

/-! luck -/
theorem roW_pos {n : Int} {m : Nat} (h : (m : Int) ≤ n) : 0 < roW n m := by
  induction m with
  | zero => exact (by decide : (0 : Int) < 1)
  | succ m ih =>
    show 0 < roW n m * max 0 (n - m)
    exact Int.mul_pos (ih (by omega)) (by omega)

theorem d_luck {d : Nat} {w : Wd} {Q : Option MV → Wd → Prop} (hA : AOK (w 40)) (hk : ∀ w1 w2 : Wd, frW w w1 → (wyA (w 40) (fitF (w 40) (w 40 0)) = 0 → w2 = up (up w1 39 5 0) 39 6 1) → (0 < wyA (w 40) (fitF (w 40) (w 40 0)) → w2 = up (up w1 39 5 (((wyA (w 40) (fitF (w 40) (w 40 0))).toNat / Nat.gcd (wyA (w 40) (fitF (w 40) (w 40 0))).toNat (roW (w 40 3) (w 40 1).toNat).toNat : Nat) : Int)) 39 6 (((roW (w 40 3) (w 40 1).toNat).toNat / Nat.gcd (wyA (w 40) (fitF (w 40) (w 40 0))).toNat (roW (w 40 3) (w 40 1).toNat).toNat : Nat) : Int)) → Q (some (.inl 1)) w2) : Call (d + 6) mX4_luck [vR 39] w Q := by
  have am := hA.m
  have an := hA.n
  have af := hA.f
  have anc := hA.nc
  have amc := hA.mc
  have auc := hA.uc
  obtain ⟨n, h3⟩ := Int.eq_ofNat_of_zero_le an.1
  obtain ⟨m, h1⟩ := Int.eq_ofNat_of_zero_le (show 0 ≤ w 40 1 by omega)
  have e3 : (w 40 3).toNat = n := by omega
  have e1 : (w 40 1).toNat = m := by omega
  refine call_in (ls := [some (vR 39), none, none, none, none]) (by decide +kernel) rfl (Nat.le_of_ble_eq_true rfl) (fun κ hC hR hN => ?_)
  have hC : ctxB κ RX4 cX4_luck (d + 6) := hC
  have hN : mlx κ 5 := hN
  refine w_al0 hC dX4_luck_0 ?_
  refine v_getR (off := 1) (j := 40) hC dX4_luck_1 fd_X4_7 rfl rfl rfl ?_
  refine w_ic hC dX4_luck_4 rfl ?_
  refine w_ialdk hC 127 (1) dX4_luck_5 rfl rfl (by omega) (by omega) ?_
  rw [h1]
  refine w_is1 hC dX4_luck_6 hN (by first | rfl | assumption) ?_
  refine w_al0 hC dX4_luck_7 ?_
  refine v_getR (off := 1) (j := 40) hC dX4_luck_8 fd_X4_7 rfl rfl rfl ?_
  refine w_ic hC dX4_luck_11 rfl ?_
  refine w_ialdk hC 127 (3) dX4_luck_12 rfl rfl (by omega) (by omega) ?_
  rw [h3]
  refine w_il1 hC dX4_luck_13 ?_
  refine v_ic_ge (tgt := 24) hC dX4_luck_14 rfl (fun h14 => ?_) (fun h14 => ?_)
  · refine v_lconst (z := 1) hC dX4_luck_24 rfl ?_
    refine w_ls2 hC dX4_luck_25 hN (by first | rfl | assumption) ?_
    refine w_ic hC dX4_luck_26 rfl ?_
    refine w_is4 hC dX4_luck_27 hN (by first | rfl | assumption) ?_
    refine w_dr3 ?_
    have lp29 : ∀ (K : Nat) (k : Nat), (m - k) < K → (k ≤ m) → VV κ 29 [some (vR 39), some (vI (m : Int)), some (vL (roW n k)), none, some (vI (k : Int))] [] w := by
      intro K
      induction K with
      | zero => intros; omega
      | succ K ih29 =>
        intro k hm29 hk2
        have hro := roW_r (n := n) (by omega) k (by omega)
        have he := e8_le (j := k) (by omega)
        refine w_il4 hC dX4_luck_29 ?_
        refine w_il1 hC dX4_luck_31 ?_
        refine v_ic_ge (tgt := 54) hC dX4_luck_32 rfl (fun h32 => ?_) (fun h32 => ?_)
        · refine w_al0 hC dX4_luck_54 ?_
          refine w_al0 hC dX4_luck_55 ?_
          refine v_getR (off := 1) (j := 40) hC dX4_luck_56 fd_X4_7 rfl rfl rfl ?_
          refine w_ic hC dX4_luck_59 rfl ?_
          refine w_ialdk hC 127 (0) dX4_luck_60 rfl rfl (by omega) (by omega) ?_
          refine w_ic hC dX4_luck_61 rfl ?_
          refine w_vi2 hC vi_X4_198 rfl dX4_luck_62 rfl hN (d_layWays hA (fun w2 t2 o2 => ?_))
          rw [wfF_0] at t2
          have a2 := wyT_at t2 (u := 0) (by decide)
          have hwyA : wyA (w 40) (fitF (w 40) (w 40 0)) = wyN (fitF (w 40) (w 40 0)) (w 40 3).toNat (w 40 1).toNat (w 40 1).toNat 0 := rfl
          rw [← hwyA] at a2
          have hwr := wyA_r hA (fitF (w 40) (w 40 0))
          have hpos := roW_pos (n := n) (m := m) (by omega)
          rw [show k = m by omega] at hro he ⊢
          obtain ⟨xx, hxx⟩ := Int.eq_ofNat_of_zero_le hwr.1
          obtain ⟨yy, hyy⟩ := Int.eq_ofNat_of_zero_le hro.1
          rw [h3, e1, hxx, hyy] at hk
          rw [show ((xx : Nat) : Int).toNat = xx from rfl, show ((yy : Nat) : Int).toNat = yy from rfl] at hk
          refine w_al0 hC dX4_luck_65 ?_
          refine w_al0 hC dX4_luck_66 ?_
          refine v_getR (off := 7) (j := 46) hC dX4_luck_67 fd_X4_33 rfl rfl rfl ?_
          refine w_ic hC dX4_luck_70 rfl ?_
          refine w_ialdk hC 1792 (0) dX4_luck_71 rfl rfl (by omega) (by omega) ?_
          rw [a2.1, hxx]
          refine v_i2l hC dX4_luck_72 ?_
          refine w_ll2 hC dX4_luck_73 ?_
          rw [hyy]
          refine w_vi2 hC vi_X4_237 rfl dX4_luck_74 rfl hN (d_tells (x := xx) (y := yy) (by omega) (by omega) (Nat.gcd_pos_of_pos_right xx (by omega)) ?_)
          refine v_iret hC hR dX4_luck_77 ?_
          exact hk w2 _ o2 (fun z => by rw [show xx = 0 by omega, Nat.gcd_zero_left, Nat.zero_div, Nat.div_self (by omega)]; rfl) (fun _ => rfl)
        · refine w_ll2 hC dX4_luck_35 ?_
          refine w_al0 hC dX4_luck_36 ?_
          refine v_getR (off := 1) (j := 40) hC dX4_luck_37 fd_X4_7 rfl rfl rfl ?_
          refine w_ic hC dX4_luck_40 rfl ?_
          refine w_ialdk hC 127 (3) dX4_luck_41 rfl rfl (by omega) (by omega) ?_
          rw [h3]
          refine w_il4 hC dX4_luck_42 ?_
          refine w_isub hC dX4_luck_44 (ri_mk (by omega) (by omega)) ?_
          refine v_i2l hC dX4_luck_45 ?_
          have hro2 := roW_r (n := n) (by omega) (k + 1) (by omega)
          have he2 := e8_le (j := k + 1) (by omega)
          have hroe : roW n k * ((n : Int) - (k : Int)) = roW n (k + 1) := by show _ = roW n k * max 0 ((n : Int) - k); rw [show max 0 ((n : Int) - (k : Int)) = (n : Int) - k by omega]
          refine w_lmul hC dX4_luck_46 (by rw [hroe]; exact ri_mkL (by omega) (by omega)) ?_
          rw [hroe]
          refine w_ls2 hC dX4_luck_47 hN (by first | rfl | assumption) ?_
          refine w_inc4 hC dX4_luck_48 hN (by first | rfl | assumption) (ri_mk (by omega) (by omega)) ?_
          refine v_goto (tgt := 29) hC dX4_luck_51 rfl ?_
          refine w_dr3 ?_
          exact ih29 (k + 1) (by omega) (by omega)
    exact lp29 (m + 1) 0 (by omega) (by omega)
  · refine w_al0 hC dX4_luck_17 ?_
    refine v_lconst (z := 0) hC dX4_luck_18 rfl ?_
    refine v_lconst (z := 1) hC dX4_luck_19 rfl ?_
    refine w_vi2 hC vi_X4_237 rfl dX4_luck_20 rfl hN (d_tells (x := 0) (y := 1) (by decide) (by decide) (by decide) ?_)
    refine v_iret hC hR dX4_luck_23 ?_
    exact hk w _ (fun _ _ _ _ => rfl) (fun _ => rfl) (fun z => absurd z (by have : wyA (w 40) (fitF (w 40) (w 40 0)) = 0 := by { unfold wyA; rw [e3, e1]; exact wy_few (by omega) m 0 (Nat.pow_pos (by decide)) (by rw [show pcN 0 = 0 from rfl]; omega) }; omega))
