/-! ways of the model -/
def wfF (a : Nat → Int) (f st : Int) (m : Nat) : Nat → Nat → Bool := if st = 0 then fitF a f else stM (fitF a f) (fun j => a (28 + j)) m
theorem wf_0 {a : Nat → Int} {f st : Int} {m k j : Nat} (h : st = 0) : wfF a f st m k j = true ↔ fitB a f k j := by
  unfold wfF
  rw [if_pos h]
  exact fitF_iff
theorem wf_1 {a : Nat → Int} {f st : Int} {m k j : Nat} (h : ¬ st = 0) (e : a (28 + j) = -1) : wfF a f st m k j = true ↔ fitB a f k j ∧ ∀ i, i < m → a (28 + i) ≠ (k : Int) := by
  unfold wfF stM
  rw [if_neg h]
  dsimp only
  rw [if_pos e, Bool.and_eq_true, fitF_iff, decide_eq_true_iff]
theorem wf_2 {a : Nat → Int} {f st : Int} {m k j : Nat} (h : ¬ st = 0) (e : ¬ a (28 + j) = -1) : wfF a f st m k j = true ↔ fitB a f k j ∧ a (28 + j) = (k : Int) := by
  unfold wfF stM
  rw [if_neg h]
  dsimp only
  rw [if_neg e, Bool.and_eq_true, fitF_iff, decide_eq_true_iff]
theorem ln_none {a : Nat → Int} {m : Nat} (hm : a 1 = m) {wd : Int} : lnOf a wd = -1 ↔ ∀ i, i < m → a (28 + i) ≠ wd := by
  rcases fstI_spec (fun j => wOn a j = wd) (a 1).toNat with ⟨h1, h2⟩ | ⟨j, h1, h2, h3, -⟩
  · refine ⟨fun _ i hi e => h2 i (by omega) (by show wOn a i = wd; rw [wOn_n (by omega)]; exact e), fun _ => h1⟩
  · refine ⟨fun q => ?_, fun q => absurd (by rw [← wOn_n (a := a) (j := j) (by omega)]; exact h3) (q j (by omega))⟩
    unfold lnOf at q
    omega

theorem bn_f {b : Bool} (h : ¬ b = true) : b = false := by
  cases b with
  | false => rfl
  | true => exact absurd rfl h

theorem d_isWay {d : Nat} {w : Wd} {Q : Option MV → Wd → Prop} (hA : AOK (w 40)) {f st : Int} {m k j : Nat} (hm : w 40 1 = m) (hk : (k : Int) < w 40 3) (hj : j < m) (ht : wfF (w 40) f st m k j = true → Q (some (.inl 1)) w) (hf : wfF (w 40) f st m k j = false → Q (some (.inl 0)) w) : Call (d + 4) mX4_isWay [vR 39, vI f, vI st, vI (k : Int), vI (j : Int)] w Q := by
  have am := hA.m
  have an := hA.n
  have af := hA.f
  have anc := hA.nc
  have amc := hA.mc
  have auc := hA.uc
  refine call_in (ls := [some (vR 39), some (vI f), some (vI st), some (vI (k : Int)), some (vI (j : Int)), none]) (by decide +kernel) rfl (Nat.le_of_ble_eq_true rfl) (fun κ hC hR hN => ?_)
  have hC : ctxB κ RX4 cX4_isWay (d + 4) := hC
  have hN : mlx κ 6 := hN
  refine w_il2 hC dX4_isWay_0 ?_
  have tl47 : (fitB (w 40) f k j ↔ wfF (w 40) f st m k j = true) → VV κ 47 [some (vR 39), some (vI f), some (vI st), some (vI (k : Int)), some (vI (j : Int)), none] [] w := by
    intro  hst
    refine w_ic hC dX4_isWay_47 rfl ?_
    refine v_goto (tgt := 52) hC dX4_isWay_48 rfl ?_
    refine w_is5 hC dX4_isWay_52 hN (by first | rfl | assumption) ?_
    refine w_il5 hC dX4_isWay_54 ?_
    refine v_if_eq (tgt := 74) hC dX4_isWay_56 rfl (fun h => absurd h (by decide)) (fun _ => ?_)
    refine w_al0 hC dX4_isWay_59 ?_
    refine w_il1 hC dX4_isWay_60 ?_
    refine w_il3 hC dX4_isWay_61 ?_
    refine w_il4 hC dX4_isWay_62 ?_
    refine w_vi3 hC vi_X4_168 rfl dX4_isWay_64 rfl hN (d_isFit hA ⟨by omega, by omega⟩ ⟨by omega, by omega⟩ (fun g1 => ?_) (fun g1 => ?_))
    · refine v_if_eq (tgt := 74) hC dX4_isWay_67 rfl (fun h => absurd h (by decide)) (fun _ => ?_)
      refine w_ic hC dX4_isWay_70 rfl ?_
      refine v_goto (tgt := 75) hC dX4_isWay_71 rfl ?_
      refine v_zret hC hR dX4_isWay_75 (by first | decide | omega) ?_
      first | exact hf hst | exact ht (hst.mp g1) | exact hf (bn_f (fun z => g1 (hst.mpr z)))
    · refine v_if_eq (tgt := 74) hC dX4_isWay_67 rfl (fun _ => ?_) (fun h => absurd h (by decide))
      refine w_ic hC dX4_isWay_74 rfl ?_
      refine v_zret hC hR dX4_isWay_75 (by first | decide | omega) ?_
      first | exact hf hst | exact ht (hst.mp g1) | exact hf (bn_f (fun z => g1 (hst.mpr z)))
  have tl51 : (wfF (w 40) f st m k j = false) → VV κ 51 [some (vR 39), some (vI f), some (vI st), some (vI (k : Int)), some (vI (j : Int)), none] [] w := by
    intro  hst
    refine w_ic hC dX4_isWay_51 rfl ?_
    refine w_is5 hC dX4_isWay_52 hN (by first | rfl | assumption) ?_
    refine w_il5 hC dX4_isWay_54 ?_
    refine v_if_eq (tgt := 74) hC dX4_isWay_56 rfl (fun _ => ?_) (fun h => absurd h (by decide))
    refine w_ic hC dX4_isWay_74 rfl ?_
    refine v_zret hC hR dX4_isWay_75 (by first | decide | omega) ?_
    first | exact hf hst | exact ht (hst.mp g1) | exact hf (bn_f (fun z => g1 (hst.mpr z)))
  refine v_if_eq (tgt := 47) hC dX4_isWay_1 rfl (fun h1 => ?_) (fun h1 => ?_)
  · first | exact tl47 (wf_0 h1).symm | exact tl47 ⟨fun z => (wf_1 h1 h15).mpr ⟨z, hln.mp h27⟩, fun z => ((wf_1 h1 h15).mp z).1⟩ | exact tl47 ⟨fun z => (wf_2 h1 h15).mpr ⟨z, h44⟩, fun z => ((wf_2 h1 h15).mp z).1⟩
  · refine w_al0 hC dX4_isWay_4 ?_
    refine v_getR (off := 1) (j := 40) hC dX4_isWay_5 fd_X4_7 rfl rfl rfl ?_
    refine v_bipush hC dX4_isWay_8 (by decide) ?_
    refine w_il4 hC dX4_isWay_10 ?_
    refine w_iadd hC dX4_isWay_12 (ri_mk (by omega) (by omega)) ?_
    refine w_ialdk hC 127 (28 + j) dX4_isWay_13 rfl rfl (by omega) (by omega) ?_
    refine w_ic hC dX4_isWay_14 rfl ?_
    refine v_ic_ne (tgt := 33) hC dX4_isWay_15 rfl (fun h15 => ?_) (fun h15 => ?_)
    · refine w_al0 hC dX4_isWay_33 ?_
      refine v_getR (off := 1) (j := 40) hC dX4_isWay_34 fd_X4_7 rfl rfl rfl ?_
      refine v_bipush hC dX4_isWay_37 (by decide) ?_
      refine w_il4 hC dX4_isWay_39 ?_
      refine w_iadd hC dX4_isWay_41 (ri_mk (by omega) (by omega)) ?_
      refine w_ialdk hC 127 (28 + j) dX4_isWay_42 rfl rfl (by omega) (by omega) ?_
      refine w_il3 hC dX4_isWay_43 ?_
      refine v_ic_ne (tgt := 51) hC dX4_isWay_44 rfl (fun h44 => ?_) (fun h44 => ?_)
      · first | exact tl51 (bn_f (fun z => h27 (hln.mpr ((wf_1 h1 h15).mp z).2))) | exact tl51 (bn_f (fun z => h44 ((wf_2 h1 h15).mp z).2))
      · first | exact tl47 (wf_0 h1).symm | exact tl47 ⟨fun z => (wf_1 h1 h15).mpr ⟨z, hln.mp h27⟩, fun z => ((wf_1 h1 h15).mp z).1⟩ | exact tl47 ⟨fun z => (wf_2 h1 h15).mpr ⟨z, h44⟩, fun z => ((wf_2 h1 h15).mp z).1⟩
    · refine w_al0 hC dX4_isWay_18 ?_
      refine v_getR (off := 1) (j := 40) hC dX4_isWay_19 fd_X4_7 rfl rfl rfl ?_
      refine w_il3 hC dX4_isWay_22 ?_
      refine w_st2 hC st_X4_114 dX4_isWay_23 rfl hN (d_lineOf rfl rfl am ?_)
      rw [lnL_eq hA (show 0 ≤ (k : Int) by omega)]
      have hln := ln_none hm (wd := (k : Int))
      refine w_ic hC dX4_isWay_26 rfl ?_
      refine v_ic_ne (tgt := 51) hC dX4_isWay_27 rfl (fun h27 => ?_) (fun h27 => ?_)
      · first | exact tl51 (bn_f (fun z => h27 (hln.mpr ((wf_1 h1 h15).mp z).2))) | exact tl51 (bn_f (fun z => h44 ((wf_2 h1 h15).mp z).2))
      · refine v_goto (tgt := 47) hC dX4_isWay_30 rfl ?_
        first | exact tl47 (wf_0 h1).symm | exact tl47 ⟨fun z => (wf_1 h1 h15).mpr ⟨z, hln.mp h27⟩, fun z => ((wf_1 h1 h15).mp z).1⟩ | exact tl47 ⟨fun z => (wf_2 h1 h15).mpr ⟨z, h44⟩, fun z => ((wf_2 h1 h15).mp z).1⟩

def wyT (w : Wd) (F : Nat → Nat → Bool) (C : Nat → Nat → Int) (n m j : Nat) : Prop := ∀ q u, j ≤ q → q ≤ m → u < 256 → w 46 (256 * q + u) = wyN F n m (m - q) u ∧ w 47 (256 * q + u) = cmN F C n m (m - q) u
def frW (w w2 : Wd) : Prop := ∀ i k : Nat, i ≠ 46 → i ≠ 47 → w2 i k = w i k
def cwF (F : Nat → Nat → Bool) (n m r : Nat) (u : Nat) : Nat → Int := fun k => if u.testBit k = false ∧ F k (m - (r + 1)) = true then wyN F n m r (u ||| 2 ^ k) else 0
theorem wyN_c (F : Nat → Nat → Bool) (n m r u : Nat) : wyN F n m (r + 1) u = sumN (cwF F n m r u) n := rfl
def cmC (F : Nat → Nat → Bool) (n m r : Nat) (u : Nat) : Nat → Prop := fun k => u.testBit k = false ∧ 0 < wyN F n m r (u ||| 2 ^ k) ∧ F k (m - (r + 1)) = true
theorem cw_t {F : Nat → Nat → Bool} {n m r u k : Nat} (h1 : u.testBit k = false) (h2 : F k (m - (r + 1)) = true) : cwF F n m r u k = wyN F n m r (u ||| 2 ^ k) := if_pos ⟨h1, h2⟩
theorem cw_f1 {F : Nat → Nat → Bool} {n m r u k : Nat} (h1 : u.testBit k = true) : cwF F n m r u k = 0 := if_neg (fun z => by rw [h1] at z; exact absurd z.1 (by decide))
theorem cw_f2 {F : Nat → Nat → Bool} {n m r u k : Nat} (h2 : F k (m - (r + 1)) = false) : cwF F n m r u k = 0 := if_neg (fun z => by rw [h2] at z; exact absurd z.2 (by decide))
theorem cw_f3 {F : Nat → Nat → Bool} {n m r u k : Nat} (h2 : wyN F n m r (u ||| 2 ^ k) = 0) : cwF F n m r u k = 0 := by
  unfold cwF
  split
  · exact h2
  · rfl
theorem cm_n1 {F : Nat → Nat → Bool} {n m r u k : Nat} (h1 : u.testBit k = true) : ¬ cmC F n m r u k := fun z => by
  have z1 := z.1
  rw [h1] at z1
  exact absurd z1 (by decide)
theorem cm_n2 {F : Nat → Nat → Bool} {n m r u k : Nat} (h2 : F k (m - (r + 1)) = false) : ¬ cmC F n m r u k := fun z => by
  have z1 := z.2.2
  rw [h2] at z1
  exact absurd z1 (by decide)
theorem cm_n3 {F : Nat → Nat → Bool} {n m r u k : Nat} (h2 : wyN F n m r (u ||| 2 ^ k) = 0) : ¬ cmC F n m r u k := fun z => by
  have z1 := z.2.1
  omega
/-- the least so far: the reference's comparison is a minimum -/
def mnR (c : Nat → Prop) (f : Nat → Int) (s : Int) (k : Nat) (z : Int) : Prop := ∀ inst : DecidablePred c, z = @mnB c inst f s k
theorem mnR_0 (c : Nat → Prop) (f : Nat → Int) (s : Int) : mnR c f s 0 s := fun _ => rfl
theorem mnR_t1 {c : Nat → Prop} {f : Nat → Int} {s z v : Int} {k : Nat} (h : mnR c f s k z) (hc : c k) (hv : f k = v) (hl : v < z) : mnR c f s (k + 1) v := by
  intro inst
  rw [← mnB_t (h inst) hc hv]
  omega
theorem mnR_t2 {c : Nat → Prop} {f : Nat → Int} {s z v : Int} {k : Nat} (h : mnR c f s k z) (hc : c k) (hv : f k = v) (hl : ¬ v < z) : mnR c f s (k + 1) z := by
  intro inst
  rw [← mnB_t (h inst) hc hv]
  omega
theorem mnR_f {c : Nat → Prop} {f : Nat → Int} {s z : Int} {k : Nat} (h : mnR c f s k z) (hc : ¬ c k) : mnR c f s (k + 1) z := by
  intro inst
  exact mnB_f (h inst) hc

theorem sumN_z {f : Nat → Int} {s : Int} {j : Nat} (hs : s = sumN f j) (hf : f j = 0) : s = sumN f (j + 1) := by
  rw [← sumN_s hs hf]
  omega

theorem d_layWays {d : Nat} {w : Wd} {Q : Option MV → Wd → Prop} (hA : AOK (w 40)) {f st : Int} (hQ : ∀ w2, wyT w2 (wfF (w 40) f st (w 40 1).toNat) (coF (w 40) 1) (w 40 3).toNat (w 40 1).toNat 0 → frW w w2 → Q none w2) : Call (d + 5) mX4_layWays [vR 39, vI f, vI st] w Q := by
  have am := hA.m
  have an := hA.n
  have af := hA.f
  have anc := hA.nc
  have amc := hA.mc
  have auc := hA.uc
  obtain ⟨n, h3⟩ := Int.eq_ofNat_of_zero_le an.1
  obtain ⟨m, h1⟩ := Int.eq_ofNat_of_zero_le (show 0 ≤ w 40 1 by omega)
  have e3 : (w 40 3).toNat = n := by omega
  have e1 : (w 40 1).toNat = m := by omega
  refine call_in (ls := [some (vR 39), some (vI f), some (vI st), none, none, none, none, none, none, none]) (by decide +kernel) rfl (Nat.le_of_ble_eq_true rfl) (fun κ hC hR hN => ?_)
  have hC : ctxB κ RX4 cX4_layWays (d + 5) := hC
  have hN : mlx κ 10 := hN
  refine w_al0 hC dX4_layWays_0 ?_
  refine v_getR (off := 1) (j := 40) hC dX4_layWays_1 fd_X4_7 rfl rfl rfl ?_
  refine w_ic hC dX4_layWays_4 rfl ?_
  refine w_ialdk hC 127 (1) dX4_layWays_5 rfl rfl (by omega) (by omega) ?_
  rw [h1]
  refine w_is3 hC dX4_layWays_6 hN (by first | rfl | assumption) ?_
  refine w_ic hC dX4_layWays_7 rfl ?_
  refine w_is4 hC dX4_layWays_8 hN (by first | rfl | assumption) ?_
  refine w_dr5 ?_
  refine w_dr6 ?_
  refine w_dr7 ?_
  refine w_dr8 ?_
  refine w_dr9 ?_
  have lp10 : ∀ (K : Nat) (w2 : Wd) (u : Nat), (256 - u) < K → (u ≤ 256) → (∀ q, q < u → w2 46 (256 * m + q) = 1 ∧ w2 47 (256 * m + q) = 0) → (frW w w2) → VV κ 10 [some (vR 39), some (vI f), some (vI st), some (vI (m : Int)), some (vI (u : Int)), none, none, none, none, none] [] w2 := by
    intro K
    induction K with
    | zero => intros; omega
    | succ K ih10 =>
      intro w2 u hm10 hu g1 o2
      refine w_il4 hC dX4_layWays_10 ?_
      refine v_sipush hC dX4_layWays_12 (by decide) ?_
      refine v_ic_ge (tgt := 52) hC dX4_layWays_15 rfl (fun h15 => ?_) (fun h15 => ?_)
      · refine w_il3 hC dX4_layWays_52 ?_
        refine w_ic hC dX4_layWays_53 rfl ?_
        refine w_isub hC dX4_layWays_54 (ri_mk (by omega) (by omega)) ?_
        refine w_is4 hC dX4_layWays_55 hN (by first | rfl | assumption) ?_
        refine w_dr5 ?_
        refine w_dr6 ?_
        refine w_dr7 ?_
        refine w_dr8 ?_
        refine w_dr9 ?_
        have lp57 : ∀ (K1 : Nat) (w3 : Wd) (t : Nat), t < K1 → (t ≤ m) → (wyT w3 (wfF (w 40) f st m) (coF (w 40) 1) n m t) → (frW w w3) → VV κ 57 [some (vR 39), some (vI f), some (vI st), some (vI (m : Int)), some (vI ((t : Int) - 1)), none, none, none, none, none] [] w3 := by
          intro K1
          induction K1 with
          | zero => intros; omega
          | succ K1 ih57 =>
            intro w3 t hm57 ht g3 o3
            refine w_il4 hC dX4_layWays_57 ?_
            refine v_if_lt (tgt := 252) hC dX4_layWays_59 rfl (fun h59 => ?_) (fun h59 => ?_)
            · refine v_vret hC hR dX4_layWays_252 ?_
              rw [e3, e1] at hQ
              exact hQ w3 (fun q u q1 q2 q3 => g3 q u (by omega) q2 q3) o3
            · obtain ⟨j, rfl⟩ : ∃ j, t = j + 1 := ⟨t - 1, by omega⟩
              rw [show (((j + 1 : Nat)) : Int) - 1 = (j : Int) by omega]
              obtain ⟨r, hr⟩ : ∃ r, m - j = r + 1 := ⟨m - j - 1, by omega⟩
              have er : m - (j + 1) = r := by omega
              have ej : m - (r + 1) = j := by omega
              refine w_ic hC dX4_layWays_62 rfl ?_
              refine w_is5 hC dX4_layWays_63 hN (by first | rfl | assumption) ?_
              refine w_dr6 ?_
              refine w_dr7 ?_
              refine w_dr8 ?_
              refine w_dr9 ?_
              have lp65 : ∀ (K2 : Nat) (w4 : Wd) (u : Nat), (256 - u) < K2 → (u ≤ 256) → (∀ v, v < u → w4 46 (256 * j + v) = wyN (wfF (w 40) f st m) n m (m - j) v ∧ w4 47 (256 * j + v) = cmN (wfF (w 40) f st m) (coF (w 40) 1) n m (m - j) v) → (wyT w4 (wfF (w 40) f st m) (coF (w 40) 1) n m (j + 1)) → (frW w w4) → VV κ 65 [some (vR 39), some (vI f), some (vI st), some (vI (m : Int)), some (vI (j : Int)), some (vI (u : Int)), none, none, none, none] [] w4 := by
                intro K2
                induction K2 with
                | zero => intros; omega
                | succ K2 ih65 =>
                  intro w4 u hm65 hu k4 k5 o4
                  have e40 : w4 40 = w 40 := funext (fun q => o4 40 q (by decide) (by decide))
                  have hA4 : AOK (w4 40) := by rw [e40]; exact hA
                  refine w_il5 hC dX4_layWays_65 ?_
                  refine v_sipush hC dX4_layWays_67 (by decide) ?_
                  refine v_ic_ge (tgt := 246) hC dX4_layWays_70 rfl (fun h70 => ?_) (fun h70 => ?_)
                  · refine w_inc4 hC dX4_layWays_246 hN (by first | rfl | assumption) (ri_mk (by omega) (by omega)) ?_
                    refine v_goto (tgt := 57) hC dX4_layWays_249 rfl ?_
                    refine w_dr5 ?_
                    refine w_dr6 ?_
                    refine w_dr7 ?_
                    refine w_dr8 ?_
                    refine w_dr9 ?_
                    exact ih57 _ j (by omega) (by omega) (fun q v q1 q2 q3 => by
                      by_cases z : q = j
                      · subst z; exact k4 v (by omega)
                      · exact k5 q v (by omega) q2 q3) o4
                  · refine w_ic hC dX4_layWays_73 rfl ?_
                    refine w_is6 hC dX4_layWays_74 hN (by first | rfl | assumption) ?_
                    refine v_sipush hC dX4_layWays_76 (by decide) ?_
                    refine w_is7 hC dX4_layWays_79 hN (by first | rfl | assumption) ?_
                    refine w_ic hC dX4_layWays_81 rfl ?_
                    refine w_is8 hC dX4_layWays_82 hN (by first | rfl | assumption) ?_
                    refine w_dr9 ?_
                    have lp84 : ∀ (K3 : Nat) (s le : Int) (k : Nat), (n - k) < K3 → (k ≤ n) → (s = sumN (cwF (wfF (w 40) f st m) n m r u) k) → (mnR (cmC (wfF (w 40) f st m) n m r u) (fun k => coF (w 40) 1 k (m - (r + 1)) + cmN (wfF (w 40) f st m) (coF (w 40) 1) n m r (u ||| 2 ^ k)) 9999 k le) → VV κ 84 [some (vR 39), some (vI f), some (vI st), some (vI (m : Int)), some (vI (j : Int)), some (vI (u : Int)), some (vI s), some (vI le), some (vI (k : Int)), none] [] w4 := by
                      intro K3
                      induction K3 with
                      | zero => intros; omega
                      | succ K3 ih84 =>
                        intro s le k hm84 hk hs hle
                        have hsr := sumN_r (f := cwF (wfF (w 40) f st m) n m r u) (c := 262144) k (fun i hi => by
                          have := wyN_q (F := wfF (w 40) f st m) (n := n) (m := m) (by omega) (show r ≤ 6 by omega) (u ||| 2 ^ i)
                          unfold cwF
                          split <;> omega)
                        refine w_il8 hC dX4_layWays_84 ?_
                        refine w_al0 hC dX4_layWays_86 ?_
                        refine v_getR (off := 1) (j := 40) hC dX4_layWays_87 fd_X4_7 rfl rfl rfl ?_
                        refine w_ic hC dX4_layWays_90 rfl ?_
                        refine w_ialdk hC 127 (3) dX4_layWays_91 rfl rfl (by omega) (by omega) ?_
                        rw [o4 40 3 (by decide) (by decide), h3]
                        refine v_ic_ge (tgt := 208) hC dX4_layWays_92 rfl (fun h92 => ?_) (fun h92 => ?_)
                        · have hsum : s = wyN (wfF (w 40) f st m) n m (r + 1) u := by rw [wyN_c, hs, show k = n by omega]
                          have hlea : le = cmN (wfF (w 40) f st m) (coF (w 40) 1) n m (r + 1) u := by rw [show k = n by omega] at hle; exact hle _
                          refine w_al0 hC dX4_layWays_208 ?_
                          refine v_getR (off := 7) (j := 46) hC dX4_layWays_209 fd_X4_33 rfl rfl rfl ?_
                          refine v_sipush hC dX4_layWays_212 (by decide) ?_
                          refine w_il4 hC dX4_layWays_215 ?_
                          refine w_imul hC dX4_layWays_217 (ri_mk (by omega) (by omega)) ?_
                          rw [show (256 : Int) * (j : Int) = ((256 * j : Nat) : Int) by omega]
                          refine w_il5 hC dX4_layWays_218 ?_
                          refine w_iadd hC dX4_layWays_220 (ri_mk (by omega) (by omega)) ?_
                          refine w_il6 hC dX4_layWays_221 ?_
                          refine w_iastk hC 1792 (256 * j + u) dX4_layWays_223 rfl rfl (by omega) (by omega) ?_
                          refine w_al0 hC dX4_layWays_224 ?_
                          refine v_getR (off := 8) (j := 47) hC dX4_layWays_225 fd_X4_36 rfl rfl rfl ?_
                          refine v_sipush hC dX4_layWays_228 (by decide) ?_
                          refine w_il4 hC dX4_layWays_231 ?_
                          refine w_imul hC dX4_layWays_233 (ri_mk (by omega) (by omega)) ?_
                          rw [show (256 : Int) * (j : Int) = ((256 * j : Nat) : Int) by omega]
                          refine w_il5 hC dX4_layWays_234 ?_
                          refine w_iadd hC dX4_layWays_236 (ri_mk (by omega) (by omega)) ?_
                          refine w_il7 hC dX4_layWays_237 ?_
                          refine w_iastk hC 1792 (256 * j + u) dX4_layWays_239 rfl rfl (by omega) (by omega) ?_
                          refine w_inc5 hC dX4_layWays_240 hN (by first | rfl | assumption) (ri_mk (by omega) (by omega)) ?_
                          refine v_goto (tgt := 65) hC dX4_layWays_243 rfl ?_
                          refine w_dr6 ?_
                          refine w_dr7 ?_
                          refine w_dr8 ?_
                          refine w_dr9 ?_
                          exact ih65 _ (u + 1) (by omega) (by omega) (lt_s (fun v hv => by rw [up_id _ _ (by decide), up_pl _ _ (by omega), up_pl _ _ (by omega)]; exact k4 v hv) (by rw [up_id _ _ (by decide), up_same, up_same, hr]; exact ⟨hsum, hlea⟩)) (fun q v q1 q2 q3 => by rw [up_id _ _ (by decide), up_pl _ _ (by omega), up_pl _ _ (by omega)]; exact k5 q v q1 q2 q3) (fun i k p q => by rw [up_id _ _ q, up_id _ _ p]; exact o4 i k p q)
                        · refine v_sipush hC dX4_layWays_95 (by decide) ?_
                          refine w_il4 hC dX4_layWays_98 ?_
                          refine w_ic hC dX4_layWays_100 rfl ?_
                          refine w_iadd hC dX4_layWays_101 (ri_mk (by omega) (by omega)) ?_
                          have hkn : k < n := by omega
                          refine w_imul hC dX4_layWays_102 (ri_mk (by omega) (by omega)) ?_
                          rw [show (256 : Int) * ((j : Int) + 1) = ((256 * (j + 1) : Nat) : Int) by omega]
                          refine w_il5 hC dX4_layWays_103 ?_
                          refine w_ic hC dX4_layWays_105 rfl ?_
                          refine w_il8 hC dX4_layWays_106 ?_
                          refine v_ishl hC dX4_layWays_108 ?_
                          rw [bShl_1 (by omega)]
                          refine v_ior hC dX4_layWays_109 ?_
                          rw [bOr_n (by omega) (by have := two_lt (show k < 8 by omega); omega)]
                          have hob : u ||| 2 ^ k < 256 := Nat.or_lt_two_pow (n := 8) (by omega) (two_lt (by omega))
                          have kk5 := k5 (j + 1) (u ||| 2 ^ k) (Nat.le_refl _) (by omega) hob
                          rw [er] at kk5
                          refine w_iadd hC dX4_layWays_110 (ri_mk (by omega) (by omega)) ?_
                          rw [show ((256 * (j + 1) : Nat) : Int) + ((u ||| 2 ^ k : Nat) : Int) = ((256 * (j + 1) + (u ||| 2 ^ k) : Nat) : Int) by omega]
                          refine w_is9 hC dX4_layWays_111 hN (by first | rfl | assumption) ?_
                          refine w_il5 hC dX4_layWays_113 ?_
                          refine w_il8 hC dX4_layWays_115 ?_
                          refine w_st2 hC st_X4_191 dX4_layWays_117 rfl hN (d_has (by omega) (by omega) (fun g5 => ?_) (fun g5 => ?_))
                          · refine v_if_ne (tgt := 202) hC dX4_layWays_120 rfl (fun _ => ?_) (fun h => absurd h (by decide))
                            refine w_inc8 hC dX4_layWays_202 hN (by first | rfl | assumption) (ri_mk (by omega) (by omega)) ?_
                            refine v_goto (tgt := 84) hC dX4_layWays_205 rfl ?_
                            refine w_dr9 ?_
                            first
                              | exact ih84 _ _ (k + 1) (by omega) (by omega) (sumN_s hs (cw_t g5 (by rw [ej]; exact g6))) (mnR_t1 hle ⟨g5, by omega, by rw [ej]; exact g6⟩ hco (by omega))
                              | exact ih84 _ _ (k + 1) (by omega) (by omega) (sumN_s hs (cw_t g5 (by rw [ej]; exact g6))) (mnR_t2 hle ⟨g5, by omega, by rw [ej]; exact g6⟩ hco (by omega))
                              | exact ih84 _ _ (k + 1) (by omega) (by omega) (sumN_z hs (cw_f3 (by omega))) (mnR_f hle (cm_n3 (by omega)))
                              | exact ih84 _ _ (k + 1) (by omega) (by omega) (sumN_z hs (cw_f1 g5)) (mnR_f hle (cm_n1 g5))
                              | exact ih84 _ _ (k + 1) (by omega) (by omega) (sumN_z hs (cw_f2 (by rw [ej, ← e40]; exact g6))) (mnR_f hle (cm_n2 (by rw [ej, ← e40]; exact g6)))
                          · refine v_if_ne (tgt := 202) hC dX4_layWays_120 rfl (fun h => absurd h (by decide)) (fun _ => ?_)
                            refine w_al0 hC dX4_layWays_123 ?_
                            refine v_getR (off := 7) (j := 46) hC dX4_layWays_124 fd_X4_33 rfl rfl rfl ?_
                            refine w_il9 hC dX4_layWays_127 ?_
                            refine w_ialdk hC 1792 (256 * (j + 1) + (u ||| 2 ^ k)) dX4_layWays_129 rfl rfl (by omega) (by omega) ?_
                            rw [kk5.1]
                            have hwq := wyN_q (F := wfF (w 40) f st m) (n := n) (m := m) (by omega) (show r ≤ 6 by omega) (u ||| 2 ^ k)
                            refine v_if_le (tgt := 202) hC dX4_layWays_130 rfl (fun h130 => ?_) (fun h130 => ?_)
                            · refine w_inc8 hC dX4_layWays_202 hN (by first | rfl | assumption) (ri_mk (by omega) (by omega)) ?_
                              refine v_goto (tgt := 84) hC dX4_layWays_205 rfl ?_
                              refine w_dr9 ?_
                              first
                                | exact ih84 _ _ (k + 1) (by omega) (by omega) (sumN_s hs (cw_t g5 (by rw [ej]; exact g6))) (mnR_t1 hle ⟨g5, by omega, by rw [ej]; exact g6⟩ hco (by omega))
                                | exact ih84 _ _ (k + 1) (by omega) (by omega) (sumN_s hs (cw_t g5 (by rw [ej]; exact g6))) (mnR_t2 hle ⟨g5, by omega, by rw [ej]; exact g6⟩ hco (by omega))
                                | exact ih84 _ _ (k + 1) (by omega) (by omega) (sumN_z hs (cw_f3 (by omega))) (mnR_f hle (cm_n3 (by omega)))
                                | exact ih84 _ _ (k + 1) (by omega) (by omega) (sumN_z hs (cw_f1 g5)) (mnR_f hle (cm_n1 g5))
                                | exact ih84 _ _ (k + 1) (by omega) (by omega) (sumN_z hs (cw_f2 (by rw [ej, ← e40]; exact g6))) (mnR_f hle (cm_n2 (by rw [ej, ← e40]; exact g6)))
                            · refine w_al0 hC dX4_layWays_133 ?_
                              refine w_il1 hC dX4_layWays_134 ?_
                              refine w_il2 hC dX4_layWays_135 ?_
                              refine w_il8 hC dX4_layWays_136 ?_
                              refine w_il4 hC dX4_layWays_138 ?_
                              refine w_vi4 hC vi_X4_194 rfl dX4_layWays_140 rfl hN (d_isWay hA4 (m := m) (by rw [e40]; exact h1) (by rw [e40]; omega) (by omega) (fun g6 => ?_) (fun g6 => ?_))
                              · refine v_if_eq (tgt := 202) hC dX4_layWays_143 rfl (fun h => absurd h (by decide)) (fun _ => ?_)
                                refine w_il6 hC dX4_layWays_146 ?_
                                refine w_al0 hC dX4_layWays_148 ?_
                                refine v_getR (off := 7) (j := 46) hC dX4_layWays_149 fd_X4_33 rfl rfl rfl ?_
                                refine w_il9 hC dX4_layWays_152 ?_
                                refine w_ialdk hC 1792 (256 * (j + 1) + (u ||| 2 ^ k)) dX4_layWays_154 rfl rfl (by omega) (by omega) ?_
                                rw [kk5.1]
                                rw [e40] at g6
                                refine w_iadd hC dX4_layWays_155 (ri_mk (by omega) (by omega)) ?_
                                refine w_is6 hC dX4_layWays_156 hN (by first | rfl | assumption) ?_
                                refine w_al0 hC dX4_layWays_158 ?_
                                refine w_il8 hC dX4_layWays_159 ?_
                                refine w_il4 hC dX4_layWays_161 ?_
                                refine w_vi2 hC vi_X4_187 rfl dX4_layWays_163 rfl hN (d_cost hA4 (by rw [e40]; omega) ⟨by omega, by omega⟩ ?_)
                                rw [e40]
                                have hcq := csB_q hA (n := (k : Int)) (j := (j : Int)) (by omega) ⟨by omega, by omega⟩
                                refine w_al0 hC dX4_layWays_166 ?_
                                refine v_getR (off := 8) (j := 47) hC dX4_layWays_167 fd_X4_36 rfl rfl rfl ?_
                                refine w_il9 hC dX4_layWays_170 ?_
                                refine w_ialdk hC 1792 (256 * (j + 1) + (u ||| 2 ^ k)) dX4_layWays_172 rfl rfl (by omega) (by omega) ?_
                                rw [kk5.2]
                                have hlc := (ls_cm (F := wfF (w 40) f st m) (C := coF (w 40) 1) (n := n) (m := m) (by omega) (by omega) (fun k j p q => coF_r hA h3 h1 1 p q) r (u ||| 2 ^ k) (by omega)).resolve_left (fun z => by omega)
                                have hco : coF (w 40) 1 k (m - (r + 1)) + cmN (wfF (w 40) f st m) (coF (w 40) 1) n m r (u ||| 2 ^ k) = csB (w 40) k j + cmN (wfF (w 40) f st m) (coF (w 40) 1) n m r (u ||| 2 ^ k) := by rw [ej]; rfl
                                refine w_iadd hC dX4_layWays_173 (ri_mk (by omega) (by omega)) ?_
                                refine w_il7 hC dX4_layWays_174 ?_
                                refine v_ic_ge (tgt := 198) hC dX4_layWays_176 rfl (fun h176 => ?_) (fun h176 => ?_)
                                · refine w_il7 hC dX4_layWays_198 ?_
                                  refine w_is7 hC dX4_layWays_200 hN (by first | rfl | assumption) ?_
                                  refine w_inc8 hC dX4_layWays_202 hN (by first | rfl | assumption) (ri_mk (by omega) (by omega)) ?_
                                  refine v_goto (tgt := 84) hC dX4_layWays_205 rfl ?_
                                  refine w_dr9 ?_
                                  first
                                    | exact ih84 _ _ (k + 1) (by omega) (by omega) (sumN_s hs (cw_t g5 (by rw [ej]; exact g6))) (mnR_t1 hle ⟨g5, by omega, by rw [ej]; exact g6⟩ hco (by omega))
                                    | exact ih84 _ _ (k + 1) (by omega) (by omega) (sumN_s hs (cw_t g5 (by rw [ej]; exact g6))) (mnR_t2 hle ⟨g5, by omega, by rw [ej]; exact g6⟩ hco (by omega))
                                    | exact ih84 _ _ (k + 1) (by omega) (by omega) (sumN_z hs (cw_f3 (by omega))) (mnR_f hle (cm_n3 (by omega)))
                                    | exact ih84 _ _ (k + 1) (by omega) (by omega) (sumN_z hs (cw_f1 g5)) (mnR_f hle (cm_n1 g5))
                                    | exact ih84 _ _ (k + 1) (by omega) (by omega) (sumN_z hs (cw_f2 (by rw [ej, ← e40]; exact g6))) (mnR_f hle (cm_n2 (by rw [ej, ← e40]; exact g6)))
                                · refine w_al0 hC dX4_layWays_179 ?_
                                  refine w_il8 hC dX4_layWays_180 ?_
                                  refine w_il4 hC dX4_layWays_182 ?_
                                  refine w_vi2 hC vi_X4_187 rfl dX4_layWays_184 rfl hN (d_cost hA4 (by rw [e40]; omega) ⟨by omega, by omega⟩ ?_)
                                  rw [e40]
                                  refine w_al0 hC dX4_layWays_187 ?_
                                  refine v_getR (off := 8) (j := 47) hC dX4_layWays_188 fd_X4_36 rfl rfl rfl ?_
                                  refine w_il9 hC dX4_layWays_191 ?_
                                  refine w_ialdk hC 1792 (256 * (j + 1) + (u ||| 2 ^ k)) dX4_layWays_193 rfl rfl (by omega) (by omega) ?_
                                  rw [kk5.2]
                                  refine w_iadd hC dX4_layWays_194 (ri_mk (by omega) (by omega)) ?_
                                  refine v_goto (tgt := 200) hC dX4_layWays_195 rfl ?_
                                  refine w_is7 hC dX4_layWays_200 hN (by first | rfl | assumption) ?_
                                  refine w_inc8 hC dX4_layWays_202 hN (by first | rfl | assumption) (ri_mk (by omega) (by omega)) ?_
                                  refine v_goto (tgt := 84) hC dX4_layWays_205 rfl ?_
                                  refine w_dr9 ?_
                                  first
                                    | exact ih84 _ _ (k + 1) (by omega) (by omega) (sumN_s hs (cw_t g5 (by rw [ej]; exact g6))) (mnR_t1 hle ⟨g5, by omega, by rw [ej]; exact g6⟩ hco (by omega))
                                    | exact ih84 _ _ (k + 1) (by omega) (by omega) (sumN_s hs (cw_t g5 (by rw [ej]; exact g6))) (mnR_t2 hle ⟨g5, by omega, by rw [ej]; exact g6⟩ hco (by omega))
                                    | exact ih84 _ _ (k + 1) (by omega) (by omega) (sumN_z hs (cw_f3 (by omega))) (mnR_f hle (cm_n3 (by omega)))
                                    | exact ih84 _ _ (k + 1) (by omega) (by omega) (sumN_z hs (cw_f1 g5)) (mnR_f hle (cm_n1 g5))
                                    | exact ih84 _ _ (k + 1) (by omega) (by omega) (sumN_z hs (cw_f2 (by rw [ej, ← e40]; exact g6))) (mnR_f hle (cm_n2 (by rw [ej, ← e40]; exact g6)))
                              · refine v_if_eq (tgt := 202) hC dX4_layWays_143 rfl (fun _ => ?_) (fun h => absurd h (by decide))
                                refine w_inc8 hC dX4_layWays_202 hN (by first | rfl | assumption) (ri_mk (by omega) (by omega)) ?_
                                refine v_goto (tgt := 84) hC dX4_layWays_205 rfl ?_
                                refine w_dr9 ?_
                                first
                                  | exact ih84 _ _ (k + 1) (by omega) (by omega) (sumN_s hs (cw_t g5 (by rw [ej]; exact g6))) (mnR_t1 hle ⟨g5, by omega, by rw [ej]; exact g6⟩ hco (by omega))
                                  | exact ih84 _ _ (k + 1) (by omega) (by omega) (sumN_s hs (cw_t g5 (by rw [ej]; exact g6))) (mnR_t2 hle ⟨g5, by omega, by rw [ej]; exact g6⟩ hco (by omega))
                                  | exact ih84 _ _ (k + 1) (by omega) (by omega) (sumN_z hs (cw_f3 (by omega))) (mnR_f hle (cm_n3 (by omega)))
                                  | exact ih84 _ _ (k + 1) (by omega) (by omega) (sumN_z hs (cw_f1 g5)) (mnR_f hle (cm_n1 g5))
                                  | exact ih84 _ _ (k + 1) (by omega) (by omega) (sumN_z hs (cw_f2 (by rw [ej, ← e40]; exact g6))) (mnR_f hle (cm_n2 (by rw [ej, ← e40]; exact g6)))
                    exact lp84 (n + 1) 0 9999 0 (by omega) (by omega) rfl (mnR_0 _ _ _)
              exact lp65 257 w3 0 (by omega) (by omega) (fun v h => by omega) g3 o3
        exact lp57 (m + 1) w2 m (by omega) (by omega) (fun q v q1 q2 q3 => by
          have e : q = m := by omega
          subst e
          rw [Nat.sub_self]
          exact g1 v (by omega)) o2
      · refine w_al0 hC dX4_layWays_18 ?_
        refine v_getR (off := 7) (j := 46) hC dX4_layWays_19 fd_X4_33 rfl rfl rfl ?_
        refine v_sipush hC dX4_layWays_22 (by decide) ?_
        refine w_il3 hC dX4_layWays_25 ?_
        refine w_imul hC dX4_layWays_26 (ri_mk (by omega) (by omega)) ?_
        rw [show (256 : Int) * (m : Int) = ((256 * m : Nat) : Int) by omega]
        refine w_il4 hC dX4_layWays_27 ?_
        refine w_iadd hC dX4_layWays_29 (ri_mk (by omega) (by omega)) ?_
        refine w_ic hC dX4_layWays_30 rfl ?_
        refine w_iastk hC 1792 (256 * m + u) dX4_layWays_31 rfl rfl (by omega) (by omega) ?_
        refine w_al0 hC dX4_layWays_32 ?_
        refine v_getR (off := 8) (j := 47) hC dX4_layWays_33 fd_X4_36 rfl rfl rfl ?_
        refine v_sipush hC dX4_layWays_36 (by decide) ?_
        refine w_il3 hC dX4_layWays_39 ?_
        refine w_imul hC dX4_layWays_40 (ri_mk (by omega) (by omega)) ?_
        rw [show (256 : Int) * (m : Int) = ((256 * m : Nat) : Int) by omega]
        refine w_il4 hC dX4_layWays_41 ?_
        refine w_iadd hC dX4_layWays_43 (ri_mk (by omega) (by omega)) ?_
        refine w_ic hC dX4_layWays_44 rfl ?_
        refine w_iastk hC 1792 (256 * m + u) dX4_layWays_45 rfl rfl (by omega) (by omega) ?_
        refine w_inc4 hC dX4_layWays_46 hN (by first | rfl | assumption) (ri_mk (by omega) (by omega)) ?_
        refine v_goto (tgt := 10) hC dX4_layWays_49 rfl ?_
        refine w_dr5 ?_
        refine w_dr6 ?_
        refine w_dr7 ?_
        refine w_dr8 ?_
        refine w_dr9 ?_
        exact ih10 _ (u + 1) (by omega) (by omega) (lt_s (fun q hq => by rw [up_id _ _ (by decide), up_pl _ _ (by omega), up_pl _ _ (by omega)]; exact g1 q hq) (by rw [up_id _ _ (by decide), up_same, up_same]; exact ⟨rfl, rfl⟩)) (fun i k p q => by rw [up_id _ _ q, up_id _ _ p]; exact o2 i k p q)
  exact lp10 257 w 0 (by omega) (by omega) (fun q h => by omega) (fun _ _ _ _ => rfl)
