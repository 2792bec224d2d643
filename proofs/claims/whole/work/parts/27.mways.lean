/-! ways of the model -/
def wfF (a : Nat → Int) (f st : Int) (m : Nat) : Nat → Nat → Bool := if st = 0 then fitF a f else stM (fitF a f) (fun j => a (28 + j)) m
theorem wf_0 {a : Nat → Int} {f st : Int} {m k j : Nat} (h : st = 0) : wfF a f st m k j = true ↔ fitB a f k j := by
  unfold wfF
  rw [if_pos h]
  exact fitF_iff
theorem wf_1 {a : Nat → Int} {f st : Int} {m k j : Nat} (h : ¬ st = 0) (e : a (28 + j) = -1) : wfF a f st m k j = true ↔ fitB a f k j ∧ ∀ i, i < m → a (28 + i) ≠ (k : Int) := by
  unfold wfF stM
  rw [if_neg h]
  dsimp only
  rw [if_pos e, Bool.and_eq_true, fitF_iff, decide_eq_true_iff]
theorem wf_2 {a : Nat → Int} {f st : Int} {m k j : Nat} (h : ¬ st = 0) (e : ¬ a (28 + j) = -1) : wfF a f st m k j = true ↔ fitB a f k j ∧ a (28 + j) = (k : Int) := by
  unfold wfF stM
  rw [if_neg h]
  dsimp only
  rw [if_neg e, Bool.and_eq_true, fitF_iff, decide_eq_true_iff]
theorem ln_none {a : Nat → Int} {m : Nat} (hm : a 1 = m) {wd : Int} : lnOf a wd = -1 ↔ ∀ i, i < m → a (28 + i) ≠ wd := by
  rcases fstI_spec (fun j => wOn a j = wd) (a 1).toNat with ⟨h1, h2⟩ | ⟨j, h1, h2, h3, -⟩
  · refine ⟨fun _ i hi e => h2 i (by omega) (by show wOn a i = wd; rw [wOn_n (by omega)]; exact e), fun _ => h1⟩
  · refine ⟨fun q => ?_, fun q => absurd (by rw [← wOn_n (a := a) (j := j) (by omega)]; exact h3) (q j (by omega))⟩
    unfold lnOf at q
    omega

theorem bn_f {b : Bool} (h : ¬ b = true) : b = false := by
  cases b with
  | false => rfl
  | true => exact absurd rfl h

theorem d_isWay {d : Nat} {w : Wd} {Q : Option MV → Wd → Prop} (hA : AOK (w 40)) {f st : Int} {m k j : Nat} (hm : w 40 1 = m) (hk : (k : Int) < w 40 3) (hj : j < m) (ht : wfF (w 40) f st m k j = true → Q (some (.inl 1)) w) (hf : wfF (w 40) f st m k j = false → Q (some (.inl 0)) w) : Call (d + 4) mX4_isWay [vR 39, vI f, vI st, vI (k : Int), vI (j : Int)] w Q := by
  have am := hA.m
  have an := hA.n
  have af := hA.f
  have anc := hA.nc
  have amc := hA.mc
  have auc := hA.uc
  refine call_in (ls := [some (vR 39), some (vI f), some (vI st), some (vI (k : Int)), some (vI (j : Int)), none]) (by decide +kernel) rfl (Nat.le_of_ble_eq_true rfl) (fun κ hC hR hN => ?_)
  have hC : ctxB κ RX4 cX4_isWay (d + 4) := hC
  have hN : mlx κ 6 := hN
  refine w_il2 hC dX4_isWay_0 ?_
  have tl47 : (fitB (w 40) f k j ↔ wfF (w 40) f st m k j = true) → VV κ 47 [some (vR 39), some (vI f), some (vI st), some (vI (k : Int)), some (vI (j : Int)), none] [] w := by
    intro  hst
    refine w_ic hC dX4_isWay_47 rfl ?_
    refine v_goto (tgt := 52) hC dX4_isWay_48 rfl ?_
    refine w_is5 hC dX4_isWay_52 hN (by first | rfl | assumption) ?_
    refine w_il5 hC dX4_isWay_54 ?_
    refine v_if_eq (tgt := 74) hC dX4_isWay_56 rfl (fun h => absurd h (by decide)) (fun _ => ?_)
    refine w_al0 hC dX4_isWay_59 ?_
    refine w_il1 hC dX4_isWay_60 ?_
    refine w_il3 hC dX4_isWay_61 ?_
    refine w_il4 hC dX4_isWay_62 ?_
    refine w_vi3 hC vi_X4_168 rfl dX4_isWay_64 rfl hN (d_isFit hA ⟨by omega, by omega⟩ ⟨by omega, by omega⟩ (fun g1 => ?_) (fun g1 => ?_))
    · refine v_if_eq (tgt := 74) hC dX4_isWay_67 rfl (fun h => absurd h (by decide)) (fun _ => ?_)
      refine w_ic hC dX4_isWay_70 rfl ?_
      refine v_goto (tgt := 75) hC dX4_isWay_71 rfl ?_
      refine v_zret hC hR dX4_isWay_75 (by first | decide | omega) ?_
      first | exact hf hst | exact ht (hst.mp g1) | exact hf (bn_f (fun z => g1 (hst.mpr z)))
    · refine v_if_eq (tgt := 74) hC dX4_isWay_67 rfl (fun _ => ?_) (fun h => absurd h (by decide))
      refine w_ic hC dX4_isWay_74 rfl ?_
      refine v_zret hC hR dX4_isWay_75 (by first | decide | omega) ?_
      first | exact hf hst | exact ht (hst.mp g1) | exact hf (bn_f (fun z => g1 (hst.mpr z)))
  have tl51 : (wfF (w 40) f st m k j = false) → VV κ 51 [some (vR 39), some (vI f), some (vI st), some (vI (k : Int)), some (vI (j : Int)), none] [] w := by
    intro  hst
    refine w_ic hC dX4_isWay_51 rfl ?_
    refine w_is5 hC dX4_isWay_52 hN (by first | rfl | assumption) ?_
    refine w_il5 hC dX4_isWay_54 ?_
    refine v_if_eq (tgt := 74) hC dX4_isWay_56 rfl (fun _ => ?_) (fun h => absurd h (by decide))
    refine w_ic hC dX4_isWay_74 rfl ?_
    refine v_zret hC hR dX4_isWay_75 (by first | decide | omega) ?_
    first | exact hf hst | exact ht (hst.mp g1) | exact hf (bn_f (fun z => g1 (hst.mpr z)))
  refine v_if_eq (tgt := 47) hC dX4_isWay_1 rfl (fun h1 => ?_) (fun h1 => ?_)
  · first | exact tl47 (wf_0 h1).symm | exact tl47 ⟨fun z => (wf_1 h1 h15).mpr ⟨z, hln.mp h27⟩, fun z => ((wf_1 h1 h15).mp z).1⟩ | exact tl47 ⟨fun z => (wf_2 h1 h15).mpr ⟨z, h44⟩, fun z => ((wf_2 h1 h15).mp z).1⟩
  · refine w_al0 hC dX4_isWay_4 ?_
    refine v_getR (off := 1) (j := 40) hC dX4_isWay_5 fd_X4_7 rfl rfl rfl ?_
    refine v_bipush hC dX4_isWay_8 (by decide) ?_
    refine w_il4 hC dX4_isWay_10 ?_
    refine w_iadd hC dX4_isWay_12 (ri_mk (by omega) (by omega)) ?_
    refine w_ialdk hC 127 (28 + j) dX4_isWay_13 rfl rfl (by omega) (by omega) ?_
    refine w_ic hC dX4_isWay_14 rfl ?_
    refine v_ic_ne (tgt := 33) hC dX4_isWay_15 rfl (fun h15 => ?_) (fun h15 => ?_)
    · refine w_al0 hC dX4_isWay_33 ?_
      refine v_getR (off := 1) (j := 40) hC dX4_isWay_34 fd_X4_7 rfl rfl rfl ?_
      refine v_bipush hC dX4_isWay_37 (by decide) ?_
      refine w_il4 hC dX4_isWay_39 ?_
      refine w_iadd hC dX4_isWay_41 (ri_mk (by omega) (by omega)) ?_
      refine w_ialdk hC 127 (28 + j) dX4_isWay_42 rfl rfl (by omega) (by omega) ?_
      refine w_il3 hC dX4_isWay_43 ?_
      refine v_ic_ne (tgt := 51) hC dX4_isWay_44 rfl (fun h44 => ?_) (fun h44 => ?_)
      · first | exact tl51 (bn_f (fun z => h27 (hln.mpr ((wf_1 h1 h15).mp z).2))) | exact tl51 (bn_f (fun z => h44 ((wf_2 h1 h15).mp z).2))
      · first | exact tl47 (wf_0 h1).symm | exact tl47 ⟨fun z => (wf_1 h1 h15).mpr ⟨z, hln.mp h27⟩, fun z => ((wf_1 h1 h15).mp z).1⟩ | exact tl47 ⟨fun z => (wf_2 h1 h15).mpr ⟨z, h44⟩, fun z => ((wf_2 h1 h15).mp z).1⟩
    · refine w_al0 hC dX4_isWay_18 ?_
      refine v_getR (off := 1) (j := 40) hC dX4_isWay_19 fd_X4_7 rfl rfl rfl ?_
      refine w_il3 hC dX4_isWay_22 ?_
      refine w_st2 hC st_X4_114 dX4_isWay_23 rfl hN (d_lineOf rfl rfl am ?_)
      rw [lnL_eq hA (show 0 ≤ (k : Int) by omega)]
      have hln := ln_none hm (wd := (k : Int))
      refine w_ic hC dX4_isWay_26 rfl ?_
      refine v_ic_ne (tgt := 51) hC dX4_isWay_27 rfl (fun h27 => ?_) (fun h27 => ?_)
      · first | exact tl51 (bn_f (fun z => h27 (hln.mpr ((wf_1 h1 h15).mp z).2))) | exact tl51 (bn_f (fun z => h44 ((wf_2 h1 h15).mp z).2))
      · refine v_goto (tgt := 47) hC dX4_isWay_30 rfl ?_
        first | exact tl47 (wf_0 h1).symm | exact tl47 ⟨fun z => (wf_1 h1 h15).mpr ⟨z, hln.mp h27⟩, fun z => ((wf_1 h1 h15).mp z).1⟩ | exact tl47 ⟨fun z => (wf_2 h1 h15).mpr ⟨z, h44⟩, fun z => ((wf_2 h1 h15).mp z).1⟩
