/-! tokens of a text -/
def isLt (c : Int) : Bool := decide (97 ≤ c ∧ c ≤ 122)
def isFg (c : Int) : Bool := decide (48 ≤ c ∧ c ≤ 57)
def isBl (c : Int) : Bool := decide (c = 32)
def ruF (c : Int → Bool) (t : Nat → Int) : Nat → Nat → Nat
  | 0, p => p
  | f + 1, p => if c (t p) = true then ruF c t f (p + 1) else p
def ruE (c : Int → Bool) (t : Nat → Int) (len p : Nat) : Nat := ruF c t (len - p) p
theorem ruE_1 {c : Int → Bool} {t : Nat → Int} {len p : Nat} (h : p < len) (hc : c (t p) = true) : ruE c t len p = ruE c t len (p + 1) := by
  unfold ruE
  rw [show len - p = (len - (p + 1)) + 1 by omega]
  show (if c (t p) = true then _ else _) = _
  rw [if_pos hc]
theorem ruE_0 {c : Int → Bool} {t : Nat → Int} {len p : Nat} (h : ¬ (p < len ∧ c (t p) = true)) : ruE c t len p = p := by
  unfold ruE
  by_cases q : p < len
  · rw [show len - p = (len - (p + 1)) + 1 by omega]
    show (if c (t p) = true then _ else _) = _
    rw [if_neg (fun z => h ⟨q, z⟩)]
  · rw [show len - p = 0 by omega]
    rfl
theorem ruE_r {c : Int → Bool} {t : Nat → Int} {len : Nat} : ∀ (k p : Nat), len - p = k → p ≤ len → p ≤ ruE c t len p ∧ ruE c t len p ≤ len := by
  intro k
  induction k with
  | zero => intro p h1 h2; rw [ruE_0 (fun z => by omega)]; omega
  | succ k ih =>
    intro p h1 h2
    by_cases q : c (t p) = true
    · rw [ruE_1 (by omega) q]
      have := ih (p + 1) (by omega) (by omega)
      omega
    · rw [ruE_0 (fun z => q z.2)]; omega
theorem ruE_q {c : Int → Bool} {t : Nat → Int} {len p : Nat} (h : p ≤ len) : p ≤ ruE c t len p ∧ ruE c t len p ≤ len := ruE_r _ p rfl h
/-- all that is passed is of the kind -/
theorem ruE_in {c : Int → Bool} {t : Nat → Int} {len : Nat} : ∀ (k p : Nat), len - p = k → ∀ q, p ≤ q → q < ruE c t len p → c (t q) = true := by
  intro k
  induction k with
  | zero => intro p h1 q h2 h3; rw [ruE_0 (fun z => by omega)] at h3; omega
  | succ k ih =>
    intro p h1 q h2 h3
    by_cases z : c (t p) = true
    · by_cases e : q = p
      · rw [e]; exact z
      · rw [ruE_1 (by omega) z] at h3
        exact ih (p + 1) (by omega) q (by omega) h3
    · rw [ruE_0 (fun y => z y.2)] at h3; omega
def nvF (t : Nat → Int) (s k : Nat) : Int := if k = 0 then 0 else if k = 1 then t s - 48 else 10 * (t s - 48) + (t (s + 1) - 48)
def tkS (t : Nat → Int) (len p : Nat) : Nat := ruE isBl t len p
def tkG (t : Nat → Int) (len p : Nat) : Int := if tkS t len p = len then 0 else if isLt (t (tkS t len p)) = true then 1 else if isFg (t (tkS t len p)) = true then 2 else if t (tkS t len p) = 59 then 3 else 4
def tkE (t : Nat → Int) (len p : Nat) : Nat := if tkS t len p = len then len else if isLt (t (tkS t len p)) = true then ruE isLt t len (tkS t len p) else if isFg (t (tkS t len p)) = true then ruE isFg t len (tkS t len p) else tkS t len p + 1
def tkK (t : Nat → Int) (len p : Nat) : Int := if tkG t len p = 2 ∧ 2 < tkE t len p - tkS t len p then 4 else tkG t len p
def tkV (t : Nat → Int) (len p : Nat) : Int := if tkG t len p = 2 then nvF t (tkS t len p) (tkE t len p - tkS t len p) else 0
def TX (w : Wd) (t : Nat → Int) (len : Nat) : Prop := (∀ k, k < len → w 34 k = t k) ∧ w 33 1 = len ∧ len ≤ 150 ∧ ∀ k, k < len → 0 ≤ t k ∧ t k ≤ 127
def TK (w : Wd) (t : Nat → Int) (len p : Nat) : Prop := w 33 3 = tkS t len p ∧ w 33 4 = tkE t len p ∧ w 33 5 = tkK t len p ∧ w 33 6 = tkV t len p
def fr33 (w w2 : Wd) : Prop := ∀ i k : Nat, ¬ (i = 33 ∧ 3 ≤ k ∧ k ≤ 6) → w2 i k = w i k
theorem TX.fr {w w2 : Wd} {t : Nat → Int} {len : Nat} (h : TX w t len) (e1 : ∀ k, w2 34 k = w 34 k) (e2 : w2 33 1 = w 33 1) : TX w2 t len := ⟨fun k hk => by rw [e1]; exact h.1 k hk, by rw [e2]; exact h.2.1, h.2.2⟩
theorem tk_end {t : Nat → Int} {len p : Nat} (h : tkS t len p = len) : tkG t len p = 0 ∧ tkE t len p = len ∧ tkK t len p = 0 ∧ tkV t len p = 0 := by
  have h1 : tkG t len p = 0 := if_pos h
  have h2 : tkE t len p = len := if_pos h
  refine ⟨h1, h2, ?_, ?_⟩
  · unfold tkK; rw [if_neg (fun z => by omega), h1]
  · unfold tkV; rw [if_neg (fun z => by omega)]
theorem tk_let {t : Nat → Int} {len p : Nat} (h : tkS t len p ≠ len) (h2 : isLt (t (tkS t len p)) = true) : tkG t len p = 1 ∧ tkE t len p = ruE isLt t len (tkS t len p) ∧ tkK t len p = 1 ∧ tkV t len p = 0 := by
  have g : tkG t len p = 1 := by unfold tkG; rw [if_neg h, if_pos h2]
  refine ⟨g, by unfold tkE; rw [if_neg h, if_pos h2], ?_, ?_⟩
  · unfold tkK; rw [if_neg (fun z => by omega), g]
  · unfold tkV; rw [if_neg (fun z => by omega)]
theorem tk_fig {t : Nat → Int} {len p : Nat} (h : tkS t len p ≠ len) (h2 : isLt (t (tkS t len p)) = false) (h3 : isFg (t (tkS t len p)) = true) : tkG t len p = 2 ∧ tkE t len p = ruE isFg t len (tkS t len p) ∧ tkK t len p = (if 2 < tkE t len p - tkS t len p then 4 else 2) ∧ tkV t len p = nvF t (tkS t len p) (tkE t len p - tkS t len p) := by
  have g : tkG t len p = 2 := by unfold tkG; rw [if_neg h, if_neg (bf_ne h2), if_pos h3]
  refine ⟨g, by unfold tkE; rw [if_neg h, if_neg (bf_ne h2), if_pos h3], ?_, if_pos g⟩
  unfold tkK
  by_cases q : 2 < tkE t len p - tkS t len p
  · rw [if_pos ⟨g, q⟩, if_pos q]
  · rw [if_neg (fun z => q z.2), if_neg q, g]
theorem tk_oth {t : Nat → Int} {len p : Nat} (h : tkS t len p ≠ len) (h2 : isLt (t (tkS t len p)) = false) (h3 : isFg (t (tkS t len p)) = false) : tkE t len p = tkS t len p + 1 ∧ tkK t len p = (if t (tkS t len p) = 59 then 3 else 4) ∧ tkV t len p = 0 := by
  have g : tkG t len p = (if t (tkS t len p) = 59 then 3 else 4) := by unfold tkG; rw [if_neg h, if_neg (bf_ne h2), if_neg (bf_ne h3)]
  have g2 : tkG t len p ≠ 2 := by rw [g]; split <;> decide
  refine ⟨by unfold tkE; rw [if_neg h, if_neg (bf_ne h2), if_neg (bf_ne h3)], ?_, ?_⟩
  · unfold tkK; rw [if_neg (fun z => g2 z.1), g]
  · unfold tkV; rw [if_neg g2]
theorem tkS_r {t : Nat → Int} {len p : Nat} (h : p ≤ len) : p ≤ tkS t len p ∧ tkS t len p ≤ len := ruE_q h
theorem tkE_r {t : Nat → Int} {len p : Nat} (h : p ≤ len) : tkS t len p ≤ tkE t len p ∧ tkE t len p ≤ len := by
  have h1 := tkS_r (t := t) h
  unfold tkE
  split
  next => omega
  next q =>
    split
    next => exact ruE_q h1.2
    next =>
      split
      next => exact ruE_q h1.2
      next => omega
/-- a token that is there takes a byte -/
theorem tkE_gt {t : Nat → Int} {len p : Nat} (h : p ≤ len) (hk : tkK t len p ≠ 0) : p < tkE t len p := by
  have h1 := tkS_r (t := t) h
  have hs : tkS t len p ≠ len := fun z => hk (tk_end z).2.2.1
  unfold tkE
  rw [if_neg hs]
  split
  next q => rw [ruE_1 (by omega) q]; have := ruE_q (c := isLt) (t := t) (len := len) (p := tkS t len p + 1) (by omega); omega
  next =>
    split
    next q => rw [ruE_1 (by omega) q]; have := ruE_q (c := isFg) (t := t) (len := len) (p := tkS t len p + 1) (by omega); omega
    next => omega
theorem nvF_r {t : Nat → Int} {s k : Nat} (h : ∀ q, q < k → 0 ≤ t (s + q) ∧ t (s + q) ≤ 127) : -528 ≤ nvF t s k ∧ nvF t s k ≤ 869 := by
  unfold nvF
  split
  next => omega
  next h0 =>
    have := h 0 (by omega)
    rw [Nat.add_zero] at this
    split
    next => omega
    next h1 => have := h 1 (by omega); omega
theorem tkV_r {t : Nat → Int} {len p : Nat} (hp : p ≤ len) (hk : tkK t len p = 2) : 0 ≤ tkV t len p ∧ tkV t len p ≤ 99 := by
  have hg : tkG t len p = 2 := by
    unfold tkK at hk
    split at hk
    · omega
    · exact hk
  have hs : tkS t len p ≠ len := fun z => by have := (tk_end z).1; omega
  have h2 : isLt (t (tkS t len p)) = false := by
    cases hb : isLt (t (tkS t len p)) with
    | false => rfl
    | true => have := (tk_let hs hb).1; omega
  have h3 : isFg (t (tkS t len p)) = true := by
    cases hb : isFg (t (tkS t len p)) with
    | true => rfl
    | false =>
      have g : tkG t len p = (if t (tkS t len p) = 59 then 3 else 4) := by unfold tkG; rw [if_neg hs, if_neg (bf_ne h2), if_neg (bf_ne hb)]
      rw [g] at hg
      split at hg <;> omega
  obtain ⟨-, e2, -, e4⟩ := tk_fig hs h2 h3
  have hin : ∀ q, q < tkE t len p - tkS t len p → 48 ≤ t (tkS t len p + q) ∧ t (tkS t len p + q) ≤ 57 := fun q hq => of_decide_eq_true (ruE_in (c := isFg) _ (tkS t len p) rfl (tkS t len p + q) (by omega) (by rw [← e2]; omega))
  rw [e4]
  unfold nvF
  split
  next => omega
  next h0 =>
    have := hin 0 (by omega)
    rw [Nat.add_zero] at this
    split
    next => omega
    next h1 => have := hin 1 (by omega); omega

theorem c_isLetter {d : Nat} {w : Wd} {Q : Option MV → Wd → Prop} {c : Int} (ht : isLt c = true → Q (some (.inl 1)) w) (hf : isLt c = false → Q (some (.inl 0)) w) : Call (d + 0) mX1_isLetter [vI c] w Q := by
  refine call_in (ls := [some (vI c)]) (by decide +kernel) rfl (Nat.le_of_ble_eq_true rfl) (fun κ hC hR hN => ?_)
  have hC : ctxB κ RX1 cX1_isLetter (d + 0) := hC
  have hN : mlx κ 1 := hN
  refine w_il0 hC dX1_isLetter_0 ?_
  refine v_bipush hC dX1_isLetter_1 (by decide) ?_
  refine v_ic_lt (tgt := 16) hC dX1_isLetter_3 rfl (fun h3 => ?_) (fun h3 => ?_)
  · refine w_ic hC dX1_isLetter_16 rfl ?_
    refine v_zret hC hR dX1_isLetter_17 (by first | decide | omega) ?_
    first | exact hf (decide_eq_false (by omega)) | exact ht (decide_eq_true ⟨by omega, by omega⟩)
  · refine w_il0 hC dX1_isLetter_6 ?_
    refine v_bipush hC dX1_isLetter_7 (by decide) ?_
    refine v_ic_gt (tgt := 16) hC dX1_isLetter_9 rfl (fun h9 => ?_) (fun h9 => ?_)
    · refine w_ic hC dX1_isLetter_16 rfl ?_
      refine v_zret hC hR dX1_isLetter_17 (by first | decide | omega) ?_
      first | exact hf (decide_eq_false (by omega)) | exact ht (decide_eq_true ⟨by omega, by omega⟩)
    · refine w_ic hC dX1_isLetter_12 rfl ?_
      refine v_goto (tgt := 17) hC dX1_isLetter_13 rfl ?_
      refine v_zret hC hR dX1_isLetter_17 (by first | decide | omega) ?_
      first | exact hf (decide_eq_false (by omega)) | exact ht (decide_eq_true ⟨by omega, by omega⟩)

theorem c_isFigure {d : Nat} {w : Wd} {Q : Option MV → Wd → Prop} {c : Int} (ht : isFg c = true → Q (some (.inl 1)) w) (hf : isFg c = false → Q (some (.inl 0)) w) : Call (d + 0) mX1_isFigure [vI c] w Q := by
  refine call_in (ls := [some (vI c)]) (by decide +kernel) rfl (Nat.le_of_ble_eq_true rfl) (fun κ hC hR hN => ?_)
  have hC : ctxB κ RX1 cX1_isFigure (d + 0) := hC
  have hN : mlx κ 1 := hN
  refine w_il0 hC dX1_isFigure_0 ?_
  refine v_bipush hC dX1_isFigure_1 (by decide) ?_
  refine v_ic_lt (tgt := 16) hC dX1_isFigure_3 rfl (fun h3 => ?_) (fun h3 => ?_)
  · refine w_ic hC dX1_isFigure_16 rfl ?_
    refine v_zret hC hR dX1_isFigure_17 (by first | decide | omega) ?_
    first | exact hf (decide_eq_false (by omega)) | exact ht (decide_eq_true ⟨by omega, by omega⟩)
  · refine w_il0 hC dX1_isFigure_6 ?_
    refine v_bipush hC dX1_isFigure_7 (by decide) ?_
    refine v_ic_gt (tgt := 16) hC dX1_isFigure_9 rfl (fun h9 => ?_) (fun h9 => ?_)
    · refine w_ic hC dX1_isFigure_16 rfl ?_
      refine v_zret hC hR dX1_isFigure_17 (by first | decide | omega) ?_
      first | exact hf (decide_eq_false (by omega)) | exact ht (decide_eq_true ⟨by omega, by omega⟩)
    · refine w_ic hC dX1_isFigure_12 rfl ?_
      refine v_goto (tgt := 17) hC dX1_isFigure_13 rfl ?_
      refine v_zret hC hR dX1_isFigure_17 (by first | decide | omega) ?_
      first | exact hf (decide_eq_false (by omega)) | exact ht (decide_eq_true ⟨by omega, by omega⟩)

theorem c_passLetters {d : Nat} {w : Wd} {Q : Option MV → Wd → Prop} {t : Nat → Int} {len q : Nat} (hT : TX w t len) (hq : q ≤ len) (he : w 33 4 = q) (hQ : ∀ w2, w2 33 4 = ((ruE isLt t len q : Nat) : Int) → (∀ i k : Nat, ¬ (i = 33 ∧ k = 4) → w2 i k = w i k) → Q none w2) : Call (d + 1) mX1_passLetters [vR 33] w Q := by
  refine call_in (ls := [some (vR 33)]) (by decide +kernel) rfl (Nat.le_of_ble_eq_true rfl) (fun κ hC hR hN => ?_)
  have hC : ctxB κ RX1 cX1_passLetters (d + 1) := hC
  have hN : mlx κ 1 := hN
  have lp0 : ∀ (K : Nat) (w2 : Wd) (e : Nat), (len - e) < K → (e ≤ len) → (w2 33 4 = e) → (ruE isLt t len e = ruE isLt t len q) → (∀ i k : Nat, ¬ (i = 33 ∧ k = 4) → w2 i k = w i k) → VV κ 0 [some (vR 33)] [] w2 := by
    intro K
    induction K with
    | zero => intros; omega
    | succ K ih0 =>
      intro w2 e hm0 hle h4 hr g2
      have hT2 := hT.fr (w2 := w2) (fun k => g2 34 k (by omega)) (g2 33 1 (by decide))
      have y1 := hT2.2.1
      have hl := hT2.2.2.1
      refine w_al0 hC dX1_passLetters_0 ?_
      refine v_getI hC dX1_passLetters_1 fd_X1_23 rfl rfl ?_
      rw [h4]
      refine w_al0 hC dX1_passLetters_4 ?_
      refine v_getI hC dX1_passLetters_5 fd_X1_15 rfl rfl ?_
      rw [y1]
      refine v_ic_ge (tgt := 41) hC dX1_passLetters_8 rfl (fun h8 => ?_) (fun h8 => ?_)
      · refine v_vret hC hR dX1_passLetters_41 ?_
        first | exact hQ w2 (by rw [h4, ← hr, ruE_0 (fun z => by omega)]) g2 | exact hQ w2 (by rw [h4, ← hr, ruE_0 (fun z => bf_ne g5 z.2)]) g2
      · refine w_al0 hC dX1_passLetters_11 ?_
        refine v_getR (off := 1) (j := 34) hC dX1_passLetters_12 fd_X1_9 rfl rfl rfl ?_
        refine w_al0 hC dX1_passLetters_15 ?_
        refine v_getI hC dX1_passLetters_16 fd_X1_23 rfl rfl ?_
        rw [h4]
        refine w_sn2 hC sn_X1_113 dX1_passLetters_19 rfl hN (c_at rfl ?_)
        rw [atV_n w2 (show e < 150 by omega), hT2.1 e (by omega)]
        refine w_st1 hC st_X1_121 dX1_passLetters_22 rfl hN (c_isLetter (fun g5 => ?_) (fun g5 => ?_))
        · refine v_if_eq (tgt := 41) hC dX1_passLetters_25 rfl (fun h => absurd h (by decide)) (fun _ => ?_)
          refine w_al0 hC dX1_passLetters_28 ?_
          refine v_dup hC dX1_passLetters_29 rfl ?_
          refine v_getI hC dX1_passLetters_30 fd_X1_23 rfl rfl ?_
          rw [h4]
          refine w_ic hC dX1_passLetters_33 rfl ?_
          refine w_iadd hC dX1_passLetters_34 (ri_mk (by omega) (by omega)) ?_
          refine v_putI hC dX1_passLetters_35 fp_X1_23 rfl rfl ?_
          refine v_goto (tgt := 0) hC dX1_passLetters_38 rfl ?_
          exact ih0 _ (e + 1) (by omega) (by omega) (up_same _ _ _ _) (by rw [← hr]; exact (ruE_1 (by omega) g5).symm) (fun i k h => by rw [up_ne _ _ h]; exact g2 i k h)
        · refine v_if_eq (tgt := 41) hC dX1_passLetters_25 rfl (fun _ => ?_) (fun h => absurd h (by decide))
          refine v_vret hC hR dX1_passLetters_41 ?_
          first | exact hQ w2 (by rw [h4, ← hr, ruE_0 (fun z => by omega)]) g2 | exact hQ w2 (by rw [h4, ← hr, ruE_0 (fun z => bf_ne g5 z.2)]) g2
  exact lp0 (len + 1) w q (by omega) hq he rfl (fun _ _ _ => rfl)

theorem c_passFigures {d : Nat} {w : Wd} {Q : Option MV → Wd → Prop} {t : Nat → Int} {len s : Nat} (hT : TX w t len) (hq : s ≤ len) (hs : w 33 3 = s) (he : w 33 4 = s) (hv : w 33 6 = 0) (hk : w 33 5 = 2) (hQ : ∀ w2, w2 33 4 = ((ruE isFg t len s : Nat) : Int) → w2 33 6 = nvF t s (ruE isFg t len s - s) → w2 33 5 = (if 2 < ruE isFg t len s - s then 4 else 2) → (∀ i k : Nat, ¬ (i = 33 ∧ 4 ≤ k ∧ k ≤ 6) → w2 i k = w i k) → Q none w2) : Call (d + 1) mX1_passFigures [vR 33] w Q := by
  refine call_in (ls := [some (vR 33)]) (by decide +kernel) rfl (Nat.le_of_ble_eq_true rfl) (fun κ hC hR hN => ?_)
  have hC : ctxB κ RX1 cX1_passFigures (d + 1) := hC
  have hN : mlx κ 1 := hN
  have lp0 : ∀ (K : Nat) (w2 : Wd) (e : Nat), (len - e) < K → (s ≤ e ∧ e ≤ len) → (w2 33 4 = e) → (ruE isFg t len e = ruE isFg t len s) → (w2 33 6 = nvF t s (e - s)) → (∀ i k : Nat, ¬ (i = 33 ∧ (k = 4 ∨ k = 6)) → w2 i k = w i k) → VV κ 0 [some (vR 33)] [] w2 := by
    intro K
    induction K with
    | zero => intros; omega
    | succ K ih0 =>
      intro w2 e hm0 hle h4 hr h6 g2
      have hT2 := hT.fr (w2 := w2) (fun k => g2 34 k (by omega)) (g2 33 1 (by decide))
      have y1 := hT2.2.1
      have hl := hT2.2.2.1
      have y3 : w2 33 3 = s := by rw [g2 33 3 (by decide)]; exact hs
      have hnv := nvF_r (t := t) (s := s) (k := e - s) (fun q hq => hT2.2.2.2 (s + q) (by omega))
      refine w_al0 hC dX1_passFigures_0 ?_
      refine v_getI hC dX1_passFigures_1 fd_X1_23 rfl rfl ?_
      rw [h4]
      refine w_al0 hC dX1_passFigures_4 ?_
      refine v_getI hC dX1_passFigures_5 fd_X1_15 rfl rfl ?_
      rw [y1]
      refine v_ic_ge (tgt := 80) hC dX1_passFigures_8 rfl (fun h8 => ?_) (fun h8 => ?_)
      · have hE : ruE isFg t len s = e := by
          first
          | (rw [← hr, ruE_0 (fun z => by omega)])
          | (rw [← hr]; exact ruE_0 (fun z => bf_ne g5 z.2))
        refine w_al0 hC dX1_passFigures_80 ?_
        refine v_getI hC dX1_passFigures_81 fd_X1_23 rfl rfl ?_
        rw [h4]
        refine w_al0 hC dX1_passFigures_84 ?_
        refine v_getI hC dX1_passFigures_85 fd_X1_105 rfl rfl ?_
        rw [y3]
        refine w_isub hC dX1_passFigures_88 (ri_mk (by omega) (by omega)) ?_
        refine w_ic hC dX1_passFigures_89 rfl ?_
        refine v_ic_le (tgt := 98) hC dX1_passFigures_90 rfl (fun h90 => ?_) (fun h90 => ?_)
        · refine v_vret hC hR dX1_passFigures_98 ?_
          rw [hE] at hQ
          first
          | exact hQ _ (by rw [up_pl _ _ (by decide)]; exact h4) (by rw [up_pl _ _ (by decide)]; exact h6) (by rw [up_same, if_pos (by omega)]) (fun i k h => by rw [up_ne _ _ (by omega)]; exact g2 i k (by omega))
          | exact hQ w2 h4 h6 (by rw [if_neg (by omega), g2 33 5 (by decide)]; exact hk) (fun i k h => g2 i k (by omega))
        · refine w_al0 hC dX1_passFigures_93 ?_
          refine w_ic hC dX1_passFigures_94 rfl ?_
          refine v_putI hC dX1_passFigures_95 fp_X1_36 rfl rfl ?_
          refine v_vret hC hR dX1_passFigures_98 ?_
          rw [hE] at hQ
          first
          | exact hQ _ (by rw [up_pl _ _ (by decide)]; exact h4) (by rw [up_pl _ _ (by decide)]; exact h6) (by rw [up_same, if_pos (by omega)]) (fun i k h => by rw [up_ne _ _ (by omega)]; exact g2 i k (by omega))
          | exact hQ w2 h4 h6 (by rw [if_neg (by omega), g2 33 5 (by decide)]; exact hk) (fun i k h => g2 i k (by omega))
      · refine w_al0 hC dX1_passFigures_11 ?_
        refine v_getR (off := 1) (j := 34) hC dX1_passFigures_12 fd_X1_9 rfl rfl rfl ?_
        refine w_al0 hC dX1_passFigures_15 ?_
        refine v_getI hC dX1_passFigures_16 fd_X1_23 rfl rfl ?_
        rw [h4]
        refine w_sn2 hC sn_X1_113 dX1_passFigures_19 rfl hN (c_at rfl ?_)
        rw [atV_n w2 (show e < 150 by omega), hT2.1 e (by omega)]
        refine w_st1 hC st_X1_127 dX1_passFigures_22 rfl hN (c_isFigure (fun g5 => ?_) (fun g5 => ?_))
        · refine v_if_eq (tgt := 80) hC dX1_passFigures_25 rfl (fun h => absurd h (by decide)) (fun _ => ?_)
          refine w_al0 hC dX1_passFigures_28 ?_
          refine v_getI hC dX1_passFigures_29 fd_X1_23 rfl rfl ?_
          rw [h4]
          refine w_al0 hC dX1_passFigures_32 ?_
          refine v_getI hC dX1_passFigures_33 fd_X1_105 rfl rfl ?_
          rw [y3]
          refine w_isub hC dX1_passFigures_36 (ri_mk (by omega) (by omega)) ?_
          refine w_ic hC dX1_passFigures_37 rfl ?_
          refine v_ic_ge (tgt := 67) hC dX1_passFigures_38 rfl (fun h38 => ?_) (fun h38 => ?_)
          · refine w_al0 hC dX1_passFigures_67 ?_
            refine v_dup hC dX1_passFigures_68 rfl ?_
            refine v_getI hC dX1_passFigures_69 fd_X1_23 rfl rfl ?_
            first | rw [h4] | rw [up_pl _ _ (by decide), h4]
            refine w_ic hC dX1_passFigures_72 rfl ?_
            refine w_iadd hC dX1_passFigures_73 (ri_mk (by omega) (by omega)) ?_
            refine v_putI hC dX1_passFigures_74 fp_X1_23 rfl rfl ?_
            refine v_goto (tgt := 0) hC dX1_passFigures_77 rfl ?_
            first
              | exact ih0 _ (e + 1) (by omega) (by omega) (up_same _ _ _ _) (by rw [← hr]; exact (ruE_1 (by omega) g5).symm) (by rw [up_pl _ _ (by decide), h6]; unfold nvF; rw [if_neg (by omega), if_neg (by omega), if_neg (by omega), if_neg (by omega)]) (fun i k h => by rw [up_ne _ _ (by omega)]; exact g2 i k h)
              | exact ih0 _ (e + 1) (by omega) (by omega) (up_same _ _ _ _) (by rw [← hr]; exact (ruE_1 (by omega) g5).symm) (by rw [up_pl _ _ (by decide), up_same]; exact hnx) (fun i k h => by rw [up_ne _ _ (by omega), up_ne _ _ (by omega)]; exact g2 i k h)
          · refine w_al0 hC dX1_passFigures_41 ?_
            refine v_bipush hC dX1_passFigures_42 (by decide) ?_
            refine w_al0 hC dX1_passFigures_44 ?_
            refine v_getI hC dX1_passFigures_45 fd_X1_64 rfl rfl ?_
            rw [h6]
            refine w_imul hC dX1_passFigures_48 (ri_mk (by omega) (by omega)) ?_
            refine w_al0 hC dX1_passFigures_49 ?_
            refine v_getR (off := 1) (j := 34) hC dX1_passFigures_50 fd_X1_9 rfl rfl rfl ?_
            refine w_al0 hC dX1_passFigures_53 ?_
            refine v_getI hC dX1_passFigures_54 fd_X1_23 rfl rfl ?_
            rw [h4]
            refine w_sn2 hC sn_X1_113 dX1_passFigures_57 rfl hN (c_at rfl ?_)
            rw [atV_n w2 (show e < 150 by omega), hT2.1 e (by omega)]
            have hte := hT2.2.2.2 e (by omega)
            refine w_iadd hC dX1_passFigures_60 (ri_mk (by omega) (by omega)) ?_
            refine v_bipush hC dX1_passFigures_61 (by decide) ?_
            refine w_isub hC dX1_passFigures_63 (ri_mk (by omega) (by omega)) ?_
            refine v_putI hC dX1_passFigures_64 fp_X1_64 rfl rfl ?_
            have hnx : 10 * nvF t s (e - s) + t e - 48 = nvF t s (e + 1 - s) := by
              by_cases z : e = s
              · rw [z, show s + 1 - s = 1 by omega, Nat.sub_self]
                show 10 * 0 + t s - 48 = t s - 48
                omega
              · rw [show e - s = 1 by omega, show e + 1 - s = 2 by omega, show e = s + 1 by omega]
                show 10 * (t s - 48) + t (s + 1) - 48 = 10 * (t s - 48) + (t (s + 1) - 48)
                omega
            refine w_al0 hC dX1_passFigures_67 ?_
            refine v_dup hC dX1_passFigures_68 rfl ?_
            refine v_getI hC dX1_passFigures_69 fd_X1_23 rfl rfl ?_
            first | rw [h4] | rw [up_pl _ _ (by decide), h4]
            refine w_ic hC dX1_passFigures_72 rfl ?_
            refine w_iadd hC dX1_passFigures_73 (ri_mk (by omega) (by omega)) ?_
            refine v_putI hC dX1_passFigures_74 fp_X1_23 rfl rfl ?_
            refine v_goto (tgt := 0) hC dX1_passFigures_77 rfl ?_
            first
              | exact ih0 _ (e + 1) (by omega) (by omega) (up_same _ _ _ _) (by rw [← hr]; exact (ruE_1 (by omega) g5).symm) (by rw [up_pl _ _ (by decide), h6]; unfold nvF; rw [if_neg (by omega), if_neg (by omega), if_neg (by omega), if_neg (by omega)]) (fun i k h => by rw [up_ne _ _ (by omega)]; exact g2 i k h)
              | exact ih0 _ (e + 1) (by omega) (by omega) (up_same _ _ _ _) (by rw [← hr]; exact (ruE_1 (by omega) g5).symm) (by rw [up_pl _ _ (by decide), up_same]; exact hnx) (fun i k h => by rw [up_ne _ _ (by omega), up_ne _ _ (by omega)]; exact g2 i k h)
        · refine v_if_eq (tgt := 80) hC dX1_passFigures_25 rfl (fun _ => ?_) (fun h => absurd h (by decide))
          have hE : ruE isFg t len s = e := by
            first
            | (rw [← hr, ruE_0 (fun z => by omega)])
            | (rw [← hr]; exact ruE_0 (fun z => bf_ne g5 z.2))
          refine w_al0 hC dX1_passFigures_80 ?_
          refine v_getI hC dX1_passFigures_81 fd_X1_23 rfl rfl ?_
          rw [h4]
          refine w_al0 hC dX1_passFigures_84 ?_
          refine v_getI hC dX1_passFigures_85 fd_X1_105 rfl rfl ?_
          rw [y3]
          refine w_isub hC dX1_passFigures_88 (ri_mk (by omega) (by omega)) ?_
          refine w_ic hC dX1_passFigures_89 rfl ?_
          refine v_ic_le (tgt := 98) hC dX1_passFigures_90 rfl (fun h90 => ?_) (fun h90 => ?_)
          · refine v_vret hC hR dX1_passFigures_98 ?_
            rw [hE] at hQ
            first
            | exact hQ _ (by rw [up_pl _ _ (by decide)]; exact h4) (by rw [up_pl _ _ (by decide)]; exact h6) (by rw [up_same, if_pos (by omega)]) (fun i k h => by rw [up_ne _ _ (by omega)]; exact g2 i k (by omega))
            | exact hQ w2 h4 h6 (by rw [if_neg (by omega), g2 33 5 (by decide)]; exact hk) (fun i k h => g2 i k (by omega))
          · refine w_al0 hC dX1_passFigures_93 ?_
            refine w_ic hC dX1_passFigures_94 rfl ?_
            refine v_putI hC dX1_passFigures_95 fp_X1_36 rfl rfl ?_
            refine v_vret hC hR dX1_passFigures_98 ?_
            rw [hE] at hQ
            first
            | exact hQ _ (by rw [up_pl _ _ (by decide)]; exact h4) (by rw [up_pl _ _ (by decide)]; exact h6) (by rw [up_same, if_pos (by omega)]) (fun i k h => by rw [up_ne _ _ (by omega)]; exact g2 i k (by omega))
            | exact hQ w2 h4 h6 (by rw [if_neg (by omega), g2 33 5 (by decide)]; exact hk) (fun i k h => g2 i k (by omega))
  exact lp0 (len + 1) w s (by omega) ⟨Nat.le_refl s, hq⟩ he rfl (by rw [hv, Nat.sub_self]; rfl) (fun _ _ _ => rfl)

theorem c_advance {d : Nat} {w : Wd} {Q : Option MV → Wd → Prop} {t : Nat → Int} {len p : Nat} (hT : TX w t len) (hp : p ≤ len) (he : w 33 4 = p) (hQ : ∀ w2, TK w2 t len p → fr33 w w2 → Q none w2) : Call (d + 2) mX1_advance [vR 33] w Q := by
  refine call_in (ls := [some (vR 33), none]) (by decide +kernel) rfl (Nat.le_of_ble_eq_true rfl) (fun κ hC hR hN => ?_)
  have hC : ctxB κ RX1 cX1_advance (d + 2) := hC
  have hN : mlx κ 2 := hN
  have tl40 : ∀ (w2 : Wd) (e : Nat), (e ≤ len) → (w2 33 4 = e) → (ruE isBl t len p = e) → (∀ i k : Nat, ¬ (i = 33 ∧ k = 4) → w2 i k = w i k) → VV κ 40 [some (vR 33), none] [] w2 := by
    intro w2 e hle h4 hE g2
    have hT2 := hT.fr (w2 := w2) (fun k => g2 34 k (by omega)) (g2 33 1 (by decide))
    have y1 := hT2.2.1
    have hl := hT2.2.2.1
    refine w_al0 hC dX1_advance_40 ?_
    refine w_al0 hC dX1_advance_41 ?_
    refine v_getI hC dX1_advance_42 fd_X1_23 rfl rfl ?_
    rw [h4]
    refine v_putI hC dX1_advance_45 fp_X1_105 rfl rfl ?_
    refine w_al0 hC dX1_advance_48 ?_
    refine w_ic hC dX1_advance_49 rfl ?_
    refine v_putI hC dX1_advance_50 fp_X1_64 rfl rfl ?_
    have u3 : up (up w2 33 3 e) 33 6 0 33 3 = e := by rw [up_pl _ _ (by decide), up_same]
    have u1 : up (up w2 33 3 e) 33 6 0 33 1 = len := by rw [up_pl _ _ (by decide), up_pl _ _ (by decide)]; exact y1
    have u4 : up (up w2 33 3 e) 33 6 0 33 4 = e := by rw [up_pl _ _ (by decide), up_pl _ _ (by decide)]; exact h4
    have u34 : ∀ k, up (up w2 33 3 e) 33 6 0 34 k = w2 34 k := fun k => by rw [up_id _ _ (by decide), up_id _ _ (by decide)]
    have uf : ∀ i k : Nat, ¬ (i = 33 ∧ 3 ≤ k ∧ k ≤ 6) → up (up w2 33 3 e) 33 6 0 i k = w i k := fun i k h => by rw [up_ne _ _ (by omega), up_ne _ _ (by omega)]; exact g2 i k (by omega)
    have u6 : up (up w2 33 3 e) 33 6 0 33 6 = 0 := up_same _ _ _ _
    have hS : tkS t len p = e := hE
    generalize up (up w2 33 3 e) 33 6 0 = w4 at u3 u1 u4 u34 uf u6 ⊢
    have hT4 : TX w4 t len := hT2.fr u34 (by rw [u1, y1])
    refine w_al0 hC dX1_advance_53 ?_
    refine v_getI hC dX1_advance_54 fd_X1_105 rfl rfl ?_
    rw [u3]
    refine w_al0 hC dX1_advance_57 ?_
    refine v_getI hC dX1_advance_58 fd_X1_15 rfl rfl ?_
    rw [u1]
    refine v_ic_lt (tgt := 70) hC dX1_advance_61 rfl (fun h61 => ?_) (fun h61 => ?_)
    · refine w_al0 hC dX1_advance_70 ?_
      refine v_getR (off := 1) (j := 34) hC dX1_advance_71 fd_X1_9 rfl rfl rfl ?_
      refine w_al0 hC dX1_advance_74 ?_
      refine v_getI hC dX1_advance_75 fd_X1_105 rfl rfl ?_
      rw [u3]
      refine w_sn2 hC sn_X1_113 dX1_advance_78 rfl hN (c_at rfl ?_)
      rw [atV_n w4 (show e < 150 by omega), hT4.1 e (by omega)]
      have hne : tkS t len p ≠ len := by omega
      refine w_is1 hC dX1_advance_81 hN (by first | rfl | assumption) ?_
      refine w_il1 hC dX1_advance_82 ?_
      refine w_st1 hC st_X1_121 dX1_advance_83 rfl hN (c_isLetter (fun g5 => ?_) (fun g5 => ?_))
      · refine v_if_eq (tgt := 101) hC dX1_advance_86 rfl (fun h => absurd h (by decide)) (fun _ => ?_)
        refine w_al0 hC dX1_advance_89 ?_
        refine w_ic hC dX1_advance_90 rfl ?_
        refine v_putI hC dX1_advance_91 fp_X1_36 rfl rfl ?_
        refine w_al0 hC dX1_advance_94 ?_
        refine w_vi0 hC vi_X1_124 rfl dX1_advance_95 rfl hN (c_passLetters (t := t) (len := len) (q := e) (hT4.fr (fun k => up_id _ _ (by decide)) (up_pl _ _ (by decide))) hle (by rw [up_pl _ _ (by decide)]; exact u4) (fun w5 e5 o5 => ?_))
        refine v_goto (tgt := 145) hC dX1_advance_98 rfl ?_
        refine v_vret hC hR dX1_advance_145 ?_
        first
          | (obtain ⟨z1, z2, z3, z4⟩ := tk_let hne (by rw [hS]; exact g5)
             exact hQ w5 ⟨by rw [o5 33 3 (by decide), up_pl _ _ (by decide), u3, hS], by rw [e5, z2, hS], by rw [o5 33 5 (by decide), up_same, z3], by rw [o5 33 6 (by decide), up_pl _ _ (by decide), u6, z4]⟩ (fun i k h => by rw [o5 i k (by omega), up_ne _ _ (by omega)]; exact uf i k h))
          | (obtain ⟨z1, z2, z3, z4⟩ := tk_fig hne (by rw [hS]; exact g5) (by rw [hS]; exact g6)
             exact hQ w5 ⟨by rw [o5 33 3 (by decide), up_pl _ _ (by decide), u3, hS], by rw [e5, z2, hS], by rw [k5, z3, z2, hS], by rw [v5, z4, z2, hS]⟩ (fun i k h => by rw [o5 i k (by omega), up_ne _ _ (by omega)]; exact uf i k h))
          | (obtain ⟨z2, z3, z4⟩ := tk_oth hne (by rw [hS]; exact g5) (by rw [hS]; exact g6)
             exact hQ _ ⟨by rw [up_pl _ _ (by decide), up_pl _ _ (by decide), u3, hS], by rw [up_same, z2, hS]; rfl, by rw [up_pl _ _ (by decide), up_same, z3, hS]; first | exact (if_pos (by omega)).symm | exact (if_neg (by omega)).symm, by rw [up_pl _ _ (by decide), up_pl _ _ (by decide), u6, z4]⟩ (fun i k h => by rw [up_ne _ _ (by omega), up_ne _ _ (by omega)]; exact uf i k h))
      · refine v_if_eq (tgt := 101) hC dX1_advance_86 rfl (fun _ => ?_) (fun h => absurd h (by decide))
        refine w_il1 hC dX1_advance_101 ?_
        refine w_st1 hC st_X1_127 dX1_advance_102 rfl hN (c_isFigure (fun g6 => ?_) (fun g6 => ?_))
        · refine v_if_eq (tgt := 120) hC dX1_advance_105 rfl (fun h => absurd h (by decide)) (fun _ => ?_)
          refine w_al0 hC dX1_advance_108 ?_
          refine w_ic hC dX1_advance_109 rfl ?_
          refine v_putI hC dX1_advance_110 fp_X1_36 rfl rfl ?_
          refine w_al0 hC dX1_advance_113 ?_
          refine w_vi0 hC vi_X1_130 rfl dX1_advance_114 rfl hN (c_passFigures (t := t) (len := len) (s := e) (hT4.fr (fun k => up_id _ _ (by decide)) (up_pl _ _ (by decide))) hle (by rw [up_pl _ _ (by decide)]; exact u3) (by rw [up_pl _ _ (by decide)]; exact u4) (by rw [up_pl _ _ (by decide)]; exact u6) (up_same _ _ _ _) (fun w5 e5 v5 k5 o5 => ?_))
          refine v_goto (tgt := 145) hC dX1_advance_117 rfl ?_
          refine v_vret hC hR dX1_advance_145 ?_
          first
            | (obtain ⟨z1, z2, z3, z4⟩ := tk_let hne (by rw [hS]; exact g5)
               exact hQ w5 ⟨by rw [o5 33 3 (by decide), up_pl _ _ (by decide), u3, hS], by rw [e5, z2, hS], by rw [o5 33 5 (by decide), up_same, z3], by rw [o5 33 6 (by decide), up_pl _ _ (by decide), u6, z4]⟩ (fun i k h => by rw [o5 i k (by omega), up_ne _ _ (by omega)]; exact uf i k h))
            | (obtain ⟨z1, z2, z3, z4⟩ := tk_fig hne (by rw [hS]; exact g5) (by rw [hS]; exact g6)
               exact hQ w5 ⟨by rw [o5 33 3 (by decide), up_pl _ _ (by decide), u3, hS], by rw [e5, z2, hS], by rw [k5, z3, z2, hS], by rw [v5, z4, z2, hS]⟩ (fun i k h => by rw [o5 i k (by omega), up_ne _ _ (by omega)]; exact uf i k h))
            | (obtain ⟨z2, z3, z4⟩ := tk_oth hne (by rw [hS]; exact g5) (by rw [hS]; exact g6)
               exact hQ _ ⟨by rw [up_pl _ _ (by decide), up_pl _ _ (by decide), u3, hS], by rw [up_same, z2, hS]; rfl, by rw [up_pl _ _ (by decide), up_same, z3, hS]; first | exact (if_pos (by omega)).symm | exact (if_neg (by omega)).symm, by rw [up_pl _ _ (by decide), up_pl _ _ (by decide), u6, z4]⟩ (fun i k h => by rw [up_ne _ _ (by omega), up_ne _ _ (by omega)]; exact uf i k h))
        · refine v_if_eq (tgt := 120) hC dX1_advance_105 rfl (fun _ => ?_) (fun h => absurd h (by decide))
          refine w_al0 hC dX1_advance_120 ?_
          refine w_il1 hC dX1_advance_121 ?_
          refine v_bipush hC dX1_advance_122 (by decide) ?_
          refine v_ic_ne (tgt := 131) hC dX1_advance_124 rfl (fun h124 => ?_) (fun h124 => ?_)
          · refine w_ic hC dX1_advance_131 rfl ?_
            refine v_putI hC dX1_advance_132 fp_X1_36 rfl rfl ?_
            refine w_al0 hC dX1_advance_135 ?_
            refine v_dup hC dX1_advance_136 rfl ?_
            refine v_getI hC dX1_advance_137 fd_X1_23 rfl rfl ?_
            rw [up_pl _ _ (by decide), u4]
            refine w_ic hC dX1_advance_140 rfl ?_
            refine w_iadd hC dX1_advance_141 (ri_mk (by omega) (by omega)) ?_
            refine v_putI hC dX1_advance_142 fp_X1_23 rfl rfl ?_
            refine v_vret hC hR dX1_advance_145 ?_
            first
              | (obtain ⟨z1, z2, z3, z4⟩ := tk_let hne (by rw [hS]; exact g5)
                 exact hQ w5 ⟨by rw [o5 33 3 (by decide), up_pl _ _ (by decide), u3, hS], by rw [e5, z2, hS], by rw [o5 33 5 (by decide), up_same, z3], by rw [o5 33 6 (by decide), up_pl _ _ (by decide), u6, z4]⟩ (fun i k h => by rw [o5 i k (by omega), up_ne _ _ (by omega)]; exact uf i k h))
              | (obtain ⟨z1, z2, z3, z4⟩ := tk_fig hne (by rw [hS]; exact g5) (by rw [hS]; exact g6)
                 exact hQ w5 ⟨by rw [o5 33 3 (by decide), up_pl _ _ (by decide), u3, hS], by rw [e5, z2, hS], by rw [k5, z3, z2, hS], by rw [v5, z4, z2, hS]⟩ (fun i k h => by rw [o5 i k (by omega), up_ne _ _ (by omega)]; exact uf i k h))
              | (obtain ⟨z2, z3, z4⟩ := tk_oth hne (by rw [hS]; exact g5) (by rw [hS]; exact g6)
                 exact hQ _ ⟨by rw [up_pl _ _ (by decide), up_pl _ _ (by decide), u3, hS], by rw [up_same, z2, hS]; rfl, by rw [up_pl _ _ (by decide), up_same, z3, hS]; first | exact (if_pos (by omega)).symm | exact (if_neg (by omega)).symm, by rw [up_pl _ _ (by decide), up_pl _ _ (by decide), u6, z4]⟩ (fun i k h => by rw [up_ne _ _ (by omega), up_ne _ _ (by omega)]; exact uf i k h))
          · refine w_ic hC dX1_advance_127 rfl ?_
            refine v_goto (tgt := 132) hC dX1_advance_128 rfl ?_
            refine v_putI hC dX1_advance_132 fp_X1_36 rfl rfl ?_
            refine w_al0 hC dX1_advance_135 ?_
            refine v_dup hC dX1_advance_136 rfl ?_
            refine v_getI hC dX1_advance_137 fd_X1_23 rfl rfl ?_
            rw [up_pl _ _ (by decide), u4]
            refine w_ic hC dX1_advance_140 rfl ?_
            refine w_iadd hC dX1_advance_141 (ri_mk (by omega) (by omega)) ?_
            refine v_putI hC dX1_advance_142 fp_X1_23 rfl rfl ?_
            refine v_vret hC hR dX1_advance_145 ?_
            first
              | (obtain ⟨z1, z2, z3, z4⟩ := tk_let hne (by rw [hS]; exact g5)
                 exact hQ w5 ⟨by rw [o5 33 3 (by decide), up_pl _ _ (by decide), u3, hS], by rw [e5, z2, hS], by rw [o5 33 5 (by decide), up_same, z3], by rw [o5 33 6 (by decide), up_pl _ _ (by decide), u6, z4]⟩ (fun i k h => by rw [o5 i k (by omega), up_ne _ _ (by omega)]; exact uf i k h))
              | (obtain ⟨z1, z2, z3, z4⟩ := tk_fig hne (by rw [hS]; exact g5) (by rw [hS]; exact g6)
                 exact hQ w5 ⟨by rw [o5 33 3 (by decide), up_pl _ _ (by decide), u3, hS], by rw [e5, z2, hS], by rw [k5, z3, z2, hS], by rw [v5, z4, z2, hS]⟩ (fun i k h => by rw [o5 i k (by omega), up_ne _ _ (by omega)]; exact uf i k h))
              | (obtain ⟨z2, z3, z4⟩ := tk_oth hne (by rw [hS]; exact g5) (by rw [hS]; exact g6)
                 exact hQ _ ⟨by rw [up_pl _ _ (by decide), up_pl _ _ (by decide), u3, hS], by rw [up_same, z2, hS]; rfl, by rw [up_pl _ _ (by decide), up_same, z3, hS]; first | exact (if_pos (by omega)).symm | exact (if_neg (by omega)).symm, by rw [up_pl _ _ (by decide), up_pl _ _ (by decide), u6, z4]⟩ (fun i k h => by rw [up_ne _ _ (by omega), up_ne _ _ (by omega)]; exact uf i k h))
    · refine w_al0 hC dX1_advance_64 ?_
      refine w_ic hC dX1_advance_65 rfl ?_
      refine v_putI hC dX1_advance_66 fp_X1_36 rfl rfl ?_
      refine v_vret hC hR dX1_advance_69 ?_
      have hel : e = len := by omega
      obtain ⟨z1, z2, z3, z4⟩ := tk_end (t := t) (p := p) (hS.trans hel)
      exact hQ _ ⟨by rw [up_pl _ _ (by decide), u3, hS], by rw [up_pl _ _ (by decide), u4, z2, hel], by rw [up_same, z3], by rw [up_pl _ _ (by decide), u6, z4]⟩ (fun i k h => by rw [up_ne _ _ (by omega)]; exact uf i k h)
  refine w_dr1 ?_
  have lp0 : ∀ (K : Nat) (w2 : Wd) (e : Nat), (len - e) < K → (e ≤ len) → (w2 33 4 = e) → (ruE isBl t len e = ruE isBl t len p) → (∀ i k : Nat, ¬ (i = 33 ∧ k = 4) → w2 i k = w i k) → VV κ 0 [some (vR 33), none] [] w2 := by
    intro K
    induction K with
    | zero => intros; omega
    | succ K ih0 =>
      intro w2 e hm0 hle h4 hr g2
      have hT2 := hT.fr (w2 := w2) (fun k => g2 34 k (by omega)) (g2 33 1 (by decide))
      have y1 := hT2.2.1
      have hl := hT2.2.2.1
      refine w_al0 hC dX1_advance_0 ?_
      refine v_getI hC dX1_advance_1 fd_X1_23 rfl rfl ?_
      rw [h4]
      refine w_al0 hC dX1_advance_4 ?_
      refine v_getI hC dX1_advance_5 fd_X1_15 rfl rfl ?_
      rw [y1]
      refine v_ic_ge (tgt := 40) hC dX1_advance_8 rfl (fun h8 => ?_) (fun h8 => ?_)
      · first | exact tl40 w2 e hle h4 (by rw [← hr]; exact ruE_0 (fun z => by omega)) g2 | exact tl40 w2 e hle h4 (by rw [← hr]; exact ruE_0 (fun z => absurd (of_decide_eq_true z.2) (by omega))) g2
      · refine w_al0 hC dX1_advance_11 ?_
        refine v_getR (off := 1) (j := 34) hC dX1_advance_12 fd_X1_9 rfl rfl rfl ?_
        refine w_al0 hC dX1_advance_15 ?_
        refine v_getI hC dX1_advance_16 fd_X1_23 rfl rfl ?_
        rw [h4]
        refine w_sn2 hC sn_X1_113 dX1_advance_19 rfl hN (c_at rfl ?_)
        rw [atV_n w2 (show e < 150 by omega), hT2.1 e (by omega)]
        refine v_bipush hC dX1_advance_22 (by decide) ?_
        refine v_ic_ne (tgt := 40) hC dX1_advance_24 rfl (fun h24 => ?_) (fun h24 => ?_)
        · first | exact tl40 w2 e hle h4 (by rw [← hr]; exact ruE_0 (fun z => by omega)) g2 | exact tl40 w2 e hle h4 (by rw [← hr]; exact ruE_0 (fun z => absurd (of_decide_eq_true z.2) (by omega))) g2
        · refine w_al0 hC dX1_advance_27 ?_
          refine v_dup hC dX1_advance_28 rfl ?_
          refine v_getI hC dX1_advance_29 fd_X1_23 rfl rfl ?_
          rw [h4]
          refine w_ic hC dX1_advance_32 rfl ?_
          refine w_iadd hC dX1_advance_33 (ri_mk (by omega) (by omega)) ?_
          refine v_putI hC dX1_advance_34 fp_X1_23 rfl rfl ?_
          refine v_goto (tgt := 0) hC dX1_advance_37 rfl ?_
          refine w_dr1 ?_
          exact ih0 _ (e + 1) (by omega) (by omega) (up_same _ _ _ _) (by rw [← hr]; exact (ruE_1 (by omega) (decide_eq_true (by omega))).symm) (fun i k h => by rw [up_ne _ _ h]; exact g2 i k h)
  exact lp0 (len + 1) w p (by omega) hp he rfl (fun _ _ _ => rfl)

theorem c_advanceToNumber {d : Nat} {w : Wd} {Q : Option MV → Wd → Prop} {t : Nat → Int} {len p : Nat} {z : Int} (hT : TX w t len) (hp : p ≤ len) (he : w 33 4 = p) (ht : ∀ w2, tkK t len p = 2 ∧ tkV t len p < z → TK w2 t len p → fr33 w w2 → Q (some (.inl 1)) w2) (hf : ∀ w2, ¬ (tkK t len p = 2 ∧ tkV t len p < z) → TK w2 t len p → fr33 w w2 → Q (some (.inl 0)) w2) : Call (d + 3) mX1_advanceToNumber [vR 33, vI z] w Q := by
  refine call_in (ls := [some (vR 33), some (vI z)]) (by decide +kernel) rfl (Nat.le_of_ble_eq_true rfl) (fun κ hC hR hN => ?_)
  have hC : ctxB κ RX1 cX1_advanceToNumber (d + 3) := hC
  have hN : mlx κ 2 := hN
  refine w_al0 hC dX1_advanceToNumber_0 ?_
  refine w_vi0 hC vi_X1_29 rfl dX1_advanceToNumber_1 rfl hN (c_advance hT hp he (fun w2 k2 o2 => ?_))
  refine w_al0 hC dX1_advanceToNumber_4 ?_
  refine v_getI hC dX1_advanceToNumber_5 fd_X1_36 rfl rfl ?_
  rw [k2.2.2.1]
  refine w_ic hC dX1_advanceToNumber_8 rfl ?_
  refine v_ic_ne (tgt := 24) hC dX1_advanceToNumber_9 rfl (fun h9 => ?_) (fun h9 => ?_)
  · refine w_ic hC dX1_advanceToNumber_24 rfl ?_
    refine v_zret hC hR dX1_advanceToNumber_25 (by first | decide | omega) ?_
    first | exact hf w2 (by omega) k2 o2 | exact ht w2 (by omega) k2 o2
  · refine w_al0 hC dX1_advanceToNumber_12 ?_
    refine v_getI hC dX1_advanceToNumber_13 fd_X1_64 rfl rfl ?_
    rw [k2.2.2.2]
    refine w_il1 hC dX1_advanceToNumber_16 ?_
    refine v_ic_ge (tgt := 24) hC dX1_advanceToNumber_17 rfl (fun h17 => ?_) (fun h17 => ?_)
    · refine w_ic hC dX1_advanceToNumber_24 rfl ?_
      refine v_zret hC hR dX1_advanceToNumber_25 (by first | decide | omega) ?_
      first | exact hf w2 (by omega) k2 o2 | exact ht w2 (by omega) k2 o2
    · refine w_ic hC dX1_advanceToNumber_20 rfl ?_
      refine v_goto (tgt := 25) hC dX1_advanceToNumber_21 rfl ?_
      refine v_zret hC hR dX1_advanceToNumber_25 (by first | decide | omega) ?_
      first | exact hf w2 (by omega) k2 o2 | exact ht w2 (by omega) k2 o2
