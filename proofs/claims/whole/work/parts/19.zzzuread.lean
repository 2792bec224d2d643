/-! a reading, as a function of the bytes -/
def nmb (t : Nat → Int) (len p i : Nat) : Bool := decide (tkK t len p = 1) && decide (tkE t len p - tkS t len p = lnS4 i) && decide (∀ k, k < lnS4 i → t (tkS t len p + k) = chS i k)
theorem nmb_t {t : Nat → Int} {len p i : Nat} (h1 : tkK t len p = 1) (h2 : tkE t len p - tkS t len p = lnS4 i) (h3 : ∀ k, k < lnS4 i → t (tkS t len p + k) = chS i k) : nmb t len p i = true := by
  unfold nmb
  rw [decide_eq_true h1, decide_eq_true h2, decide_eq_true h3]
  rfl
theorem nmb_1 {t : Nat → Int} {len p i : Nat} (h1 : ¬ tkK t len p = 1) : nmb t len p i = false := by unfold nmb; rw [decide_eq_false h1]; rfl
theorem nmb_2 {t : Nat → Int} {len p i : Nat} (h2 : ¬ tkE t len p - tkS t len p = lnS4 i) : nmb t len p i = false := by unfold nmb; rw [decide_eq_false h2, Bool.and_false]; rfl
theorem nmb_3 {t : Nat → Int} {len p i k : Nat} (hk : k < lnS4 i) (h3 : ¬ t (tkS t len p + k) = chS i k) : nmb t len p i = false := by unfold nmb; rw [decide_eq_false (p := ∀ k, k < lnS4 i → t (tkS t len p + k) = chS i k) (fun z => h3 (z k hk)), Bool.and_false]
theorem nmb_k {t : Nat → Int} {len p i : Nat} (h : nmb t len p i = true) : tkK t len p = 1 ∧ tkE t len p - tkS t len p = lnS4 i ∧ ∀ k, k < lnS4 i → t (tkS t len p + k) = chS i k := by
  unfold nmb at h
  rw [Bool.and_eq_true, Bool.and_eq_true] at h
  exact ⟨of_decide_eq_true h.1.1, of_decide_eq_true h.1.2, of_decide_eq_true h.2⟩
/-- letters: how many, their code, the token behind them -/
def ltF (t : Nat → Int) (len : Nat) : Nat → Nat → Nat → Int → Nat × Int × Nat
  | 0, p, n, c => (n, c, p)
  | r + 1, p, n, c => if tkK t len p = 2 ∧ tkV t len p ≤ 9 then ltF t len r (tkE t len p) (n + 1) (10 * c + tkV t len p) else (n, c, p)
theorem ltF_1 {t : Nat → Int} {len r p n : Nat} {c : Int} (h : tkK t len p = 2 ∧ tkV t len p ≤ 9) : ltF t len (r + 1) p n c = ltF t len r (tkE t len p) (n + 1) (10 * c + tkV t len p) := if_pos h
theorem ltF_0 {t : Nat → Int} {len r p n : Nat} {c : Int} (h : ¬ (tkK t len p = 2 ∧ tkV t len p ≤ 9)) : ltF t len (r + 1) p n c = (n, c, p) := if_neg h
theorem ltF_r {t : Nat → Int} {len : Nat} (r : Nat) : ∀ (p n : Nat) (c : Int), p ≤ len → 0 ≤ c ∧ c < 10 ^ n → (n ≤ (ltF t len r p n c).1 ∧ (ltF t len r p n c).1 ≤ n + r) ∧ (0 ≤ (ltF t len r p n c).2.1 ∧ (ltF t len r p n c).2.1 < 10 ^ (ltF t len r p n c).1) ∧ p ≤ (ltF t len r p n c).2.2 ∧ (ltF t len r p n c).2.2 ≤ len := by
  induction r with
  | zero => intro p n c hp hc; exact ⟨⟨Nat.le_refl _, Nat.le_refl _⟩, hc, Nat.le_refl _, hp⟩
  | succ r ih =>
    intro p n c hp hc
    by_cases h : tkK t len p = 2 ∧ tkV t len p ≤ 9
    · rw [ltF_1 h]
      have he := tkE_r (t := t) hp
      have hs := tkS_r (t := t) hp
      have hv := tkV_r hp h.1
      have := ih (tkE t len p) (n + 1) (10 * c + tkV t len p) he.2 (by rw [Int.pow_succ]; omega)
      exact ⟨⟨by omega, by omega⟩, this.2.1, by omega, this.2.2.2⟩
    · rw [ltF_0 h]
      exact ⟨⟨Nat.le_refl _, by show n ≤ n + (r + 1); omega⟩, hc, Nat.le_refl _, hp⟩
def leN (t : Nat → Int) (len p : Nat) : Nat := (ltF t len 6 p 0 0).1
def leC (t : Nat → Int) (len p : Nat) : Int := (ltF t len 6 p 0 0).2.1
def leP (t : Nat → Int) (len p : Nat) : Nat := (ltF t len 6 p 0 0).2.2
theorem lt_all {t : Nat → Int} {len p : Nat} (hp : p ≤ len) : leN t len p ≤ 6 ∧ (0 ≤ leC t len p ∧ leC t len p < 10 ^ leN t len p) ∧ p ≤ leP t len p ∧ leP t len p ≤ len := by
  have h := ltF_r (t := t) 6 p 0 0 hp ⟨by decide, by decide⟩
  exact ⟨by have := h.1.2; unfold leN; omega, h.2⟩
def knb (a : Nat → Int) (n c : Int) : Bool := (List.range (a 3).toNat).any (fun k => decide (a (12 + k) = n) && decide (a (20 + k) = c))
theorem knb_iff {a : Nat → Int} {n c : Int} : knb a n c = true ↔ knB a n c := by
  unfold knb knB
  rw [List.any_eq_true]
  constructor
  · rintro ⟨k, h1, h2⟩
    rw [Bool.and_eq_true] at h2
    exact ⟨k, by have := List.mem_range.mp h1; omega, of_decide_eq_true h2.1, of_decide_eq_true h2.2⟩
  · rintro ⟨k, h1, h2, h3⟩
    exact ⟨k, List.mem_range.mpr (by omega), by rw [decide_eq_true h2, decide_eq_true h3]; rfl⟩
abbrev ItR : Type := Bool × Nat × (Nat → Int)
def nBy (t : Nat → Int) (len q : Nat) (z : Int) : Prop := tkK t len q = 2 ∧ tkV t len q < z
def itV (t : Nat → Int) (len q : Nat) (a : Nat → Int) : ItR := if nmb t len q 0 = false then (false, q, a) else if ¬ (tkK t len (tkE t len q) = 2 ∧ tkV t len (tkE t len q) < 6) then (false, tkE t len q, a) else if tkK t len (leP t len (tkE t len (tkE t len q))) = 3 ∧ 1 ≤ leN t len (tkE t len (tkE t len q)) then (true, leP t len (tkE t len (tkE t len q)), sBegin (tkV t len (tkE t len q)) (leN t len (tkE t len (tkE t len q))) (leC t len (tkE t len (tkE t len q)))) else (false, leP t len (tkE t len (tkE t len q)), a)
def itW (t : Nat → Int) (len q : Nat) (a : Nat → Int) : ItR := if 8 ≤ a 3 then (false, q, a) else if ¬ (tkK t len (tkE t len q) = 2 ∧ tkV t len (tkE t len q) < 6) then (false, tkE t len q, a) else if tkK t len (leP t len (tkE t len (tkE t len q))) = 3 ∧ 3 ≤ leN t len (tkE t len (tkE t len q)) ∧ knb a (leN t len (tkE t len (tkE t len q))) (leC t len (tkE t len (tkE t len q))) = false then (true, leP t len (tkE t len (tkE t len q)), sAddW a (tkV t len (tkE t len q)) (leN t len (tkE t len (tkE t len q))) (leC t len (tkE t len (tkE t len q)))) else (false, leP t len (tkE t len (tkE t len q)), a)
def itP (t : Nat → Int) (len q : Nat) (a : Nat → Int) : ItR := if ¬ ((tkK t len (tkE t len q) = 2 ∧ tkV t len (tkE t len q) < a 1) ∧ wOn a (tkV t len (tkE t len q)) = -1) then (false, tkE t len q, a) else if ¬ ((tkK t len (tkE t len (tkE t len q)) = 2 ∧ tkV t len (tkE t len (tkE t len q)) < a 3) ∧ lnOf a (tkV t len (tkE t len (tkE t len q))) = -1) then (false, tkE t len (tkE t len q), a) else (decide (tkK t len (tkE t len (tkE t len (tkE t len q))) = 3), tkE t len (tkE t len (tkE t len q)), ua a (28 + (tkV t len (tkE t len q)).toNat) (tkV t len (tkE t len (tkE t len q))))
def itT (t : Nat → Int) (len q : Nat) (a : Nat → Int) : ItR := if ¬ ((tkK t len (tkE t len q) = 2 ∧ tkV t len (tkE t len q) < a 1) ∧ wOn a (tkV t len (tkE t len q)) ≠ -1) then (false, tkE t len q, a) else (decide (tkK t len (tkE t len (tkE t len q)) = 3), tkE t len (tkE t len q), ua a (28 + (tkV t len (tkE t len q)).toNat) (-1))
def itI (t : Nat → Int) (len q : Nat) (a : Nat → Int) : ItR := if nmb t len q 1 = true then itW t len q a else if nmb t len q 2 = true then itP t len q a else if nmb t len q 3 = true then itT t len q a else (false, q, a)
def rdF (t : Nat → Int) (len : Nat) : Nat → Nat → Nat → (Nat → Int) → Bool × Nat × Nat × (Nat → Int)
  | 0, i, q, a => (false, i, q, a)
  | f + 1, i, q, a => if tkK t len q = 0 then (true, i, q, a) else if (itI t len q a).1 = true then rdF t len f (i + 1) (tkE t len (itI t len q a).2.1) (itI t len q a).2.2 else (false, i, (itI t len q a).2.1, (itI t len q a).2.2)
def rd0 (t : Nat → Int) (len : Nat) (a : Nat → Int) : Bool × Nat × Nat × (Nat → Int) := if (itV t len 0 a).1 = true then rdF t len 150 1 (tkE t len (itV t len 0 a).2.1) (itV t len 0 a).2.2 else (false, 0, (itV t len 0 a).2.1, (itV t len 0 a).2.2)
/-- where an item stops -/
theorem te_r {t : Nat → Int} {len q : Nat} (h : q ≤ len) : q ≤ tkE t len q ∧ tkE t len q ≤ len := by
  have h1 := tkS_r (t := t) h
  have h2 := tkE_r (t := t) h
  omega
def itOK (t : Nat → Int) (len q : Nat) (r : ItR) : Prop := (q ≤ r.2.1 ∧ r.2.1 ≤ len) ∧ (r.1 = true → tkK t len r.2.1 = 3 ∧ AOK r.2.2)
theorem itV_ok {t : Nat → Int} {len q : Nat} {a : Nat → Int} (hq : q ≤ len) : itOK t len q (itV t len q a) := by
  have h1 := te_r (t := t) hq
  have h2 := te_r (t := t) h1.2
  have h3 := lt_all (t := t) h2.2
  unfold itV
  by_cases c1 : nmb t len q 0 = false
  · rw [if_pos c1]; exact ⟨⟨Nat.le_refl _, hq⟩, fun z => Bool.noConfusion z⟩
  · rw [if_neg c1]
    by_cases c2 : tkK t len (tkE t len q) = 2 ∧ tkV t len (tkE t len q) < 6
    · rw [if_neg (fun z => z c2)]
      by_cases c3 : tkK t len (leP t len (tkE t len (tkE t len q))) = 3 ∧ 1 ≤ leN t len (tkE t len (tkE t len q))
      · rw [if_pos c3]
        have hv := tkV_r h1.2 c2.1
        exact ⟨⟨by show q ≤ leP _ _ _; omega, h3.2.2.2⟩, fun _ => ⟨c3.1, ok_begin ⟨hv.1, by omega⟩ ⟨by omega, by omega⟩ h3.2.1⟩⟩
      · rw [if_neg c3]; exact ⟨⟨by show q ≤ leP _ _ _; omega, h3.2.2.2⟩, fun z => Bool.noConfusion z⟩
    · rw [if_pos c2]; exact ⟨h1, fun z => Bool.noConfusion z⟩
theorem itW_ok {t : Nat → Int} {len q : Nat} {a : Nat → Int} (hA : AOK a) (hq : q ≤ len) : itOK t len q (itW t len q a) := by
  have h1 := te_r (t := t) hq
  have h2 := te_r (t := t) h1.2
  have h3 := lt_all (t := t) h2.2
  unfold itW
  by_cases c1 : 8 ≤ a 3
  · rw [if_pos c1]; exact ⟨⟨Nat.le_refl _, hq⟩, fun z => Bool.noConfusion z⟩
  · rw [if_neg c1]
    by_cases c2 : tkK t len (tkE t len q) = 2 ∧ tkV t len (tkE t len q) < 6
    · rw [if_neg (fun z => z c2)]
      by_cases c3 : tkK t len (leP t len (tkE t len (tkE t len q))) = 3 ∧ 3 ≤ leN t len (tkE t len (tkE t len q)) ∧ knb a (leN t len (tkE t len (tkE t len q))) (leC t len (tkE t len (tkE t len q))) = false
      · rw [if_pos c3]
        have hv := tkV_r h1.2 c2.1
        exact ⟨⟨by show q ≤ leP _ _ _; omega, h3.2.2.2⟩, fun _ => ⟨c3.1, ok_addW hA (by omega) ⟨hv.1, by omega⟩ ⟨by omega, by omega⟩ h3.2.1⟩⟩
      · rw [if_neg c3]; exact ⟨⟨by show q ≤ leP _ _ _; omega, h3.2.2.2⟩, fun z => Bool.noConfusion z⟩
    · rw [if_pos c2]; exact ⟨h1, fun z => Bool.noConfusion z⟩
theorem itP_ok {t : Nat → Int} {len q : Nat} {a : Nat → Int} (hA : AOK a) (hq : q ≤ len) : itOK t len q (itP t len q a) := by
  have h1 := te_r (t := t) hq
  have h2 := te_r (t := t) h1.2
  have h3 := te_r (t := t) h2.2
  unfold itP
  by_cases c1 : (tkK t len (tkE t len q) = 2 ∧ tkV t len (tkE t len q) < a 1) ∧ wOn a (tkV t len (tkE t len q)) = -1
  · rw [if_neg (fun z => z c1)]
    by_cases c2 : (tkK t len (tkE t len (tkE t len q)) = 2 ∧ tkV t len (tkE t len (tkE t len q)) < a 3) ∧ lnOf a (tkV t len (tkE t len (tkE t len q))) = -1
    · rw [if_neg (fun z => z c2)]
      have hv := tkV_r h1.2 c1.1.1
      have hv2 := tkV_r h2.2 c2.1.1
      exact ⟨⟨by show q ≤ tkE _ _ _; omega, h3.2⟩, fun z => ⟨of_decide_eq_true z, ok_line hA (by omega) (Or.inr ⟨hv2.1, c2.1.2, fun i hi _ => ln_free hA hv2.1 c2.2 i hi⟩)⟩⟩
    · rw [if_pos c2]; exact ⟨⟨by show q ≤ tkE _ _ _; omega, h2.2⟩, fun z => Bool.noConfusion z⟩
  · rw [if_pos c1]; exact ⟨h1, fun z => Bool.noConfusion z⟩
theorem itT_ok {t : Nat → Int} {len q : Nat} {a : Nat → Int} (hA : AOK a) (hq : q ≤ len) : itOK t len q (itT t len q a) := by
  have h1 := te_r (t := t) hq
  have h2 := te_r (t := t) h1.2
  unfold itT
  by_cases c1 : (tkK t len (tkE t len q) = 2 ∧ tkV t len (tkE t len q) < a 1) ∧ wOn a (tkV t len (tkE t len q)) ≠ -1
  · rw [if_neg (fun z => z c1)]
    have hv := tkV_r h1.2 c1.1.1
    exact ⟨⟨by show q ≤ tkE _ _ _; omega, h2.2⟩, fun z => ⟨of_decide_eq_true z, ok_line hA (by omega) (Or.inl rfl)⟩⟩
  · rw [if_pos c1]; exact ⟨h1, fun z => Bool.noConfusion z⟩
theorem itI_ok {t : Nat → Int} {len q : Nat} {a : Nat → Int} (hA : AOK a) (hq : q ≤ len) : itOK t len q (itI t len q a) := by
  unfold itI
  split
  next => exact itW_ok hA hq
  next =>
    split
    next => exact itP_ok hA hq
    next =>
      split
      next => exact itT_ok hA hq
      next => exact ⟨⟨Nat.le_refl _, hq⟩, fun z => Bool.noConfusion z⟩
theorem it_step {t : Nat → Int} {len q : Nat} {r : ItR} (h : itOK t len q r) (hr : r.1 = true) : q + 1 ≤ tkE t len r.2.1 ∧ tkE t len r.2.1 ≤ len := by
  have h1 := tkE_gt (t := t) h.1.2 (by rw [(h.2 hr).1]; decide)
  have h2 := te_r (t := t) h.1.2
  have h0 : q ≤ r.2.1 ∧ r.2.1 ≤ len := h.1
  omega
def frT (w w2 : Wd) : Prop := ∀ i k : Nat, ¬ (9 ≤ i ∧ i ≤ 16) → ¬ (i = 33 ∧ 3 ≤ k) → w2 i k = w i k
def frR (w w2 : Wd) : Prop := ∀ i k : Nat, ¬ (9 ≤ i ∧ i ≤ 16) → ¬ (i = 33 ∧ 2 ≤ k) → w2 i k = w i k
theorem frR.t {w w2 w3 : Wd} (h : frR w w2) (h2 : frT w2 w3) : frR w w3 := fun i k p q => by rw [h2 i k p (by omega)]; exact h i k p q
theorem frT.of {w w2 : Wd} (h : fr33 w w2) : frT w w2 := fun i k _ h2 => h i k (by omega)
theorem frT.tr {w w2 w3 : Wd} (h : frT w w2) (h2 : frT w2 w3) : frT w w3 := fun i k p q => by rw [h2 i k p q]; exact h i k p q
theorem TX.ft {w w2 : Wd} {t : Nat → Int} {len : Nat} (h : TX w t len) (e : frT w w2) : TX w2 t len := h.fr (fun k => e 34 k (by omega) (by omega)) (e 33 1 (by decide) (by decide))
theorem TX.fR {w w2 : Wd} {t : Nat → Int} {len : Nat} (h : TX w t len) (e : frR w w2) : TX w2 t len := h.fr (fun k => e 34 k (by omega) (by omega)) (e 33 1 (by decide) (by decide))
theorem VX.f3 {w w2 : Wd} {a : Nat → Int} (h : VX w 9 a) (e : ∀ i k : Nat, i ≠ 33 → w2 i k = w i k) : VX w2 9 a := h.fr (fun i k p q => e i k (by omega))

theorem c_isName {d : Nat} {w : Wd} {Q : Option MV → Wd → Prop} {t : Nat → Int} {len p : Nat} (hT : TX w t len) (hp : p ≤ len) {i : Nat} (hk : TK w t len p) (hi : i < 4) (ht : nmb t len p i = true → Q (some (.inl 1)) w) (hf : nmb t len p i = false → Q (some (.inl 0)) w) : Call (d + 6) mX1_isName [vR 33, vR (51 + i)] w Q := by
  refine call_in (ls := [some (vR 33), some (vR (51 + i)), none]) (by decide +kernel) rfl (Nat.le_of_ble_eq_true rfl) (fun κ hC hR hN => ?_)
  have hC : ctxB κ RX1 cX1_isName (d + 6) := hC
  have hN : mlx κ 3 := hN
  refine w_al0 hC dX1_isName_0 ?_
  refine v_getI hC dX1_isName_1 fd_X1_36 rfl rfl ?_
  rw [hk.2.2.1]
  refine w_ic hC dX1_isName_4 rfl ?_
  refine v_ic_ne (tgt := 24) hC dX1_isName_5 rfl (fun h5 => ?_) (fun h5 => ?_)
  · refine w_ic hC dX1_isName_24 rfl ?_
    refine v_zret hC hR dX1_isName_25 (by first | decide | omega) ?_
    first | exact hf (nmb_1 h5) | exact hf (nmb_2 (by omega))
  · refine w_al0 hC dX1_isName_8 ?_
    refine v_getI hC dX1_isName_9 fd_X1_23 rfl rfl ?_
    rw [hk.2.1]
    refine w_al0 hC dX1_isName_12 ?_
    refine v_getI hC dX1_isName_13 fd_X1_105 rfl rfl ?_
    rw [hk.1]
    have her := tkE_r (t := t) hp
    have hsr := tkS_r (t := t) hp
    have hlr := lnS4_r i hi
    have hl := hT.2.2.1
    refine w_isub hC dX1_isName_16 (ri_mk (by omega) (by omega)) ?_
    refine w_al1 hC dX1_isName_17 ?_
    refine v_virS (as := []) hC vs_X1_108 hi dX1_isName_18 rfl (Nat.le_of_ble_eq_true rfl) (c_slen hi ?_)
    refine v_ic_eq (tgt := 26) hC dX1_isName_21 rfl (fun h21 => ?_) (fun h21 => ?_)
    · refine w_ic hC dX1_isName_26 rfl ?_
      refine w_is2 hC dX1_isName_27 hN (by first | rfl | assumption) ?_
      have lp28 : ∀ (K : Nat) (k : Nat), (lnS4 i - k) < K → (k ≤ lnS4 i) → (∀ q, q < k → t (tkS t len p + q) = chS i q) → VV κ 28 [some (vR 33), some (vR (51 + i)), some (vI (k : Int))] [] w := by
        intro K
        induction K with
        | zero => intros; omega
        | succ K ih28 =>
          intro k hm28 hk2 hx
          refine w_il2 hC dX1_isName_28 ?_
          refine w_al1 hC dX1_isName_29 ?_
          refine v_virS (as := []) hC vs_X1_108 hi dX1_isName_30 rfl (Nat.le_of_ble_eq_true rfl) (c_slen hi ?_)
          refine v_ic_ge (tgt := 65) hC dX1_isName_33 rfl (fun h33 => ?_) (fun h33 => ?_)
          · refine w_ic hC dX1_isName_65 rfl ?_
            refine v_zret hC hR dX1_isName_66 (by first | decide | omega) ?_
            exact ht (nmb_t (by omega) (by omega) (fun q hq => hx q (by omega)))
          · refine w_al0 hC dX1_isName_36 ?_
            refine v_getR (off := 1) (j := 34) hC dX1_isName_37 fd_X1_9 rfl rfl rfl ?_
            refine w_al0 hC dX1_isName_40 ?_
            refine v_getI hC dX1_isName_41 fd_X1_105 rfl rfl ?_
            rw [hk.1]
            refine w_il2 hC dX1_isName_44 ?_
            refine w_iadd hC dX1_isName_45 (ri_mk (by omega) (by omega)) ?_
            rw [show ((tkS t len p : Nat) : Int) + (k : Int) = ((tkS t len p + k : Nat) : Int) by omega]
            refine w_sn2 hC sn_X1_113 dX1_isName_46 rfl hN (c_at rfl ?_)
            rw [atV_n w (show tkS t len p + k < 150 by omega), hT.1 _ (by omega)]
            refine w_al1 hC dX1_isName_49 ?_
            refine w_il2 hC dX1_isName_50 ?_
            refine v_virS (as := [vI (k : Int)]) hC vs_X1_117 hi dX1_isName_51 rfl (Nat.le_of_ble_eq_true rfl) (c_charAt hi (show k < lnS4 i by omega) ?_)
            refine v_ic_eq (tgt := 59) hC dX1_isName_54 rfl (fun h54 => ?_) (fun h54 => ?_)
            · refine w_inc2 hC dX1_isName_59 hN (by first | rfl | assumption) (ri_mk (by omega) (by omega)) ?_
              refine v_goto (tgt := 28) hC dX1_isName_62 rfl ?_
              exact ih28 (k + 1) (by omega) (by omega) (lt_s hx h54)
            · refine w_ic hC dX1_isName_57 rfl ?_
              refine v_zret hC hR dX1_isName_58 (by first | decide | omega) ?_
              exact hf (nmb_3 (show k < lnS4 i by omega) h54)
      exact lp28 (lnS4 i + 1) 0 (by omega) (by omega) (fun q h => by omega)
    · refine w_ic hC dX1_isName_24 rfl ?_
      refine v_zret hC hR dX1_isName_25 (by first | decide | omega) ?_
      first | exact hf (nmb_1 h5) | exact hf (nmb_2 (by omega))

theorem c_readLetters {d : Nat} {w : Wd} {Q : Option MV → Wd → Prop} {t : Nat → Int} {len p : Nat} (hT : TX w t len) (hp : p ≤ len) {z : Int} (hz : 0 ≤ z ∧ z ≤ 6) (he : w 33 4 = p) (ht : ∀ w2, tkK t len (leP t len p) = 3 ∧ z ≤ leN t len p → TK w2 t len (leP t len p) → w2 33 7 = leN t len p → w2 33 8 = leC t len p → (∀ i k : Nat, ¬ (i = 33 ∧ 3 ≤ k) → w2 i k = w i k) → Q (some (.inl 1)) w2) (hf : ∀ w2, ¬ (tkK t len (leP t len p) = 3 ∧ z ≤ leN t len p) → TK w2 t len (leP t len p) → (∀ i k : Nat, ¬ (i = 33 ∧ 3 ≤ k) → w2 i k = w i k) → Q (some (.inl 0)) w2) : Call (d + 3) mX1_readLetters [vR 33, vI z, vI 6] w Q := by
  refine call_in (ls := [some (vR 33), some (vI z), some (vI 6), none]) (by decide +kernel) rfl (Nat.le_of_ble_eq_true rfl) (fun κ hC hR hN => ?_)
  have hC : ctxB κ RX1 cX1_readLetters (d + 3) := hC
  have hN : mlx κ 4 := hN
  refine w_al0 hC dX1_readLetters_0 ?_
  refine w_ic hC dX1_readLetters_1 rfl ?_
  refine v_putI hC dX1_readLetters_2 fp_X1_71 rfl rfl ?_
  refine w_al0 hC dX1_readLetters_5 ?_
  refine w_ic hC dX1_readLetters_6 rfl ?_
  refine v_putI hC dX1_readLetters_7 fp_X1_74 rfl rfl ?_
  refine w_al0 hC dX1_readLetters_10 ?_
  refine w_vi0 hC vi_X1_29 rfl dX1_readLetters_11 rfl hN (c_advance (hT.fr (fun k => by rw [up_id _ _ (by decide), up_id _ _ (by decide)]) (by rw [up_pl _ _ (by decide), up_pl _ _ (by decide)])) hp (by rw [up_pl _ _ (by decide), up_pl _ _ (by decide)]; exact he) (fun w2 k2 o2 => ?_))
  refine w_ic hC dX1_readLetters_14 rfl ?_
  refine w_is3 hC dX1_readLetters_15 hN (by first | rfl | assumption) ?_
  have lp16 : ∀ (K : Nat) (w3 : Wd) (i q : Nat) (c : Int), (6 - i) < K → (i ≤ 6) → (q ≤ len) → (TK w3 t len q) → (w3 33 7 = i) → (w3 33 8 = c) → (0 ≤ c ∧ c < 10 ^ i) → (ltF t len (6 - i) q i c = ltF t len 6 p 0 0) → (∀ i k : Nat, ¬ (i = 33 ∧ 3 ≤ k) → w3 i k = w i k) → VV κ 16 [some (vR 33), some (vI z), some (vI 6), some (vI (i : Int))] [] w3 := by
    intro K
    induction K with
    | zero => intros; omega
    | succ K ih16 =>
      intro w3 i q c hm16 hi hq k3 c7 c8 hc hlt o3
      have hT3 := hT.fr (w2 := w3) (fun k => o3 34 k (by omega)) (o3 33 1 (by decide))
      have h10 : i ≤ 5 → (10 : Int) ^ i ≤ 100000 := fun h => by
        have : ∀ i, i ≤ 5 → (10 : Int) ^ i ≤ 100000 := by decide
        exact this i h
      refine w_il3 hC dX1_readLetters_16 ?_
      refine w_il2 hC dX1_readLetters_17 ?_
      refine v_ic_ge (tgt := 74) hC dX1_readLetters_18 rfl (fun h18 => ?_) (fun h18 => ?_)
      · have hlt2 : ltF t len 6 p 0 0 = (i, c, q) := by
          first
          | (rw [← hlt, show 6 - i = 0 by omega]; rfl)
          | (rw [← hlt, show 6 - i = (5 - i) + 1 by omega]; exact ltF_0 (by omega))
        have eP : leP t len p = q := by unfold leP; rw [hlt2]
        have eN : leN t len p = i := by unfold leN; rw [hlt2]
        have eC : leC t len p = c := by unfold leC; rw [hlt2]
        rw [eP, eN, eC] at ht
        rw [eP, eN] at hf
        refine w_al0 hC dX1_readLetters_74 ?_
        refine v_getI hC dX1_readLetters_75 fd_X1_36 rfl rfl ?_
        rw [k3.2.2.1]
        refine w_ic hC dX1_readLetters_78 rfl ?_
        refine v_ic_ne (tgt := 94) hC dX1_readLetters_79 rfl (fun h79 => ?_) (fun h79 => ?_)
        · refine w_ic hC dX1_readLetters_94 rfl ?_
          refine v_zret hC hR dX1_readLetters_95 (by first | decide | omega) ?_
          first | exact hf w3 (by omega) k3 o3 | exact ht w3 (by omega) k3 c7 c8 o3
        · refine w_al0 hC dX1_readLetters_82 ?_
          refine v_getI hC dX1_readLetters_83 fd_X1_71 rfl rfl ?_
          rw [c7]
          refine w_il1 hC dX1_readLetters_86 ?_
          refine v_ic_lt (tgt := 94) hC dX1_readLetters_87 rfl (fun h87 => ?_) (fun h87 => ?_)
          · refine w_ic hC dX1_readLetters_94 rfl ?_
            refine v_zret hC hR dX1_readLetters_95 (by first | decide | omega) ?_
            first | exact hf w3 (by omega) k3 o3 | exact ht w3 (by omega) k3 c7 c8 o3
          · refine w_ic hC dX1_readLetters_90 rfl ?_
            refine v_goto (tgt := 95) hC dX1_readLetters_91 rfl ?_
            refine v_zret hC hR dX1_readLetters_95 (by first | decide | omega) ?_
            first | exact hf w3 (by omega) k3 o3 | exact ht w3 (by omega) k3 c7 c8 o3
      · refine w_al0 hC dX1_readLetters_21 ?_
        refine v_getI hC dX1_readLetters_22 fd_X1_36 rfl rfl ?_
        rw [k3.2.2.1]
        refine w_ic hC dX1_readLetters_25 rfl ?_
        refine v_ic_ne (tgt := 74) hC dX1_readLetters_26 rfl (fun h26 => ?_) (fun h26 => ?_)
        · have hlt2 : ltF t len 6 p 0 0 = (i, c, q) := by
            first
            | (rw [← hlt, show 6 - i = 0 by omega]; rfl)
            | (rw [← hlt, show 6 - i = (5 - i) + 1 by omega]; exact ltF_0 (by omega))
          have eP : leP t len p = q := by unfold leP; rw [hlt2]
          have eN : leN t len p = i := by unfold leN; rw [hlt2]
          have eC : leC t len p = c := by unfold leC; rw [hlt2]
          rw [eP, eN, eC] at ht
          rw [eP, eN] at hf
          refine w_al0 hC dX1_readLetters_74 ?_
          refine v_getI hC dX1_readLetters_75 fd_X1_36 rfl rfl ?_
          rw [k3.2.2.1]
          refine w_ic hC dX1_readLetters_78 rfl ?_
          refine v_ic_ne (tgt := 94) hC dX1_readLetters_79 rfl (fun h79 => ?_) (fun h79 => ?_)
          · refine w_ic hC dX1_readLetters_94 rfl ?_
            refine v_zret hC hR dX1_readLetters_95 (by first | decide | omega) ?_
            first | exact hf w3 (by omega) k3 o3 | exact ht w3 (by omega) k3 c7 c8 o3
          · refine w_al0 hC dX1_readLetters_82 ?_
            refine v_getI hC dX1_readLetters_83 fd_X1_71 rfl rfl ?_
            rw [c7]
            refine w_il1 hC dX1_readLetters_86 ?_
            refine v_ic_lt (tgt := 94) hC dX1_readLetters_87 rfl (fun h87 => ?_) (fun h87 => ?_)
            · refine w_ic hC dX1_readLetters_94 rfl ?_
              refine v_zret hC hR dX1_readLetters_95 (by first | decide | omega) ?_
              first | exact hf w3 (by omega) k3 o3 | exact ht w3 (by omega) k3 c7 c8 o3
            · refine w_ic hC dX1_readLetters_90 rfl ?_
              refine v_goto (tgt := 95) hC dX1_readLetters_91 rfl ?_
              refine v_zret hC hR dX1_readLetters_95 (by first | decide | omega) ?_
              first | exact hf w3 (by omega) k3 o3 | exact ht w3 (by omega) k3 c7 c8 o3
        · refine w_al0 hC dX1_readLetters_29 ?_
          refine v_getI hC dX1_readLetters_30 fd_X1_64 rfl rfl ?_
          rw [k3.2.2.2]
          refine v_bipush hC dX1_readLetters_33 (by decide) ?_
          refine v_ic_gt (tgt := 74) hC dX1_readLetters_35 rfl (fun h35 => ?_) (fun h35 => ?_)
          · have hlt2 : ltF t len 6 p 0 0 = (i, c, q) := by
              first
              | (rw [← hlt, show 6 - i = 0 by omega]; rfl)
              | (rw [← hlt, show 6 - i = (5 - i) + 1 by omega]; exact ltF_0 (by omega))
            have eP : leP t len p = q := by unfold leP; rw [hlt2]
            have eN : leN t len p = i := by unfold leN; rw [hlt2]
            have eC : leC t len p = c := by unfold leC; rw [hlt2]
            rw [eP, eN, eC] at ht
            rw [eP, eN] at hf
            refine w_al0 hC dX1_readLetters_74 ?_
            refine v_getI hC dX1_readLetters_75 fd_X1_36 rfl rfl ?_
            rw [k3.2.2.1]
            refine w_ic hC dX1_readLetters_78 rfl ?_
            refine v_ic_ne (tgt := 94) hC dX1_readLetters_79 rfl (fun h79 => ?_) (fun h79 => ?_)
            · refine w_ic hC dX1_readLetters_94 rfl ?_
              refine v_zret hC hR dX1_readLetters_95 (by first | decide | omega) ?_
              first | exact hf w3 (by omega) k3 o3 | exact ht w3 (by omega) k3 c7 c8 o3
            · refine w_al0 hC dX1_readLetters_82 ?_
              refine v_getI hC dX1_readLetters_83 fd_X1_71 rfl rfl ?_
              rw [c7]
              refine w_il1 hC dX1_readLetters_86 ?_
              refine v_ic_lt (tgt := 94) hC dX1_readLetters_87 rfl (fun h87 => ?_) (fun h87 => ?_)
              · refine w_ic hC dX1_readLetters_94 rfl ?_
                refine v_zret hC hR dX1_readLetters_95 (by first | decide | omega) ?_
                first | exact hf w3 (by omega) k3 o3 | exact ht w3 (by omega) k3 c7 c8 o3
              · refine w_ic hC dX1_readLetters_90 rfl ?_
                refine v_goto (tgt := 95) hC dX1_readLetters_91 rfl ?_
                refine v_zret hC hR dX1_readLetters_95 (by first | decide | omega) ?_
                first | exact hf w3 (by omega) k3 o3 | exact ht w3 (by omega) k3 c7 c8 o3
          · refine w_al0 hC dX1_readLetters_38 ?_
            refine v_bipush hC dX1_readLetters_39 (by decide) ?_
            refine w_al0 hC dX1_readLetters_41 ?_
            refine v_getI hC dX1_readLetters_42 fd_X1_74 rfl rfl ?_
            have hv := tkV_r (t := t) hq (by omega)
            have h10i := h10 (by omega)
            rw [c8]
            refine w_imul hC dX1_readLetters_45 (ri_mk (by omega) (by omega)) ?_
            refine w_al0 hC dX1_readLetters_46 ?_
            refine v_getI hC dX1_readLetters_47 fd_X1_64 rfl rfl ?_
            rw [k3.2.2.2]
            refine w_iadd hC dX1_readLetters_50 (ri_mk (by omega) (by omega)) ?_
            refine v_putI hC dX1_readLetters_51 fp_X1_74 rfl rfl ?_
            refine w_al0 hC dX1_readLetters_54 ?_
            refine v_dup hC dX1_readLetters_55 rfl ?_
            refine v_getI hC dX1_readLetters_56 fd_X1_71 rfl rfl ?_
            rw [up_pl _ _ (by decide), c7]
            refine w_ic hC dX1_readLetters_59 rfl ?_
            refine w_iadd hC dX1_readLetters_60 (ri_mk (by omega) (by omega)) ?_
            refine v_putI hC dX1_readLetters_61 fp_X1_71 rfl rfl ?_
            refine w_al0 hC dX1_readLetters_64 ?_
            refine w_vi0 hC vi_X1_29 rfl dX1_readLetters_65 rfl hN (c_advance (t := t) (len := len) (p := tkE t len q) (hT3.fr (fun k => by rw [up_id _ _ (by decide), up_id _ _ (by decide)]) (by rw [up_pl _ _ (by decide), up_pl _ _ (by decide)])) (te_r hq).2 (by rw [up_pl _ _ (by decide), up_pl _ _ (by decide)]; exact k3.2.1) (fun w5 k5 o5 => ?_))
            refine w_inc3 hC dX1_readLetters_68 hN (by first | rfl | assumption) (ri_mk (by omega) (by omega)) ?_
            refine v_goto (tgt := 16) hC dX1_readLetters_71 rfl ?_
            exact ih16 w5 (i + 1) (tkE t len q) (10 * c + tkV t len q) (by omega) (by omega) (te_r hq).2 k5 (by rw [o5 33 7 (by decide), up_same]; rfl) (by rw [o5 33 8 (by decide), up_pl _ _ (by decide), up_same]) (by rw [Int.pow_succ]; omega) (by rw [← hlt, show 6 - i = (6 - (i + 1)) + 1 by omega, ltF_1 ⟨by omega, by omega⟩]) (fun a b h => by rw [o5 a b (by omega), up_ne _ _ (by omega), up_ne _ _ (by omega)]; exact o3 a b h)
  exact lp16 7 w2 0 p 0 (by omega) (by omega) hp k2 (by rw [o2 33 7 (by decide), up_pl _ _ (by decide), up_same]; rfl) (by rw [o2 33 8 (by decide), up_same]) ⟨by decide, by decide⟩ rfl (fun a b h => by rw [o2 a b (by omega), up_ne _ _ (by omega), up_ne _ _ (by omega)])

theorem c_readVerse {d : Nat} {w : Wd} {Q : Option MV → Wd → Prop} {t : Nat → Int} {len p : Nat} (hT : TX w t len) (hp : p ≤ len) {a : Nat → Int} (hk : TK w t len p) (ht : (itV t len p a).1 = true → ∀ w2, TK w2 t len (itV t len p a).2.1 → VX w2 9 (itV t len p a).2.2 → frT w w2 → Q (some (.inl 1)) w2) (hf : (itV t len p a).1 = false → ∀ w2, TK w2 t len (itV t len p a).2.1 → frT w w2 → Q (some (.inl 0)) w2) : Call (d + 7) mX1_readVerse [vR 33, vR 9] w Q := by
  refine call_in (ls := [some (vR 33), some (vR 9), none]) (by decide +kernel) rfl (Nat.le_of_ble_eq_true rfl) (fun κ hC hR hN => ?_)
  have hC : ctxB κ RX1 cX1_readVerse (d + 7) := hC
  have hN : mlx κ 3 := hN
  refine w_al0 hC dX1_readVerse_0 ?_
  refine v_ldcS (i := 0) (tx := "verse") hC rfl dX1_readVerse_1 (by decide) ?_
  refine w_vi1 hC vi_X1_41 rfl dX1_readVerse_3 rfl hN (c_isName hT hp hk (by decide) (fun g1 => ?_) (fun g1 => ?_))
  · refine v_if_eq (tgt := 18) hC dX1_readVerse_6 rfl (fun h => absurd h (by decide)) (fun _ => ?_)
    refine w_al0 hC dX1_readVerse_9 ?_
    refine v_bipush hC dX1_readVerse_10 (by decide) ?_
    refine w_vi1 hC vi_X1_60 rfl dX1_readVerse_12 rfl hN (c_advanceToNumber hT (te_r hp).2 hk.2.1 (fun w2 g2 k2 o2 => ?_) (fun w2 g2 k2 o2 => ?_))
    · refine v_if_ne (tgt := 20) hC dX1_readVerse_15 rfl (fun _ => ?_) (fun h => absurd h (by decide))
      refine w_al0 hC dX1_readVerse_20 ?_
      refine v_getI hC dX1_readVerse_21 fd_X1_64 rfl rfl ?_
      have ft2 := frT.of o2
      have q1 := te_r (t := t) hp
      have q2 := te_r (t := t) q1.2
      have q3 := lt_all (t := t) q2.2
      rw [k2.2.2.2]
      refine w_is2 hC dX1_readVerse_24 hN (by first | rfl | assumption) ?_
      refine w_al0 hC dX1_readVerse_25 ?_
      refine w_ic hC dX1_readVerse_26 rfl ?_
      refine v_bipush hC dX1_readVerse_27 (by decide) ?_
      refine w_vi2 hC vi_X1_67 rfl dX1_readVerse_29 rfl hN (c_readLetters (hT.ft ft2) q2.2 ⟨by decide, by decide⟩ k2.2.1 (fun w3 g3 k3 c7 c8 o3 => ?_) (fun w3 g3 k3 o3 => ?_))
      · refine v_if_ne (tgt := 37) hC dX1_readVerse_32 rfl (fun _ => ?_) (fun h => absurd h (by decide))
        refine w_al1 hC dX1_readVerse_37 ?_
        refine w_il2 hC dX1_readVerse_38 ?_
        refine w_al0 hC dX1_readVerse_39 ?_
        refine v_getI hC dX1_readVerse_40 fd_X1_71 rfl rfl ?_
        rw [c7]
        refine w_al0 hC dX1_readVerse_43 ?_
        refine v_getI hC dX1_readVerse_44 fd_X1_74 rfl rfl ?_
        rw [c8]
        refine w_vi3 hC vi_X1_77 rfl dX1_readVerse_47 rfl hN (c_begin vb9 (fun w4 v4 o4 => ?_))
        refine w_ic hC dX1_readVerse_50 rfl ?_
        refine v_zret hC hR dX1_readVerse_51 (by first | decide | omega) ?_
        have e : itV t len p a = (true, leP t len (tkE t len (tkE t len p)), sBegin (tkV t len (tkE t len p)) (leN t len (tkE t len (tkE t len p))) (leC t len (tkE t len (tkE t len p)))) := by unfold itV; rw [if_neg (fun z => by rw [g1] at z; exact Bool.noConfusion z), if_neg (fun z => z g2), if_pos (by omega)]
        rw [e] at ht
        exact ht rfl w4 ⟨by rw [o4 33 3 (by omega)]; exact k3.1, by rw [o4 33 4 (by omega)]; exact k3.2.1, by rw [o4 33 5 (by omega)]; exact k3.2.2.1, by rw [o4 33 6 (by omega)]; exact k3.2.2.2⟩ v4 ((ft2.tr (fun a b _ h => o3 a b (by omega))).tr (fun a b h _ => o4 a b (by omega)))
      · refine v_if_ne (tgt := 37) hC dX1_readVerse_32 rfl (fun h => absurd h (by decide)) (fun _ => ?_)
        refine w_ic hC dX1_readVerse_35 rfl ?_
        refine v_zret hC hR dX1_readVerse_36 (by first | decide | omega) ?_
        have e : itV t len p a = (false, leP t len (tkE t len (tkE t len p)), a) := by unfold itV; rw [if_neg (fun z => by rw [g1] at z; exact Bool.noConfusion z), if_neg (fun z => z g2), if_neg (by omega)]
        rw [e] at hf
        exact hf rfl w3 k3 (ft2.tr (fun a b _ h => o3 a b (by omega)))
    · refine v_if_ne (tgt := 20) hC dX1_readVerse_15 rfl (fun h => absurd h (by decide)) (fun _ => ?_)
      refine w_ic hC dX1_readVerse_18 rfl ?_
      refine v_zret hC hR dX1_readVerse_19 (by first | decide | omega) ?_
      first
      | (have e : itV t len p a = (false, p, a) := if_pos g1
         rw [e] at hf
         exact hf rfl w hk (fun _ _ _ _ => rfl))
      | (have e : itV t len p a = (false, tkE t len p, a) := by unfold itV; rw [if_neg (fun z => by rw [g1] at z; exact Bool.noConfusion z), if_pos g2]
         rw [e] at hf
         exact hf rfl w2 k2 (frT.of o2))
  · refine v_if_eq (tgt := 18) hC dX1_readVerse_6 rfl (fun _ => ?_) (fun h => absurd h (by decide))
    refine w_ic hC dX1_readVerse_18 rfl ?_
    refine v_zret hC hR dX1_readVerse_19 (by first | decide | omega) ?_
    first
    | (have e : itV t len p a = (false, p, a) := if_pos g1
       rw [e] at hf
       exact hf rfl w hk (fun _ _ _ _ => rfl))
    | (have e : itV t len p a = (false, tkE t len p, a) := by unfold itV; rw [if_neg (fun z => by rw [g1] at z; exact Bool.noConfusion z), if_pos g2]
       rw [e] at hf
       exact hf rfl w2 k2 (frT.of o2))

theorem c_readWord {d : Nat} {w : Wd} {Q : Option MV → Wd → Prop} {t : Nat → Int} {len p : Nat} (hT : TX w t len) (hp : p ≤ len) {a : Nat → Int} (hk : TK w t len p) (hv : VX w 9 a) (hA : AOK a) (ht : (itW t len p a).1 = true → ∀ w2, TK w2 t len (itW t len p a).2.1 → VX w2 9 (itW t len p a).2.2 → frT w w2 → Q (some (.inl 1)) w2) (hf : (itW t len p a).1 = false → ∀ w2, TK w2 t len (itW t len p a).2.1 → frT w w2 → Q (some (.inl 0)) w2) : Call (d + 4) mX1_readWord [vR 33, vR 9] w Q := by
  refine call_in (ls := [some (vR 33), some (vR 9), none]) (by decide +kernel) rfl (Nat.le_of_ble_eq_true rfl) (fun κ hC hR hN => ?_)
  have hC : ctxB κ RX1 cX1_readWord (d + 4) := hC
  have hN : mlx κ 3 := hN
  refine w_al1 hC dX1_readWord_0 ?_
  refine v_getI hC dX1_readWord_1 fd_X1_83 rfl rfl ?_
  rw [hv.1.2.2.2.1]
  have an := hA.n
  refine v_bipush hC dX1_readWord_4 (by decide) ?_
  refine v_ic_ge (tgt := 18) hC dX1_readWord_6 rfl (fun h6 => ?_) (fun h6 => ?_)
  · refine w_ic hC dX1_readWord_18 rfl ?_
    refine v_zret hC hR dX1_readWord_19 (by first | decide | omega) ?_
    first
    | (have e : itW t len p a = (false, p, a) := if_pos (by omega)
       rw [e] at hf
       exact hf rfl w hk (fun _ _ _ _ => rfl))
    | (have e : itW t len p a = (false, tkE t len p, a) := by unfold itW; rw [if_neg (by omega), if_pos g2]
       rw [e] at hf
       exact hf rfl w2 k2 (frT.of o2))
  · refine w_al0 hC dX1_readWord_9 ?_
    refine v_bipush hC dX1_readWord_10 (by decide) ?_
    refine w_vi1 hC vi_X1_60 rfl dX1_readWord_12 rfl hN (c_advanceToNumber hT (te_r hp).2 hk.2.1 (fun w2 g2 k2 o2 => ?_) (fun w2 g2 k2 o2 => ?_))
    · refine v_if_ne (tgt := 20) hC dX1_readWord_15 rfl (fun _ => ?_) (fun h => absurd h (by decide))
      refine w_al0 hC dX1_readWord_20 ?_
      refine v_getI hC dX1_readWord_21 fd_X1_64 rfl rfl ?_
      have ft2 := frT.of o2
      have q1 := te_r (t := t) hp
      have q2 := te_r (t := t) q1.2
      have q3 := lt_all (t := t) q2.2
      rw [k2.2.2.2]
      refine w_is2 hC dX1_readWord_24 hN (by first | rfl | assumption) ?_
      refine w_al0 hC dX1_readWord_25 ?_
      refine w_ic hC dX1_readWord_26 rfl ?_
      refine v_bipush hC dX1_readWord_27 (by decide) ?_
      refine w_vi2 hC vi_X1_67 rfl dX1_readWord_29 rfl hN (c_readLetters (hT.ft ft2) q2.2 ⟨by decide, by decide⟩ k2.2.1 (fun w3 g3 k3 c7 c8 o3 => ?_) (fun w3 g3 k3 o3 => ?_))
      · refine v_if_eq (tgt := 50) hC dX1_readWord_32 rfl (fun h => absurd h (by decide)) (fun _ => ?_)
        have v3 : VX w3 9 a := hv.fr (fun i k h1 h2 => by rw [o3 i k (by omega)]; exact o2 i k (by omega))
        refine w_al1 hC dX1_readWord_35 ?_
        refine w_al0 hC dX1_readWord_36 ?_
        refine v_getI hC dX1_readWord_37 fd_X1_71 rfl rfl ?_
        rw [c7]
        refine w_al0 hC dX1_readWord_40 ?_
        refine v_getI hC dX1_readWord_41 fd_X1_74 rfl rfl ?_
        rw [c8]
        refine w_vi2 hC vi_X1_86 rfl dX1_readWord_44 rfl hN (c_knows vb9 v3 hA (fun g4 => ?_) (fun g4 => ?_))
        · refine v_if_eq (tgt := 52) hC dX1_readWord_47 rfl (fun h => absurd h (by decide)) (fun _ => ?_)
          refine w_ic hC dX1_readWord_50 rfl ?_
          refine v_zret hC hR dX1_readWord_51 (by first | decide | omega) ?_
          have ft3 := ft2.tr (fun a b _ h => o3 a b (by omega))
          first
          | (have e : itW t len p a = (false, leP t len (tkE t len (tkE t len p)), a) := by unfold itW; rw [if_neg (by omega), if_neg (fun z => z g2), if_neg (fun z => by rw [knb_iff.mpr g4] at z; exact Bool.noConfusion z.2.2)]
             rw [e] at hf
             exact hf rfl w3 k3 ft3)
          | (have e : itW t len p a = (false, leP t len (tkE t len (tkE t len p)), a) := by unfold itW; rw [if_neg (by omega), if_neg (fun z => z g2), if_neg (fun z => g3 ⟨z.1, by omega⟩)]
             rw [e] at hf
             exact hf rfl w3 k3 ft3)
        · refine v_if_eq (tgt := 52) hC dX1_readWord_47 rfl (fun _ => ?_) (fun h => absurd h (by decide))
          refine w_al1 hC dX1_readWord_52 ?_
          refine w_il2 hC dX1_readWord_53 ?_
          refine w_al0 hC dX1_readWord_54 ?_
          refine v_getI hC dX1_readWord_55 fd_X1_71 rfl rfl ?_
          rw [c7]
          refine w_al0 hC dX1_readWord_58 ?_
          refine v_getI hC dX1_readWord_59 fd_X1_74 rfl rfl ?_
          rw [c8]
          refine w_vi3 hC vi_X1_89 rfl dX1_readWord_62 rfl hN (c_addWord vb9 v3 ⟨an.1, by omega⟩ hA.nc hA.mc hA.uc (fun w4 v4 o4 => ?_))
          refine w_ic hC dX1_readWord_65 rfl ?_
          refine v_zret hC hR dX1_readWord_66 (by first | decide | omega) ?_
          have e : itW t len p a = (true, leP t len (tkE t len (tkE t len p)), sAddW a (tkV t len (tkE t len p)) (leN t len (tkE t len (tkE t len p))) (leC t len (tkE t len (tkE t len p)))) := by unfold itW; rw [if_neg (by omega), if_neg (fun z => z g2), if_pos ⟨g3.1, by omega, by cases hb : knb a (leN t len (tkE t len (tkE t len p))) (leC t len (tkE t len (tkE t len p))) with | false => rfl | true => exact absurd (knb_iff.mp hb) g4⟩]
          rw [e] at ht
          exact ht rfl w4 ⟨by rw [o4 33 3 (by omega)]; exact k3.1, by rw [o4 33 4 (by omega)]; exact k3.2.1, by rw [o4 33 5 (by omega)]; exact k3.2.2.1, by rw [o4 33 6 (by omega)]; exact k3.2.2.2⟩ v4 ((ft2.tr (fun a b _ h => o3 a b (by omega))).tr (fun a b h _ => o4 a b (by omega)))
      · refine v_if_eq (tgt := 50) hC dX1_readWord_32 rfl (fun _ => ?_) (fun h => absurd h (by decide))
        refine w_ic hC dX1_readWord_50 rfl ?_
        refine v_zret hC hR dX1_readWord_51 (by first | decide | omega) ?_
        have ft3 := ft2.tr (fun a b _ h => o3 a b (by omega))
        first
        | (have e : itW t len p a = (false, leP t len (tkE t len (tkE t len p)), a) := by unfold itW; rw [if_neg (by omega), if_neg (fun z => z g2), if_neg (fun z => by rw [knb_iff.mpr g4] at z; exact Bool.noConfusion z.2.2)]
           rw [e] at hf
           exact hf rfl w3 k3 ft3)
        | (have e : itW t len p a = (false, leP t len (tkE t len (tkE t len p)), a) := by unfold itW; rw [if_neg (by omega), if_neg (fun z => z g2), if_neg (fun z => g3 ⟨z.1, by omega⟩)]
           rw [e] at hf
           exact hf rfl w3 k3 ft3)
    · refine v_if_ne (tgt := 20) hC dX1_readWord_15 rfl (fun h => absurd h (by decide)) (fun _ => ?_)
      refine w_ic hC dX1_readWord_18 rfl ?_
      refine v_zret hC hR dX1_readWord_19 (by first | decide | omega) ?_
      first
      | (have e : itW t len p a = (false, p, a) := if_pos (by omega)
         rw [e] at hf
         exact hf rfl w hk (fun _ _ _ _ => rfl))
      | (have e : itW t len p a = (false, tkE t len p, a) := by unfold itW; rw [if_neg (by omega), if_pos g2]
         rw [e] at hf
         exact hf rfl w2 k2 (frT.of o2))

theorem c_readPut {d : Nat} {w : Wd} {Q : Option MV → Wd → Prop} {t : Nat → Int} {len p : Nat} (hT : TX w t len) (hp : p ≤ len) {a : Nat → Int} (hk : TK w t len p) (hv : VX w 9 a) (hA : AOK a) (ht : (itP t len p a).1 = true → ∀ w2, TK w2 t len (itP t len p a).2.1 → VX w2 9 (itP t len p a).2.2 → frT w w2 → Q (some (.inl 1)) w2) (hf : (itP t len p a).1 = false → ∀ w2, TK w2 t len (itP t len p a).2.1 → frT w w2 → Q (some (.inl 0)) w2) : Call (d + 4) mX1_readPut [vR 33, vR 9] w Q := by
  refine call_in (ls := [some (vR 33), some (vR 9), none, none]) (by decide +kernel) rfl (Nat.le_of_ble_eq_true rfl) (fun κ hC hR hN => ?_)
  have hC : ctxB κ RX1 cX1_readPut (d + 4) := hC
  have hN : mlx κ 4 := hN
  refine w_al0 hC dX1_readPut_0 ?_
  refine w_al1 hC dX1_readPut_1 ?_
  refine v_getI hC dX1_readPut_2 fd_X1_92 rfl rfl ?_
  rw [hv.1.2.1]
  have am := hA.m
  have an := hA.n
  have q1 := te_r (t := t) hp
  have q2 := te_r (t := t) q1.2
  have q3 := te_r (t := t) q2.2
  refine w_vi1 hC vi_X1_60 rfl dX1_readPut_5 rfl hN (c_advanceToNumber hT q1.2 hk.2.1 (fun w2 g2 k2 o2 => ?_) (fun w2 g2 k2 o2 => ?_))
  · refine v_if_eq (tgt := 23) hC dX1_readPut_8 rfl (fun h => absurd h (by decide)) (fun _ => ?_)
    have v2 : VX w2 9 a := hv.fr (fun i k h1 h2 => o2 i k (by omega))
    have ft2 := frT.of o2
    have hv1 := tkV_r q1.2 g2.1
    refine w_al1 hC dX1_readPut_11 ?_
    refine w_al0 hC dX1_readPut_12 ?_
    refine v_getI hC dX1_readPut_13 fd_X1_64 rfl rfl ?_
    rw [k2.2.2.2]
    refine w_vi1 hC vi_X1_95 rfl dX1_readPut_16 rfl hN (c_wordOn vb9 v2 hA ?_)
    refine w_ic hC dX1_readPut_19 rfl ?_
    refine v_ic_eq (tgt := 25) hC dX1_readPut_20 rfl (fun h20 => ?_) (fun h20 => ?_)
    · refine w_al0 hC dX1_readPut_25 ?_
      refine v_getI hC dX1_readPut_26 fd_X1_64 rfl rfl ?_
      rw [k2.2.2.2]
      refine w_is2 hC dX1_readPut_29 hN (by first | rfl | assumption) ?_
      refine w_al0 hC dX1_readPut_30 ?_
      refine w_al1 hC dX1_readPut_31 ?_
      refine v_getI hC dX1_readPut_32 fd_X1_83 rfl rfl ?_
      rw [v2.1.2.2.2.1]
      refine w_vi1 hC vi_X1_60 rfl dX1_readPut_35 rfl hN (c_advanceToNumber (hT.ft ft2) q2.2 k2.2.1 (fun w3 g3 k3 o3 => ?_) (fun w3 g3 k3 o3 => ?_))
      · refine v_if_eq (tgt := 53) hC dX1_readPut_38 rfl (fun h => absurd h (by decide)) (fun _ => ?_)
        have v3 : VX w3 9 a := v2.fr (fun i k h1 h2 => o3 i k (by omega))
        have hv2 := tkV_r q2.2 g3.1
        refine w_al1 hC dX1_readPut_41 ?_
        refine w_al0 hC dX1_readPut_42 ?_
        refine v_getI hC dX1_readPut_43 fd_X1_64 rfl rfl ?_
        rw [k3.2.2.2]
        refine w_vi1 hC vi_X1_99 rfl dX1_readPut_46 rfl hN (c_lineOf vb9 v3 hA ?_)
        refine w_ic hC dX1_readPut_49 rfl ?_
        refine v_ic_eq (tgt := 55) hC dX1_readPut_50 rfl (fun h50 => ?_) (fun h50 => ?_)
        · refine w_al0 hC dX1_readPut_55 ?_
          refine v_getI hC dX1_readPut_56 fd_X1_64 rfl rfl ?_
          have ft3 := ft2.tr (frT.of o3)
          rw [k3.2.2.2]
          refine w_is3 hC dX1_readPut_59 hN (by first | rfl | assumption) ?_
          refine w_al0 hC dX1_readPut_60 ?_
          refine w_vi0 hC vi_X1_29 rfl dX1_readPut_61 rfl hN (c_advance (hT.ft ft3) q3.2 k3.2.1 (fun w4 k4 o4 => ?_))
          refine w_al1 hC dX1_readPut_64 ?_
          refine v_getR (off := 4) (j := 13) hC dX1_readPut_65 fd_X1_102 rfl rfl rfl ?_
          refine w_il2 hC dX1_readPut_68 ?_
          refine w_il3 hC dX1_readPut_69 ?_
          refine w_sn3 hC sn_X1_19 dX1_readPut_70 rfl hN (c_set rfl ?_)
          obtain ⟨jn, hjn⟩ := Int.eq_ofNat_of_zero_le hv1.1
          have v4 : VX w4 9 a := v3.fr (fun i k h1 h2 => o4 i k (by omega))
          have e : itP t len p a = (decide (tkK t len (tkE t len (tkE t len (tkE t len p))) = 3), tkE t len (tkE t len (tkE t len p)), ua a (28 + (tkV t len (tkE t len p)).toNat) (tkV t len (tkE t len (tkE t len p)))) := by unfold itP; rw [if_neg (by omega), if_neg (by omega)]
          rw [e, hjn] at ht hf
          rw [show ((jn : Nat) : Int).toNat = jn from rfl] at ht
          have v5 := v4.ln1 (j := jn) (z := tkV t len (tkE t len (tkE t len p))) (by omega) an.2
          rw [hjn, stV_n w4 (show jn < 6 by omega)]
          have ft5 : frT w (up w4 13 jn (tkV t len (tkE t len (tkE t len p)))) := (ft3.tr (frT.of o4)).tr (fun i k h1 h2 => up_id _ _ (by omega))
          refine w_al0 hC dX1_readPut_73 ?_
          refine v_getI hC dX1_readPut_74 fd_X1_36 rfl rfl ?_
          rw [up_id _ _ (by decide), k4.2.2.1]
          refine w_ic hC dX1_readPut_77 rfl ?_
          refine v_ic_ne (tgt := 85) hC dX1_readPut_78 rfl (fun h78 => ?_) (fun h78 => ?_)
          · refine w_ic hC dX1_readPut_85 rfl ?_
            refine v_zret hC hR dX1_readPut_86 (by first | decide | omega) ?_
            first
            | exact ht (decide_eq_true (by omega)) _ ⟨by rw [up_id _ _ (by decide)]; exact k4.1, by rw [up_id _ _ (by decide)]; exact k4.2.1, by rw [up_id _ _ (by decide)]; exact k4.2.2.1, by rw [up_id _ _ (by decide)]; exact k4.2.2.2⟩ v5 ft5
            | exact hf (decide_eq_false (by omega)) _ ⟨by rw [up_id _ _ (by decide)]; exact k4.1, by rw [up_id _ _ (by decide)]; exact k4.2.1, by rw [up_id _ _ (by decide)]; exact k4.2.2.1, by rw [up_id _ _ (by decide)]; exact k4.2.2.2⟩ ft5
          · refine w_ic hC dX1_readPut_81 rfl ?_
            refine v_goto (tgt := 86) hC dX1_readPut_82 rfl ?_
            refine v_zret hC hR dX1_readPut_86 (by first | decide | omega) ?_
            first
            | exact ht (decide_eq_true (by omega)) _ ⟨by rw [up_id _ _ (by decide)]; exact k4.1, by rw [up_id _ _ (by decide)]; exact k4.2.1, by rw [up_id _ _ (by decide)]; exact k4.2.2.1, by rw [up_id _ _ (by decide)]; exact k4.2.2.2⟩ v5 ft5
            | exact hf (decide_eq_false (by omega)) _ ⟨by rw [up_id _ _ (by decide)]; exact k4.1, by rw [up_id _ _ (by decide)]; exact k4.2.1, by rw [up_id _ _ (by decide)]; exact k4.2.2.1, by rw [up_id _ _ (by decide)]; exact k4.2.2.2⟩ ft5
        · refine w_ic hC dX1_readPut_53 rfl ?_
          refine v_zret hC hR dX1_readPut_54 (by first | decide | omega) ?_
          have e : itP t len p a = (false, tkE t len (tkE t len p), a) := by unfold itP; rw [if_neg (by omega), if_pos (by omega)]
          rw [e] at hf
          exact hf rfl w3 k3 (ft2.tr (frT.of o3))
      · refine v_if_eq (tgt := 53) hC dX1_readPut_38 rfl (fun _ => ?_) (fun h => absurd h (by decide))
        refine w_ic hC dX1_readPut_53 rfl ?_
        refine v_zret hC hR dX1_readPut_54 (by first | decide | omega) ?_
        have e : itP t len p a = (false, tkE t len (tkE t len p), a) := by unfold itP; rw [if_neg (by omega), if_pos (by omega)]
        rw [e] at hf
        exact hf rfl w3 k3 (ft2.tr (frT.of o3))
    · refine w_ic hC dX1_readPut_23 rfl ?_
      refine v_zret hC hR dX1_readPut_24 (by first | decide | omega) ?_
      have e : itP t len p a = (false, tkE t len p, a) := if_pos (by omega)
      rw [e] at hf
      exact hf rfl w2 k2 (frT.of o2)
  · refine v_if_eq (tgt := 23) hC dX1_readPut_8 rfl (fun _ => ?_) (fun h => absurd h (by decide))
    refine w_ic hC dX1_readPut_23 rfl ?_
    refine v_zret hC hR dX1_readPut_24 (by first | decide | omega) ?_
    have e : itP t len p a = (false, tkE t len p, a) := if_pos (by omega)
    rw [e] at hf
    exact hf rfl w2 k2 (frT.of o2)

theorem c_readTake {d : Nat} {w : Wd} {Q : Option MV → Wd → Prop} {t : Nat → Int} {len p : Nat} (hT : TX w t len) (hp : p ≤ len) {a : Nat → Int} (hk : TK w t len p) (hv : VX w 9 a) (hA : AOK a) (ht : (itT t len p a).1 = true → ∀ w2, TK w2 t len (itT t len p a).2.1 → VX w2 9 (itT t len p a).2.2 → frT w w2 → Q (some (.inl 1)) w2) (hf : (itT t len p a).1 = false → ∀ w2, TK w2 t len (itT t len p a).2.1 → frT w w2 → Q (some (.inl 0)) w2) : Call (d + 4) mX1_readTake [vR 33, vR 9] w Q := by
  refine call_in (ls := [some (vR 33), some (vR 9)]) (by decide +kernel) rfl (Nat.le_of_ble_eq_true rfl) (fun κ hC hR hN => ?_)
  have hC : ctxB κ RX1 cX1_readTake (d + 4) := hC
  have hN : mlx κ 2 := hN
  refine w_al0 hC dX1_readTake_0 ?_
  refine w_al1 hC dX1_readTake_1 ?_
  refine v_getI hC dX1_readTake_2 fd_X1_92 rfl rfl ?_
  rw [hv.1.2.1]
  have am := hA.m
  have an := hA.n
  have q1 := te_r (t := t) hp
  have q2 := te_r (t := t) q1.2
  refine w_vi1 hC vi_X1_60 rfl dX1_readTake_5 rfl hN (c_advanceToNumber hT q1.2 hk.2.1 (fun w2 g2 k2 o2 => ?_) (fun w2 g2 k2 o2 => ?_))
  · refine v_if_eq (tgt := 23) hC dX1_readTake_8 rfl (fun h => absurd h (by decide)) (fun _ => ?_)
    have v2 : VX w2 9 a := hv.fr (fun i k h1 h2 => o2 i k (by omega))
    have ft2 := frT.of o2
    have hv1 := tkV_r q1.2 g2.1
    refine w_al1 hC dX1_readTake_11 ?_
    refine w_al0 hC dX1_readTake_12 ?_
    refine v_getI hC dX1_readTake_13 fd_X1_64 rfl rfl ?_
    rw [k2.2.2.2]
    refine w_vi1 hC vi_X1_95 rfl dX1_readTake_16 rfl hN (c_wordOn vb9 v2 hA ?_)
    refine w_ic hC dX1_readTake_19 rfl ?_
    refine v_ic_ne (tgt := 25) hC dX1_readTake_20 rfl (fun h20 => ?_) (fun h20 => ?_)
    · refine w_al1 hC dX1_readTake_25 ?_
      refine v_getR (off := 4) (j := 13) hC dX1_readTake_26 fd_X1_102 rfl rfl rfl ?_
      refine w_al0 hC dX1_readTake_29 ?_
      refine v_getI hC dX1_readTake_30 fd_X1_64 rfl rfl ?_
      rw [k2.2.2.2]
      refine w_ic hC dX1_readTake_33 rfl ?_
      refine w_sn3 hC sn_X1_19 dX1_readTake_34 rfl hN (c_set rfl ?_)
      obtain ⟨jn, hjn⟩ := Int.eq_ofNat_of_zero_le hv1.1
      have e : itT t len p a = (decide (tkK t len (tkE t len (tkE t len p)) = 3), tkE t len (tkE t len p), ua a (28 + (tkV t len (tkE t len p)).toNat) (-1)) := by unfold itT; rw [if_neg (by omega)]
      rw [e, hjn] at ht hf
      rw [show ((jn : Nat) : Int).toNat = jn from rfl] at ht
      have v5 := v2.ln1 (j := jn) (z := -1) (by omega) an.2
      rw [hjn, stV_n w2 (show jn < 6 by omega)]
      have ft3 : frT w (up w2 13 jn (-1)) := ft2.tr (fun i k h1 h2 => up_id _ _ (by omega))
      refine w_al0 hC dX1_readTake_37 ?_
      refine w_vi0 hC vi_X1_29 rfl dX1_readTake_38 rfl hN (c_advance (hT.ft ft3) q2.2 (by rw [up_id _ _ (by decide)]; exact k2.2.1) (fun w4 k4 o4 => ?_))
      refine w_al0 hC dX1_readTake_41 ?_
      refine v_getI hC dX1_readTake_42 fd_X1_36 rfl rfl ?_
      have v6 : VX w4 9 (ua a (28 + jn) (-1)) := v5.fr (fun i k h1 h2 => o4 i k (by omega))
      have ft4 := ft3.tr (frT.of o4)
      rw [k4.2.2.1]
      refine w_ic hC dX1_readTake_45 rfl ?_
      refine v_ic_ne (tgt := 53) hC dX1_readTake_46 rfl (fun h46 => ?_) (fun h46 => ?_)
      · refine w_ic hC dX1_readTake_53 rfl ?_
        refine v_zret hC hR dX1_readTake_54 (by first | decide | omega) ?_
        first
        | exact ht (decide_eq_true (by omega)) _ k4 v6 ft4
        | exact hf (decide_eq_false (by omega)) _ k4 ft4
      · refine w_ic hC dX1_readTake_49 rfl ?_
        refine v_goto (tgt := 54) hC dX1_readTake_50 rfl ?_
        refine v_zret hC hR dX1_readTake_54 (by first | decide | omega) ?_
        first
        | exact ht (decide_eq_true (by omega)) _ k4 v6 ft4
        | exact hf (decide_eq_false (by omega)) _ k4 ft4
    · refine w_ic hC dX1_readTake_23 rfl ?_
      refine v_zret hC hR dX1_readTake_24 (by first | decide | omega) ?_
      have e : itT t len p a = (false, tkE t len p, a) := if_pos (by omega)
      rw [e] at hf
      exact hf rfl w2 k2 (frT.of o2)
  · refine v_if_eq (tgt := 23) hC dX1_readTake_8 rfl (fun _ => ?_) (fun h => absurd h (by decide))
    refine w_ic hC dX1_readTake_23 rfl ?_
    refine v_zret hC hR dX1_readTake_24 (by first | decide | omega) ?_
    have e : itT t len p a = (false, tkE t len p, a) := if_pos (by omega)
    rw [e] at hf
    exact hf rfl w2 k2 (frT.of o2)
