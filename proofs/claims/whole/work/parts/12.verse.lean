/-! a verse: 127 numbers (as the model keeps them); what a verse object holds of it -/
def vb (b : Nat) : Prop := b = 1 ∨ b = 9 ∨ b = 17 ∨ b = 25
theorem kdV {b : Nat} (h : vb b) : kdT b = 2 ∧ kdT (b + 1) = 5 ∧ kdT (b + 2) = 5 ∧ kdT (b + 3) = 5 ∧ kdT (b + 4) = 5 ∧ kdT (b + 5) = 5 ∧ kdT (b + 6) = 5 ∧ kdT (b + 7) = 5 := by
  rcases h with rfl | rfl | rfl | rfl <;> decide
theorem szV {b : Nat} (h : vb b) : szT (b + 1) = 8 ∧ szT (b + 2) = 8 ∧ szT (b + 3) = 8 ∧ szT (b + 4) = 6 ∧ szT (b + 5) = 18 ∧ szT (b + 6) = 24 ∧ szT (b + 7) = 48 := by
  rcases h with rfl | rfl | rfl | rfl <;> decide
def VX (w : Wd) (b : Nat) (a : Nat → Int) : Prop :=
  (w b 0 = a 0 ∧ w b 1 = a 1 ∧ w b 2 = a 2 ∧ w b 3 = a 3 ∧ w b 4 = a 34 ∧ w b 5 = a 53 ∧ w b 6 = a 78) ∧
  (∀ k : Nat, (k : Int) < a 3 → w (b + 1) k = a (4 + k) ∧ w (b + 2) k = a (12 + k) ∧ w (b + 3) k = a (20 + k)) ∧
  (∀ j : Nat, j < 6 → w (b + 4) j = a (28 + j)) ∧
  (∀ k : Nat, (k : Int) < 3 * a 34 → w (b + 5) k = a (35 + k)) ∧
  (∀ k : Nat, (k : Int) < 4 * a 53 → w (b + 6) k = a (54 + k)) ∧
  ∀ k : Nat, (k : Int) < 6 * a 78 → w (b + 7) k = a (79 + k)
/-- a row of six lines: words, each at most once, none behind the last line -/
def LOK (m n : Int) (f : Nat → Int) : Prop := (∀ j, j < 6 → -1 ≤ f j ∧ f j < n ∧ (m ≤ (j : Int) → f j = -1)) ∧ ∀ i j, i < 6 → j < 6 → f i = f j → f i ≠ -1 → i = j
def AOK (a : Nat → Int) : Prop :=
  (0 ≤ a 0 ∧ a 0 ≤ 5) ∧ (1 ≤ a 1 ∧ a 1 ≤ 6) ∧ (0 ≤ a 2 ∧ a 2 < 10 ^ (a 1).toNat) ∧ (0 ≤ a 3 ∧ a 3 ≤ 8) ∧
  (∀ k : Nat, (k : Int) < a 3 → (0 ≤ a (4 + k) ∧ a (4 + k) ≤ 5) ∧ (3 ≤ a (12 + k) ∧ a (12 + k) ≤ 6) ∧ 0 ≤ a (20 + k) ∧ a (20 + k) < 10 ^ (a (12 + k)).toNat) ∧
  LOK (a 1) (a 3) (fun j => a (28 + j)) ∧
  (0 ≤ a 34 ∧ a 34 ≤ 6) ∧ (∀ k : Nat, (k : Int) < a 34 → (3 ≤ a (35 + 3 * k) ∧ a (35 + 3 * k) ≤ 6) ∧ (0 ≤ a (36 + 3 * k) ∧ a (36 + 3 * k) ≤ 5) ∧ 0 ≤ a (37 + 3 * k) ∧ a (37 + 3 * k) ≤ 5) ∧
  (0 ≤ a 53 ∧ a 53 ≤ 6) ∧ (∀ k : Nat, (k : Int) < a 53 → (0 ≤ a (54 + 4 * k) ∧ a (54 + 4 * k) ≤ 7) ∧ (3 ≤ a (55 + 4 * k) ∧ a (55 + 4 * k) ≤ 6) ∧ (0 ≤ a (56 + 4 * k) ∧ a (56 + 4 * k) ≤ 5) ∧ 0 ≤ a (57 + 4 * k) ∧ a (57 + 4 * k) ≤ 20) ∧
  (0 ≤ a 78 ∧ a 78 ≤ 8) ∧ ∀ k : Nat, (k : Int) < a 78 → LOK (a 1) (a 3) (fun j => a (79 + 6 * k + j))
theorem AOK.m {a : Nat → Int} (h : AOK a) : 1 ≤ a 1 ∧ a 1 ≤ 6 := h.2.1
theorem AOK.f {a : Nat → Int} (h : AOK a) : 0 ≤ a 0 ∧ a 0 ≤ 5 := h.1
theorem AOK.n {a : Nat → Int} (h : AOK a) : 0 ≤ a 3 ∧ a 3 ≤ 8 := h.2.2.2.1
theorem AOK.wd {a : Nat → Int} (h : AOK a) {k : Nat} (hk : (k : Int) < a 3) : (0 ≤ a (4 + k) ∧ a (4 + k) ≤ 5) ∧ (3 ≤ a (12 + k) ∧ a (12 + k) ≤ 6) ∧ 0 ≤ a (20 + k) ∧ a (20 + k) < 10 ^ (a (12 + k)).toNat := h.2.2.2.2.1 k hk
theorem AOK.ln {a : Nat → Int} (h : AOK a) : LOK (a 1) (a 3) (fun j => a (28 + j)) := h.2.2.2.2.2.1
theorem AOK.nc {a : Nat → Int} (h : AOK a) : 0 ≤ a 34 ∧ a 34 ≤ 6 := h.2.2.2.2.2.2.1
theorem AOK.no {a : Nat → Int} (h : AOK a) {k : Nat} (hk : (k : Int) < a 34) : (3 ≤ a (35 + 3 * k) ∧ a (35 + 3 * k) ≤ 6) ∧ (0 ≤ a (36 + 3 * k) ∧ a (36 + 3 * k) ≤ 5) ∧ 0 ≤ a (37 + 3 * k) ∧ a (37 + 3 * k) ≤ 5 := h.2.2.2.2.2.2.2.1 k hk
theorem AOK.mc {a : Nat → Int} (h : AOK a) : 0 ≤ a 53 ∧ a 53 ≤ 6 := h.2.2.2.2.2.2.2.2.1
theorem AOK.ma {a : Nat → Int} (h : AOK a) {k : Nat} (hk : (k : Int) < a 53) : (0 ≤ a (54 + 4 * k) ∧ a (54 + 4 * k) ≤ 7) ∧ (3 ≤ a (55 + 4 * k) ∧ a (55 + 4 * k) ≤ 6) ∧ (0 ≤ a (56 + 4 * k) ∧ a (56 + 4 * k) ≤ 5) ∧ 0 ≤ a (57 + 4 * k) ∧ a (57 + 4 * k) ≤ 20 := h.2.2.2.2.2.2.2.2.2.1 k hk
theorem AOK.uc {a : Nat → Int} (h : AOK a) : 0 ≤ a 78 ∧ a 78 ≤ 8 := h.2.2.2.2.2.2.2.2.2.2.1
theorem AOK.un {a : Nat → Int} (h : AOK a) {k : Nat} (hk : (k : Int) < a 78) : LOK (a 1) (a 3) (fun j => a (79 + 6 * k + j)) := h.2.2.2.2.2.2.2.2.2.2.2 k hk
/-! what is asked of a verse -/
/-- the word on a line -/
def wOn (a : Nat → Int) (j : Int) : Int := if 0 ≤ j ∧ j < a 1 then a (28 + j.toNat) else -1
/-- the letter of a word that counts on a line, by a form -/
def lBy (a : Nat → Int) (f wd j : Int) : Int := ltN (a (20 + wd.toNat)) (a (12 + wd.toNat)) (plN f (a (12 + wd.toNat)) j)
def tgL (a : Nat → Int) (j : Int) : Int := ltN (a 2) (a 1) j
def fitB (a : Nat → Int) (f wd j : Int) : Prop := lBy a f wd j = tgL a j
def csB (a : Nat → Int) (wd j : Int) : Int := coN (a (4 + wd.toNat)) (a (12 + wd.toNat)) j
def isR (a : Nat → Int) (j : Int) : Prop := wOn a j ≠ -1 ∧ fitB a (a 0) (wOn a j) j
def isRb (a : Nat → Int) (j : Int) : Bool := decide (wOn a j ≠ -1) && decide (lBy a (a 0) (wOn a j) j = tgL a j)
theorem isRb_t {a : Nat → Int} {j : Int} (h : isR a j) : isRb a j = true := by unfold isRb; simp only [Bool.and_eq_true, decide_eq_true_eq]; exact h
theorem isRb_iff {a : Nat → Int} {j : Int} : isRb a j = true ↔ isR a j := by unfold isRb; simp only [Bool.and_eq_true, decide_eq_true_eq]; exact Iff.rfl
theorem isRb_f {a : Nat → Int} {j : Int} (h : ¬ isR a j) : isRb a j = false := by
  cases hb : isRb a j with
  | false => rfl
  | true => unfold isRb at hb; simp only [Bool.and_eq_true, decide_eq_true_eq] at hb; exact absurd hb h
def fstI (P : Nat → Prop) [∀ j, Decidable (P j)] (n : Nat) : Int := match (List.range n).find? (fun j => decide (P j)) with
  | some j => (j : Int)
  | none => -1
theorem fstI_at {P : Nat → Prop} [∀ j, Decidable (P j)] {n j : Nat} (hj : j < n) (hP : P j) (hb : ∀ i, i < j → ¬ P i) : fstI P n = j := by
  have h : (List.range n).find? (fun j => decide (P j)) = some j := by
    rw [List.find?_range_eq_some]
    exact ⟨by simpa using hP, List.mem_range.mpr hj, fun i hi => by simpa using hb i hi⟩
  unfold fstI
  rw [h]
theorem fstI_no {P : Nat → Prop} [∀ j, Decidable (P j)] {n : Nat} (hb : ∀ i, i < n → ¬ P i) : fstI P n = -1 := by
  have h : (List.range n).find? (fun j => decide (P j)) = none := by
    rw [List.find?_range_eq_none]
    exact fun i hi => by simpa using hb i hi
  unfold fstI
  rw [h]
theorem fstI_spec (P : Nat → Prop) [∀ j, Decidable (P j)] (n : Nat) : (fstI P n = -1 ∧ ∀ i, i < n → ¬ P i) ∨ ∃ j, j < n ∧ fstI P n = (j : Int) ∧ P j ∧ ∀ i, i < j → ¬ P i := by
  rcases Classical.em (∃ j, j < n ∧ P j) with h | h
  · obtain ⟨j, ⟨h1, h2⟩, h3⟩ := pk_least (fun j => j < n ∧ P j) h
    have hb : ∀ i, i < j → ¬ P i := fun i hi hp => h3 i hi ⟨by omega, hp⟩
    exact Or.inr ⟨j, h1, fstI_at h1 h2 hb, h2, hb⟩
  · have hb : ∀ i, i < n → ¬ P i := fun i hi hp => h ⟨i, hi, hp⟩
    exact Or.inl ⟨fstI_no hb, hb⟩
def sumN (f : Nat → Int) : Nat → Int
  | 0 => 0
  | n + 1 => sumN f n + f n
theorem sumN_r {f : Nat → Int} {c : Int} (n : Nat) (h : ∀ j, j < n → 0 ≤ f j ∧ f j ≤ c) : 0 ≤ sumN f n ∧ sumN f n ≤ c * n := by
  induction n with
  | zero => simp [sumN]
  | succ n ih =>
    have h1 := ih (fun j hj => h j (by omega))
    have h2 := h n (by omega)
    have e : c * ((n + 1 : Nat) : Int) = c * n + c := by rw [Int.natCast_add, Int.mul_add]; simp
    rw [e]
    show 0 ≤ sumN f n + f n ∧ sumN f n + f n ≤ _
    omega
theorem sumN_congr {f g : Nat → Int} (n : Nat) (h : ∀ j, j < n → f j = g j) : sumN f n = sumN g n := by
  induction n with
  | zero => rfl
  | succ n ih =>
    show sumN f n + f n = sumN g n + g n
    rw [ih (fun j hj => h j (by omega)), h n (by omega)]
theorem sumN_s {f : Nat → Int} {s v : Int} {j : Nat} (hs : s = sumN f j) (hf : f j = v) : s + v = sumN f (j + 1) := by rw [hs, ← hf]; rfl
def lnOf (a : Nat → Int) (wd : Int) : Int := fstI (fun j => wOn a j = wd) (a 1).toNat
def knB (a : Nat → Int) (n c : Int) : Prop := ∃ k : Nat, (k : Int) < a 3 ∧ a (12 + k) = n ∧ a (20 + k) = c
def csL (a : Nat → Int) (j : Int) : Int := if wOn a j = -1 then 0 else csB a (wOn a j) j
def rtL (a : Nat → Int) : Int := sumN (fun j => if isRb a j then 1 else 0) (a 1).toNat
def fiL (a : Nat → Int) : Int := sumN (fun j => if wOn a j = -1 then 0 else 1) (a 1).toNat
def ctL (a : Nat → Int) : Int := sumN (fun j => csL a j) (a 1).toNat
def feL (a : Nat → Int) : Int := fstI (fun j => wOn a j = -1) (a 1).toNat
theorem wOn_n {a : Nat → Int} {j : Nat} (h : (j : Int) < a 1) : wOn a j = a (28 + j) := by
  unfold wOn
  rw [if_pos ⟨by omega, h⟩]
  rfl
theorem wOn_r {a : Nat → Int} (h : AOK a) (j : Int) : -1 ≤ wOn a j ∧ wOn a j < a 3 := by
  unfold wOn
  split
  next q => 
    have := h.m
    have h2 := h.ln.1 j.toNat (by omega)
    exact ⟨h2.1, h2.2.1⟩
  next => have := h.n; omega
theorem ten_le {n : Nat} (h : n ≤ 6) : (10 : Int) ^ n ≤ 1000000 := by
  have : ∀ n, n ≤ 6 → (10 : Int) ^ n ≤ 1000000 := by decide
  exact this n h
theorem AOK.cd {a : Nat → Int} (h : AOK a) {k : Nat} (hk : (k : Int) < a 3) : 0 ≤ a (20 + k) ∧ a (20 + k) < 1000000 := by
  obtain ⟨-, h1, h2, h3⟩ := h.wd hk
  have := ten_le (n := (a (12 + k)).toNat) (by omega)
  exact ⟨h2, by omega⟩
theorem AOK.tg {a : Nat → Int} (h : AOK a) : 0 ≤ a 2 ∧ a 2 < 1000000 := by
  obtain ⟨h2, h3⟩ := h.2.2.1
  have h1 := h.m
  have := ten_le (n := (a 1).toNat) (by omega)
  exact ⟨h2, by omega⟩

theorem c_hasWord {d : Nat} {w : Wd} {Q : Option MV → Wd → Prop} {b : Nat} {a : Nat → Int} (hb : vb b) (hv : VX w b a) (hA : AOK a) {n : Int} (ht : 0 ≤ n ∧ n < a 3 → Q (some (.inl 1)) w) (hf : ¬ (0 ≤ n ∧ n < a 3) → Q (some (.inl 0)) w) : Call (d + 0) mX2_hasWord [vR b, vI n] w Q := by
  obtain ⟨kd0, kd1, kd2, kd3, kd4, kd5, kd6, kd7⟩ := kdV hb
  obtain ⟨sz1, sz2, sz3, sz4, sz5, sz6, sz7⟩ := szV hb
  obtain ⟨⟨x0, x1, x2, x3, x4, x5, x6⟩, xw, xl, xn, xm, xu⟩ := hv
  have am := hA.m
  have an := hA.n
  refine call_in (ls := [some (vR b), some (vI n)]) (by decide +kernel) rfl (Nat.le_of_ble_eq_true rfl) (fun κ hC hR hN => ?_)
  have hC : ctxB κ RX2 cX2_hasWord (d + 0) := hC
  have hN : mlx κ 2 := hN
  refine w_il1 hC dX2_hasWord_0 ?_
  refine v_if_lt (tgt := 16) hC dX2_hasWord_1 rfl (fun h1 => ?_) (fun h1 => ?_)
  · refine w_ic hC dX2_hasWord_16 rfl ?_
    refine v_zret hC hR dX2_hasWord_17 (by first | decide | omega) ?_
    first | exact ht (by omega) | exact hf (by omega)
  · refine w_il1 hC dX2_hasWord_4 ?_
    refine w_al0 hC dX2_hasWord_5 ?_
    refine v_getI hC dX2_hasWord_6 fd_X2_49 kd0 rfl ?_
    rw [x3]
    refine v_ic_ge (tgt := 16) hC dX2_hasWord_9 rfl (fun h9 => ?_) (fun h9 => ?_)
    · refine w_ic hC dX2_hasWord_16 rfl ?_
      refine v_zret hC hR dX2_hasWord_17 (by first | decide | omega) ?_
      first | exact ht (by omega) | exact hf (by omega)
    · refine w_ic hC dX2_hasWord_12 rfl ?_
      refine v_goto (tgt := 17) hC dX2_hasWord_13 rfl ?_
      refine v_zret hC hR dX2_hasWord_17 (by first | decide | omega) ?_
      first | exact ht (by omega) | exact hf (by omega)

theorem c_hasLine {d : Nat} {w : Wd} {Q : Option MV → Wd → Prop} {b : Nat} {a : Nat → Int} (hb : vb b) (hv : VX w b a) (hA : AOK a) {n : Int} (ht : 0 ≤ n ∧ n < a 1 → Q (some (.inl 1)) w) (hf : ¬ (0 ≤ n ∧ n < a 1) → Q (some (.inl 0)) w) : Call (d + 0) mX2_hasLine [vR b, vI n] w Q := by
  obtain ⟨kd0, kd1, kd2, kd3, kd4, kd5, kd6, kd7⟩ := kdV hb
  obtain ⟨sz1, sz2, sz3, sz4, sz5, sz6, sz7⟩ := szV hb
  obtain ⟨⟨x0, x1, x2, x3, x4, x5, x6⟩, xw, xl, xn, xm, xu⟩ := hv
  have am := hA.m
  have an := hA.n
  refine call_in (ls := [some (vR b), some (vI n)]) (by decide +kernel) rfl (Nat.le_of_ble_eq_true rfl) (fun κ hC hR hN => ?_)
  have hC : ctxB κ RX2 cX2_hasLine (d + 0) := hC
  have hN : mlx κ 2 := hN
  refine w_il1 hC dX2_hasLine_0 ?_
  refine v_if_lt (tgt := 16) hC dX2_hasLine_1 rfl (fun h1 => ?_) (fun h1 => ?_)
  · refine w_ic hC dX2_hasLine_16 rfl ?_
    refine v_zret hC hR dX2_hasLine_17 (by first | decide | omega) ?_
    first | exact ht (by omega) | exact hf (by omega)
  · refine w_il1 hC dX2_hasLine_4 ?_
    refine w_al0 hC dX2_hasLine_5 ?_
    refine v_getI hC dX2_hasLine_6 fd_X2_9 kd0 rfl ?_
    rw [x1]
    refine v_ic_ge (tgt := 16) hC dX2_hasLine_9 rfl (fun h9 => ?_) (fun h9 => ?_)
    · refine w_ic hC dX2_hasLine_16 rfl ?_
      refine v_zret hC hR dX2_hasLine_17 (by first | decide | omega) ?_
      first | exact ht (by omega) | exact hf (by omega)
    · refine w_ic hC dX2_hasLine_12 rfl ?_
      refine v_goto (tgt := 17) hC dX2_hasLine_13 rfl ?_
      refine v_zret hC hR dX2_hasLine_17 (by first | decide | omega) ?_
      first | exact ht (by omega) | exact hf (by omega)

theorem c_kindOf {d : Nat} {w : Wd} {Q : Option MV → Wd → Prop} {b : Nat} {a : Nat → Int} (hb : vb b) (hv : VX w b a) (hA : AOK a) {n : Int} (hn : 0 ≤ n ∧ n < a 3) (hQ : Q (some (.inl (a (4 + n.toNat)))) w) : Call (d + 1) mX2_kindOf [vR b, vI n] w Q := by
  obtain ⟨kd0, kd1, kd2, kd3, kd4, kd5, kd6, kd7⟩ := kdV hb
  obtain ⟨sz1, sz2, sz3, sz4, sz5, sz6, sz7⟩ := szV hb
  obtain ⟨⟨x0, x1, x2, x3, x4, x5, x6⟩, xw, xl, xn, xm, xu⟩ := hv
  have am := hA.m
  have an := hA.n
  refine call_in (ls := [some (vR b), some (vI n)]) (by decide +kernel) rfl (Nat.le_of_ble_eq_true rfl) (fun κ hC hR hN => ?_)
  have hC : ctxB κ RX2 cX2_kindOf (d + 1) := hC
  have hN : mlx κ 2 := hN
  refine w_al0 hC dX2_kindOf_0 ?_
  refine v_getR (off := 1) (j := b + 1) hC dX2_kindOf_1 fd_X2_15 kd0 rfl rfl ?_
  refine w_il1 hC dX2_kindOf_4 ?_
  refine w_sn2 hC sn_X2_65 dX2_kindOf_5 rfl hN (c_at kd1 ?_)
  rw [atV_in w hn.1 (by omega), (xw n.toNat (by omega)).1]
  refine v_iret hC hR dX2_kindOf_8 ?_
  exact hQ

theorem c_lengthOf {d : Nat} {w : Wd} {Q : Option MV → Wd → Prop} {b : Nat} {a : Nat → Int} (hb : vb b) (hv : VX w b a) (hA : AOK a) {n : Int} (hn : 0 ≤ n ∧ n < a 3) (hQ : Q (some (.inl (a (12 + n.toNat)))) w) : Call (d + 1) mX2_lengthOf [vR b, vI n] w Q := by
  obtain ⟨kd0, kd1, kd2, kd3, kd4, kd5, kd6, kd7⟩ := kdV hb
  obtain ⟨sz1, sz2, sz3, sz4, sz5, sz6, sz7⟩ := szV hb
  obtain ⟨⟨x0, x1, x2, x3, x4, x5, x6⟩, xw, xl, xn, xm, xu⟩ := hv
  have am := hA.m
  have an := hA.n
  refine call_in (ls := [some (vR b), some (vI n)]) (by decide +kernel) rfl (Nat.le_of_ble_eq_true rfl) (fun κ hC hR hN => ?_)
  have hC : ctxB κ RX2 cX2_lengthOf (d + 1) := hC
  have hN : mlx κ 2 := hN
  refine w_al0 hC dX2_lengthOf_0 ?_
  refine v_getR (off := 2) (j := b + 2) hC dX2_lengthOf_1 fd_X2_19 kd0 rfl rfl ?_
  refine w_il1 hC dX2_lengthOf_4 ?_
  refine w_sn2 hC sn_X2_65 dX2_lengthOf_5 rfl hN (c_at kd2 ?_)
  rw [atV_in w hn.1 (by omega), (xw n.toNat (by omega)).2.1]
  refine v_iret hC hR dX2_lengthOf_8 ?_
  exact hQ

theorem c_codeOf {d : Nat} {w : Wd} {Q : Option MV → Wd → Prop} {b : Nat} {a : Nat → Int} (hb : vb b) (hv : VX w b a) (hA : AOK a) {n : Int} (hn : 0 ≤ n ∧ n < a 3) (hQ : Q (some (.inl (a (20 + n.toNat)))) w) : Call (d + 1) mX2_codeOf [vR b, vI n] w Q := by
  obtain ⟨kd0, kd1, kd2, kd3, kd4, kd5, kd6, kd7⟩ := kdV hb
  obtain ⟨sz1, sz2, sz3, sz4, sz5, sz6, sz7⟩ := szV hb
  obtain ⟨⟨x0, x1, x2, x3, x4, x5, x6⟩, xw, xl, xn, xm, xu⟩ := hv
  have am := hA.m
  have an := hA.n
  refine call_in (ls := [some (vR b), some (vI n)]) (by decide +kernel) rfl (Nat.le_of_ble_eq_true rfl) (fun κ hC hR hN => ?_)
  have hC : ctxB κ RX2 cX2_codeOf (d + 1) := hC
  have hN : mlx κ 2 := hN
  refine w_al0 hC dX2_codeOf_0 ?_
  refine v_getR (off := 3) (j := b + 3) hC dX2_codeOf_1 fd_X2_22 kd0 rfl rfl ?_
  refine w_il1 hC dX2_codeOf_4 ?_
  refine w_sn2 hC sn_X2_65 dX2_codeOf_5 rfl hN (c_at kd3 ?_)
  rw [atV_in w hn.1 (by omega), (xw n.toNat (by omega)).2.2]
  refine v_iret hC hR dX2_codeOf_8 ?_
  exact hQ

theorem c_wordOn {d : Nat} {w : Wd} {Q : Option MV → Wd → Prop} {b : Nat} {a : Nat → Int} (hb : vb b) (hv : VX w b a) (hA : AOK a) {j : Int} (hQ : Q (some (.inl (wOn a j))) w) : Call (d + 1) mX2_wordOn [vR b, vI j] w Q := by
  obtain ⟨kd0, kd1, kd2, kd3, kd4, kd5, kd6, kd7⟩ := kdV hb
  obtain ⟨sz1, sz2, sz3, sz4, sz5, sz6, sz7⟩ := szV hb
  obtain ⟨⟨x0, x1, x2, x3, x4, x5, x6⟩, xw, xl, xn, xm, xu⟩ := hv
  have am := hA.m
  have an := hA.n
  refine call_in (ls := [some (vR b), some (vI j)]) (by decide +kernel) rfl (Nat.le_of_ble_eq_true rfl) (fun κ hC hR hN => ?_)
  have hC : ctxB κ RX2 cX2_wordOn (d + 1) := hC
  have hN : mlx κ 2 := hN
  refine w_al0 hC dX2_wordOn_0 ?_
  refine w_il1 hC dX2_wordOn_1 ?_
  refine w_vi1 hC vi_X2_69 kd0 dX2_wordOn_2 rfl hN (c_hasLine hb ⟨⟨x0, x1, x2, x3, x4, x5, x6⟩, xw, xl, xn, xm, xu⟩ hA (fun h => ?_) (fun h => ?_))
  · refine v_if_eq (tgt := 19) hC dX2_wordOn_5 rfl (fun h => absurd h (by decide)) (fun _ => ?_)
    refine w_al0 hC dX2_wordOn_8 ?_
    refine v_getR (off := 4) (j := b + 4) hC dX2_wordOn_9 fd_X2_25 kd0 rfl rfl ?_
    refine w_il1 hC dX2_wordOn_12 ?_
    refine w_sn2 hC sn_X2_65 dX2_wordOn_13 rfl hN (c_at kd4 ?_)
    rw [atV_in w h.1 (by omega), xl j.toNat (by omega)]
    refine v_goto (tgt := 20) hC dX2_wordOn_16 rfl ?_
    refine v_iret hC hR dX2_wordOn_20 ?_
    first | (rw [show wOn a j = a (28 + j.toNat) from if_pos h] at hQ; exact hQ) | (rw [show wOn a j = -1 from if_neg h] at hQ; exact hQ)
  · refine v_if_eq (tgt := 19) hC dX2_wordOn_5 rfl (fun _ => ?_) (fun h => absurd h (by decide))
    refine w_ic hC dX2_wordOn_19 rfl ?_
    refine v_iret hC hR dX2_wordOn_20 ?_
    first | (rw [show wOn a j = a (28 + j.toNat) from if_pos h] at hQ; exact hQ) | (rw [show wOn a j = -1 from if_neg h] at hQ; exact hQ)

theorem c_lineOf {d : Nat} {w : Wd} {Q : Option MV → Wd → Prop} {b : Nat} {a : Nat → Int} (hb : vb b) (hv : VX w b a) (hA : AOK a) {wd : Int} (hQ : Q (some (.inl (lnOf a wd))) w) : Call (d + 2) mX2_lineOf [vR b, vI wd] w Q := by
  obtain ⟨kd0, kd1, kd2, kd3, kd4, kd5, kd6, kd7⟩ := kdV hb
  obtain ⟨sz1, sz2, sz3, sz4, sz5, sz6, sz7⟩ := szV hb
  obtain ⟨⟨x0, x1, x2, x3, x4, x5, x6⟩, xw, xl, xn, xm, xu⟩ := hv
  have am := hA.m
  have an := hA.n
  refine call_in (ls := [some (vR b), some (vI wd), none]) (by decide +kernel) rfl (Nat.le_of_ble_eq_true rfl) (fun κ hC hR hN => ?_)
  have hC : ctxB κ RX2 cX2_lineOf (d + 2) := hC
  have hN : mlx κ 3 := hN
  refine w_ic hC dX2_lineOf_0 rfl ?_
  refine w_is2 hC dX2_lineOf_1 hN (by first | rfl | assumption) ?_
  have lp2 : ∀ (k : Nat) (j : Nat), ((a 1).toNat - j) < k → ((j : Int) ≤ a 1) → (∀ i : Nat, i < j → ¬ wOn a i = wd) → VV κ 2 [some (vR b), some (vI wd), some (vI (j : Int))] [] w := by
    intro k
    induction k with
    | zero => intros; omega
    | succ k ih =>
      intro j hm2 hj hi
      refine w_il2 hC dX2_lineOf_2 ?_
      refine w_al0 hC dX2_lineOf_3 ?_
      refine v_getI hC dX2_lineOf_4 fd_X2_9 kd0 rfl ?_
      rw [x1]
      refine v_ic_ge (tgt := 27) hC dX2_lineOf_7 rfl (fun h7 => ?_) (fun h7 => ?_)
      · refine w_ic hC dX2_lineOf_27 rfl ?_
        refine v_iret hC hR dX2_lineOf_28 ?_
        rw [show lnOf a wd = -1 from fstI_no (fun i h => hi i (by omega))] at hQ; exact hQ
      · refine w_al0 hC dX2_lineOf_10 ?_
        refine w_il2 hC dX2_lineOf_11 ?_
        refine w_vi1 hC vi_X2_73 kd0 dX2_lineOf_12 rfl hN (c_wordOn hb ⟨⟨x0, x1, x2, x3, x4, x5, x6⟩, xw, xl, xn, xm, xu⟩ hA ?_)
        refine w_il1 hC dX2_lineOf_15 ?_
        refine v_ic_ne (tgt := 21) hC dX2_lineOf_16 rfl (fun h16 => ?_) (fun h16 => ?_)
        · refine w_inc2 hC dX2_lineOf_21 hN (by first | rfl | assumption) (ri_mk (by omega) (by omega)) ?_
          refine v_goto (tgt := 2) hC dX2_lineOf_24 rfl ?_
          exact ih (j + 1) (by omega) (by omega) (lt_s hi (by omega))
        · refine w_il2 hC dX2_lineOf_19 ?_
          refine v_iret hC hR dX2_lineOf_20 ?_
          rw [show lnOf a wd = (j : Int) from fstI_at (by omega) (by omega) hi] at hQ; exact hQ
  exact lp2 ((a 1).toNat + 1) 0 (by omega) (by omega) (fun i h => by omega)

theorem c_knows {d : Nat} {w : Wd} {Q : Option MV → Wd → Prop} {b : Nat} {a : Nat → Int} (hb : vb b) (hv : VX w b a) (hA : AOK a) {n c : Int} (ht : knB a n c → Q (some (.inl 1)) w) (hf : ¬ knB a n c → Q (some (.inl 0)) w) : Call (d + 2) mX2_knows [vR b, vI n, vI c] w Q := by
  obtain ⟨kd0, kd1, kd2, kd3, kd4, kd5, kd6, kd7⟩ := kdV hb
  obtain ⟨sz1, sz2, sz3, sz4, sz5, sz6, sz7⟩ := szV hb
  obtain ⟨⟨x0, x1, x2, x3, x4, x5, x6⟩, xw, xl, xn, xm, xu⟩ := hv
  have am := hA.m
  have an := hA.n
  refine call_in (ls := [some (vR b), some (vI n), some (vI c), none]) (by decide +kernel) rfl (Nat.le_of_ble_eq_true rfl) (fun κ hC hR hN => ?_)
  have hC : ctxB κ RX2 cX2_knows (d + 2) := hC
  have hN : mlx κ 4 := hN
  refine w_ic hC dX2_knows_0 rfl ?_
  refine w_is3 hC dX2_knows_1 hN (by first | rfl | assumption) ?_
  have lp2 : ∀ (k : Nat) (j : Nat), ((a 3).toNat - j) < k → ((j : Int) ≤ a 3) → (∀ i : Nat, i < j → ¬ (a (12 + i) = n ∧ a (20 + i) = c)) → VV κ 2 [some (vR b), some (vI n), some (vI c), some (vI (j : Int))] [] w := by
    intro k
    induction k with
    | zero => intros; omega
    | succ k ih =>
      intro j hm2 hj hi
      refine w_il3 hC dX2_knows_2 ?_
      refine w_al0 hC dX2_knows_3 ?_
      refine v_getI hC dX2_knows_4 fd_X2_49 kd0 rfl ?_
      rw [x3]
      refine v_ic_ge (tgt := 36) hC dX2_knows_7 rfl (fun h7 => ?_) (fun h7 => ?_)
      · refine w_ic hC dX2_knows_36 rfl ?_
        refine v_zret hC hR dX2_knows_37 (by first | decide | omega) ?_
        exact hf (fun ⟨i, h1, h2⟩ => hi i (by omega) h2)
      · refine w_al0 hC dX2_knows_10 ?_
        refine w_il3 hC dX2_knows_11 ?_
        refine w_vi1 hC vi_X2_77 kd0 dX2_knows_12 rfl hN (c_lengthOf hb ⟨⟨x0, x1, x2, x3, x4, x5, x6⟩, xw, xl, xn, xm, xu⟩ hA ⟨by omega, by omega⟩ ?_)
        rw [Int.toNat_natCast]
        refine w_il1 hC dX2_knows_15 ?_
        refine v_ic_ne (tgt := 30) hC dX2_knows_16 rfl (fun h16 => ?_) (fun h16 => ?_)
        · refine w_inc3 hC dX2_knows_30 hN (by first | rfl | assumption) (ri_mk (by omega) (by omega)) ?_
          refine v_goto (tgt := 2) hC dX2_knows_33 rfl ?_
          exact ih (j + 1) (by omega) (by omega) (lt_s hi (by first | (intro h; exact h16 h.1) | (intro h; exact h25 h.2)))
        · refine w_al0 hC dX2_knows_19 ?_
          refine w_il3 hC dX2_knows_20 ?_
          refine w_vi1 hC vi_X2_80 kd0 dX2_knows_21 rfl hN (c_codeOf hb ⟨⟨x0, x1, x2, x3, x4, x5, x6⟩, xw, xl, xn, xm, xu⟩ hA ⟨by omega, by omega⟩ ?_)
          rw [Int.toNat_natCast]
          refine w_il2 hC dX2_knows_24 ?_
          refine v_ic_ne (tgt := 30) hC dX2_knows_25 rfl (fun h25 => ?_) (fun h25 => ?_)
          · refine w_inc3 hC dX2_knows_30 hN (by first | rfl | assumption) (ri_mk (by omega) (by omega)) ?_
            refine v_goto (tgt := 2) hC dX2_knows_33 rfl ?_
            exact ih (j + 1) (by omega) (by omega) (lt_s hi (by first | (intro h; exact h16 h.1) | (intro h; exact h25 h.2)))
          · refine w_ic hC dX2_knows_28 rfl ?_
            refine v_zret hC hR dX2_knows_29 (by first | decide | omega) ?_
            exact ht ⟨j, by omega, h16, h25⟩
  exact lp2 ((a 3).toNat + 1) 0 (by omega) (by omega) (fun i h => by omega)

theorem c_targetLetter {d : Nat} {w : Wd} {Q : Option MV → Wd → Prop} {b : Nat} {a : Nat → Int} (hb : vb b) (hv : VX w b a) (hA : AOK a) {j : Int} (hj : 0 ≤ j ∧ j ≤ 5) (hQ : Q (some (.inl (tgL a j))) w) : Call (d + 1) mX2_targetLetter [vR b, vI j] w Q := by
  obtain ⟨kd0, kd1, kd2, kd3, kd4, kd5, kd6, kd7⟩ := kdV hb
  obtain ⟨sz1, sz2, sz3, sz4, sz5, sz6, sz7⟩ := szV hb
  obtain ⟨⟨x0, x1, x2, x3, x4, x5, x6⟩, xw, xl, xn, xm, xu⟩ := hv
  have am := hA.m
  have an := hA.n
  refine call_in (ls := [some (vR b), some (vI j)]) (by decide +kernel) rfl (Nat.le_of_ble_eq_true rfl) (fun κ hC hR hN => ?_)
  have hC : ctxB κ RX2 cX2_targetLetter (d + 1) := hC
  have hN : mlx κ 2 := hN
  refine w_al0 hC dX2_targetLetter_0 ?_
  refine v_getI hC dX2_targetLetter_1 fd_X2_46 kd0 rfl ?_
  rw [x2]
  refine w_al0 hC dX2_targetLetter_4 ?_
  refine v_getI hC dX2_targetLetter_5 fd_X2_9 kd0 rfl ?_
  rw [x1]
  refine w_il1 hC dX2_targetLetter_8 ?_
  refine w_sn3 hC sn_X2_87 dX2_targetLetter_9 rfl hN (c_letterOf hA.tg.1 ⟨by omega, by omega⟩ ⟨by omega, by omega⟩ ?_)
  refine v_iret hC hR dX2_targetLetter_12 ?_
  exact hQ

theorem c_letterBy {d : Nat} {w : Wd} {Q : Option MV → Wd → Prop} {b : Nat} {a : Nat → Int} (hb : vb b) (hv : VX w b a) (hA : AOK a) {f n j : Int} (hn : 0 ≤ n ∧ n < a 3) (hj : 0 ≤ j ∧ j ≤ 5) (hQ : Q (some (.inl (lBy a f n j))) w) : Call (d + 1) mX2_letterBy [vR b, vI f, vI n, vI j] w Q := by
  obtain ⟨kd0, kd1, kd2, kd3, kd4, kd5, kd6, kd7⟩ := kdV hb
  obtain ⟨sz1, sz2, sz3, sz4, sz5, sz6, sz7⟩ := szV hb
  obtain ⟨⟨x0, x1, x2, x3, x4, x5, x6⟩, xw, xl, xn, xm, xu⟩ := hv
  have am := hA.m
  have an := hA.n
  refine call_in (ls := [some (vR b), some (vI f), some (vI n), some (vI j), none]) (by decide +kernel) rfl (Nat.le_of_ble_eq_true rfl) (fun κ hC hR hN => ?_)
  have hC : ctxB κ RX2 cX2_letterBy (d + 1) := hC
  have hN : mlx κ 5 := hN
  refine w_al0 hC dX2_letterBy_0 ?_
  refine v_getR (off := 2) (j := b + 2) hC dX2_letterBy_1 fd_X2_19 kd0 rfl rfl ?_
  refine w_il2 hC dX2_letterBy_4 ?_
  refine w_sn2 hC sn_X2_65 dX2_letterBy_5 rfl hN (c_at kd2 ?_)
  rw [atV_in w hn.1 (by omega), (xw n.toNat (by omega)).2.1]
  obtain ⟨-, h12, -, -⟩ := hA.wd (k := n.toNat) (by omega)
  have hcd := hA.cd (k := n.toNat) (by omega)
  have hpl := plN_r (f := f) (n := a (12 + n.toNat)) (j := j) (by omega) hj.1
  refine w_is4 hC dX2_letterBy_8 hN (by first | rfl | assumption) ?_
  refine w_al0 hC dX2_letterBy_10 ?_
  refine v_getR (off := 3) (j := b + 3) hC dX2_letterBy_11 fd_X2_22 kd0 rfl rfl ?_
  refine w_il2 hC dX2_letterBy_14 ?_
  refine w_sn2 hC sn_X2_65 dX2_letterBy_15 rfl hN (c_at kd3 ?_)
  rw [atV_in w hn.1 (by omega), (xw n.toNat (by omega)).2.2]
  refine w_il4 hC dX2_letterBy_18 ?_
  refine w_il1 hC dX2_letterBy_20 ?_
  refine w_il4 hC dX2_letterBy_21 ?_
  refine w_il3 hC dX2_letterBy_23 ?_
  refine w_sn3 hC sn_X2_91 dX2_letterBy_24 rfl hN (c_placeOf ⟨by omega, by omega⟩ ⟨by omega, by omega⟩ ?_)
  refine w_sn3 hC sn_X2_87 dX2_letterBy_27 rfl hN (c_letterOf hcd.1 ⟨by omega, by omega⟩ ⟨by omega, by omega⟩ ?_)
  refine v_iret hC hR dX2_letterBy_30 ?_
  exact hQ

theorem c_fitsBy {d : Nat} {w : Wd} {Q : Option MV → Wd → Prop} {b : Nat} {a : Nat → Int} (hb : vb b) (hv : VX w b a) (hA : AOK a) {f n j : Int} (hn : 0 ≤ n ∧ n < a 3) (hj : 0 ≤ j ∧ j ≤ 5) (ht : fitB a f n j → Q (some (.inl 1)) w) (hf : ¬ fitB a f n j → Q (some (.inl 0)) w) : Call (d + 2) mX2_fitsBy [vR b, vI f, vI n, vI j] w Q := by
  obtain ⟨kd0, kd1, kd2, kd3, kd4, kd5, kd6, kd7⟩ := kdV hb
  obtain ⟨sz1, sz2, sz3, sz4, sz5, sz6, sz7⟩ := szV hb
  obtain ⟨⟨x0, x1, x2, x3, x4, x5, x6⟩, xw, xl, xn, xm, xu⟩ := hv
  have am := hA.m
  have an := hA.n
  refine call_in (ls := [some (vR b), some (vI f), some (vI n), some (vI j)]) (by decide +kernel) rfl (Nat.le_of_ble_eq_true rfl) (fun κ hC hR hN => ?_)
  have hC : ctxB κ RX2 cX2_fitsBy (d + 2) := hC
  have hN : mlx κ 4 := hN
  refine w_al0 hC dX2_fitsBy_0 ?_
  refine w_il1 hC dX2_fitsBy_1 ?_
  refine w_il2 hC dX2_fitsBy_2 ?_
  refine w_il3 hC dX2_fitsBy_3 ?_
  refine w_vi3 hC vi_X2_94 kd0 dX2_fitsBy_4 rfl hN (c_letterBy hb ⟨⟨x0, x1, x2, x3, x4, x5, x6⟩, xw, xl, xn, xm, xu⟩ hA hn hj ?_)
  refine w_al0 hC dX2_fitsBy_7 ?_
  refine w_il3 hC dX2_fitsBy_8 ?_
  refine w_vi1 hC vi_X2_97 kd0 dX2_fitsBy_9 rfl hN (c_targetLetter hb ⟨⟨x0, x1, x2, x3, x4, x5, x6⟩, xw, xl, xn, xm, xu⟩ hA hj ?_)
  refine v_ic_ne (tgt := 19) hC dX2_fitsBy_12 rfl (fun h12 => ?_) (fun h12 => ?_)
  · refine w_ic hC dX2_fitsBy_19 rfl ?_
    refine v_zret hC hR dX2_fitsBy_20 (by first | decide | omega) ?_
    first | exact ht h12 | exact hf h12
  · refine w_ic hC dX2_fitsBy_15 rfl ?_
    refine v_goto (tgt := 20) hC dX2_fitsBy_16 rfl ?_
    refine v_zret hC hR dX2_fitsBy_20 (by first | decide | omega) ?_
    first | exact ht h12 | exact hf h12

theorem c_costBy {d : Nat} {w : Wd} {Q : Option MV → Wd → Prop} {b : Nat} {a : Nat → Int} (hb : vb b) (hv : VX w b a) (hA : AOK a) {n j : Int} (hn : 0 ≤ n ∧ n < a 3) (hj : 0 ≤ j ∧ j ≤ 5) (hQ : Q (some (.inl (csB a n j))) w) : Call (d + 2) mX2_costBy [vR b, vI n, vI j] w Q := by
  obtain ⟨kd0, kd1, kd2, kd3, kd4, kd5, kd6, kd7⟩ := kdV hb
  obtain ⟨sz1, sz2, sz3, sz4, sz5, sz6, sz7⟩ := szV hb
  obtain ⟨⟨x0, x1, x2, x3, x4, x5, x6⟩, xw, xl, xn, xm, xu⟩ := hv
  have am := hA.m
  have an := hA.n
  refine call_in (ls := [some (vR b), some (vI n), some (vI j)]) (by decide +kernel) rfl (Nat.le_of_ble_eq_true rfl) (fun κ hC hR hN => ?_)
  have hC : ctxB κ RX2 cX2_costBy (d + 2) := hC
  have hN : mlx κ 3 := hN
  refine w_al0 hC dX2_costBy_0 ?_
  refine w_il1 hC dX2_costBy_1 ?_
  refine w_vi1 hC vi_X2_100 kd0 dX2_costBy_2 rfl hN (c_kindOf hb ⟨⟨x0, x1, x2, x3, x4, x5, x6⟩, xw, xl, xn, xm, xu⟩ hA hn ?_)
  refine w_al0 hC dX2_costBy_5 ?_
  refine w_il1 hC dX2_costBy_6 ?_
  refine w_vi1 hC vi_X2_77 kd0 dX2_costBy_7 rfl hN (c_lengthOf hb ⟨⟨x0, x1, x2, x3, x4, x5, x6⟩, xw, xl, xn, xm, xu⟩ hA hn ?_)
  obtain ⟨-, h12, -, -⟩ := hA.wd (k := n.toNat) (by omega)
  refine w_il2 hC dX2_costBy_10 ?_
  refine w_sn3 hC sn_X2_103 dX2_costBy_11 rfl hN (c_costOf ⟨by omega, by omega⟩ ⟨by omega, by omega⟩ ?_)
  refine v_iret hC hR dX2_costBy_14 ?_
  exact hQ

theorem c_costOnLine {d : Nat} {w : Wd} {Q : Option MV → Wd → Prop} {b : Nat} {a : Nat → Int} (hb : vb b) (hv : VX w b a) (hA : AOK a) {j : Int} (hj : 0 ≤ j ∧ j ≤ 5) (hQ : Q (some (.inl (csL a j))) w) : Call (d + 3) mX2_costOnLine [vR b, vI j] w Q := by
  obtain ⟨kd0, kd1, kd2, kd3, kd4, kd5, kd6, kd7⟩ := kdV hb
  obtain ⟨sz1, sz2, sz3, sz4, sz5, sz6, sz7⟩ := szV hb
  obtain ⟨⟨x0, x1, x2, x3, x4, x5, x6⟩, xw, xl, xn, xm, xu⟩ := hv
  have am := hA.m
  have an := hA.n
  refine call_in (ls := [some (vR b), some (vI j), none]) (by decide +kernel) rfl (Nat.le_of_ble_eq_true rfl) (fun κ hC hR hN => ?_)
  have hC : ctxB κ RX2 cX2_costOnLine (d + 3) := hC
  have hN : mlx κ 3 := hN
  refine w_al0 hC dX2_costOnLine_0 ?_
  refine w_il1 hC dX2_costOnLine_1 ?_
  refine w_vi1 hC vi_X2_73 kd0 dX2_costOnLine_2 rfl hN (c_wordOn hb ⟨⟨x0, x1, x2, x3, x4, x5, x6⟩, xw, xl, xn, xm, xu⟩ hA ?_)
  have hw := wOn_r hA j
  refine w_is2 hC dX2_costOnLine_5 hN (by first | rfl | assumption) ?_
  refine w_il2 hC dX2_costOnLine_6 ?_
  refine w_ic hC dX2_costOnLine_7 rfl ?_
  refine v_ic_ne (tgt := 15) hC dX2_costOnLine_8 rfl (fun h8 => ?_) (fun h8 => ?_)
  · refine w_al0 hC dX2_costOnLine_15 ?_
    refine w_il2 hC dX2_costOnLine_16 ?_
    refine w_il1 hC dX2_costOnLine_17 ?_
    refine w_vi2 hC vi_X2_106 kd0 dX2_costOnLine_18 rfl hN (c_costBy hb ⟨⟨x0, x1, x2, x3, x4, x5, x6⟩, xw, xl, xn, xm, xu⟩ hA (by omega) hj ?_)
    refine v_iret hC hR dX2_costOnLine_21 ?_
    first | (rw [show csL a j = 0 from if_pos h8] at hQ; exact hQ) | (rw [show csL a j = csB a (wOn a j) j from if_neg h8] at hQ; exact hQ)
  · refine w_ic hC dX2_costOnLine_11 rfl ?_
    refine v_goto (tgt := 21) hC dX2_costOnLine_12 rfl ?_
    refine v_iret hC hR dX2_costOnLine_21 ?_
    first | (rw [show csL a j = 0 from if_pos h8] at hQ; exact hQ) | (rw [show csL a j = csB a (wOn a j) j from if_neg h8] at hQ; exact hQ)

theorem c_isRight {d : Nat} {w : Wd} {Q : Option MV → Wd → Prop} {b : Nat} {a : Nat → Int} (hb : vb b) (hv : VX w b a) (hA : AOK a) {j : Int} (hj : 0 ≤ j ∧ j ≤ 5) (ht : isR a j → Q (some (.inl 1)) w) (hf : ¬ isR a j → Q (some (.inl 0)) w) : Call (d + 3) mX2_isRight [vR b, vI j] w Q := by
  obtain ⟨kd0, kd1, kd2, kd3, kd4, kd5, kd6, kd7⟩ := kdV hb
  obtain ⟨sz1, sz2, sz3, sz4, sz5, sz6, sz7⟩ := szV hb
  obtain ⟨⟨x0, x1, x2, x3, x4, x5, x6⟩, xw, xl, xn, xm, xu⟩ := hv
  have am := hA.m
  have an := hA.n
  refine call_in (ls := [some (vR b), some (vI j), none]) (by decide +kernel) rfl (Nat.le_of_ble_eq_true rfl) (fun κ hC hR hN => ?_)
  have hC : ctxB κ RX2 cX2_isRight (d + 3) := hC
  have hN : mlx κ 3 := hN
  refine w_al0 hC dX2_isRight_0 ?_
  refine w_il1 hC dX2_isRight_1 ?_
  refine w_vi1 hC vi_X2_73 kd0 dX2_isRight_2 rfl hN (c_wordOn hb ⟨⟨x0, x1, x2, x3, x4, x5, x6⟩, xw, xl, xn, xm, xu⟩ hA ?_)
  have hw := wOn_r hA j
  refine w_is2 hC dX2_isRight_5 hN (by first | rfl | assumption) ?_
  refine w_il2 hC dX2_isRight_6 ?_
  refine w_ic hC dX2_isRight_7 rfl ?_
  refine v_ic_eq (tgt := 28) hC dX2_isRight_8 rfl (fun h8 => ?_) (fun h8 => ?_)
  · refine w_ic hC dX2_isRight_28 rfl ?_
    refine v_zret hC hR dX2_isRight_29 (by first | decide | omega) ?_
    first | exact ht ⟨h8, h⟩ | exact hf (fun q => q.1 h8) | exact hf (fun q => h q.2)
  · refine w_al0 hC dX2_isRight_11 ?_
    refine w_al0 hC dX2_isRight_12 ?_
    refine v_getI hC dX2_isRight_13 fd_X2_43 kd0 rfl ?_
    rw [x0]
    refine w_il2 hC dX2_isRight_16 ?_
    refine w_il1 hC dX2_isRight_17 ?_
    refine w_vi3 hC vi_X2_110 kd0 dX2_isRight_18 rfl hN (c_fitsBy hb ⟨⟨x0, x1, x2, x3, x4, x5, x6⟩, xw, xl, xn, xm, xu⟩ hA (by omega) hj (fun h => ?_) (fun h => ?_))
    · refine v_if_eq (tgt := 28) hC dX2_isRight_21 rfl (fun h => absurd h (by decide)) (fun _ => ?_)
      refine w_ic hC dX2_isRight_24 rfl ?_
      refine v_goto (tgt := 29) hC dX2_isRight_25 rfl ?_
      refine v_zret hC hR dX2_isRight_29 (by first | decide | omega) ?_
      first | exact ht ⟨h8, h⟩ | exact hf (fun q => q.1 h8) | exact hf (fun q => h q.2)
    · refine v_if_eq (tgt := 28) hC dX2_isRight_21 rfl (fun _ => ?_) (fun h => absurd h (by decide))
      refine w_ic hC dX2_isRight_28 rfl ?_
      refine v_zret hC hR dX2_isRight_29 (by first | decide | omega) ?_
      first | exact ht ⟨h8, h⟩ | exact hf (fun q => q.1 h8) | exact hf (fun q => h q.2)

theorem c_rightLines {d : Nat} {w : Wd} {Q : Option MV → Wd → Prop} {b : Nat} {a : Nat → Int} (hb : vb b) (hv : VX w b a) (hA : AOK a) (hQ : Q (some (.inl (rtL a))) w) : Call (d + 4) mX2_rightLines [vR b] w Q := by
  obtain ⟨kd0, kd1, kd2, kd3, kd4, kd5, kd6, kd7⟩ := kdV hb
  obtain ⟨sz1, sz2, sz3, sz4, sz5, sz6, sz7⟩ := szV hb
  obtain ⟨⟨x0, x1, x2, x3, x4, x5, x6⟩, xw, xl, xn, xm, xu⟩ := hv
  have am := hA.m
  have an := hA.n
  refine call_in (ls := [some (vR b), none, none]) (by decide +kernel) rfl (Nat.le_of_ble_eq_true rfl) (fun κ hC hR hN => ?_)
  have hC : ctxB κ RX2 cX2_rightLines (d + 4) := hC
  have hN : mlx κ 3 := hN
  refine w_ic hC dX2_rightLines_0 rfl ?_
  refine w_is1 hC dX2_rightLines_1 hN (by first | rfl | assumption) ?_
  refine w_ic hC dX2_rightLines_2 rfl ?_
  refine w_is2 hC dX2_rightLines_3 hN (by first | rfl | assumption) ?_
  have lp4 : ∀ (k : Nat) (s : Int) (j : Nat), ((a 1).toNat - j) < k → ((j : Int) ≤ a 1) → (s = sumN (fun j => if isRb a j then 1 else 0) j) → VV κ 4 [some (vR b), some (vI s), some (vI (j : Int))] [] w := by
    intro k
    induction k with
    | zero => intros; omega
    | succ k ih =>
      intro s j hm4 hj hs
      have hr := sumN_r (f := (fun j => if isRb a j then 1 else 0)) (c := 1) j (fun i hi => (by split <;> omega))
      refine w_il2 hC dX2_rightLines_4 ?_
      refine w_al0 hC dX2_rightLines_5 ?_
      refine v_getI hC dX2_rightLines_6 fd_X2_9 kd0 rfl ?_
      rw [x1]
      refine v_ic_ge (tgt := 34) hC dX2_rightLines_9 rfl (fun h9 => ?_) (fun h9 => ?_)
      · refine w_il1 hC dX2_rightLines_34 ?_
        refine v_iret hC hR dX2_rightLines_35 ?_
        rw [show rtL a = s by rw [hs]; unfold rtL; congr 1; omega] at hQ; exact hQ
      · refine w_il1 hC dX2_rightLines_12 ?_
        refine w_al0 hC dX2_rightLines_13 ?_
        refine w_il2 hC dX2_rightLines_14 ?_
        refine w_vi1 hC vi_X2_114 kd0 dX2_rightLines_15 rfl hN (c_isRight hb ⟨⟨x0, x1, x2, x3, x4, x5, x6⟩, xw, xl, xn, xm, xu⟩ hA ⟨by omega, by omega⟩ (fun h => ?_) (fun h => ?_))
        · refine v_if_eq (tgt := 25) hC dX2_rightLines_18 rfl (fun h => absurd h (by decide)) (fun _ => ?_)
          refine w_ic hC dX2_rightLines_21 rfl ?_
          refine v_goto (tgt := 26) hC dX2_rightLines_22 rfl ?_
          refine w_iadd hC dX2_rightLines_26 (ri_mk (by omega) (by omega)) ?_
          refine w_is1 hC dX2_rightLines_27 hN (by first | rfl | assumption) ?_
          refine w_inc2 hC dX2_rightLines_28 hN (by first | rfl | assumption) (ri_mk (by omega) (by omega)) ?_
          refine v_goto (tgt := 4) hC dX2_rightLines_31 rfl ?_
          exact ih _ (j + 1) (by omega) (by omega) (sumN_s hs (by simp [isRb_iff, h]))
        · refine v_if_eq (tgt := 25) hC dX2_rightLines_18 rfl (fun _ => ?_) (fun h => absurd h (by decide))
          refine w_ic hC dX2_rightLines_25 rfl ?_
          refine w_iadd hC dX2_rightLines_26 (ri_mk (by omega) (by omega)) ?_
          refine w_is1 hC dX2_rightLines_27 hN (by first | rfl | assumption) ?_
          refine w_inc2 hC dX2_rightLines_28 hN (by first | rfl | assumption) (ri_mk (by omega) (by omega)) ?_
          refine v_goto (tgt := 4) hC dX2_rightLines_31 rfl ?_
          exact ih _ (j + 1) (by omega) (by omega) (sumN_s hs (by simp [isRb_iff, h]))
  exact lp4 ((a 1).toNat + 1) 0 0 (by omega) (by omega) rfl

theorem csB_r {a : Nat → Int} (hA : AOK a) {n j : Int} (hn : 0 ≤ n ∧ n < a 3) (h0 : 0 ≤ j) (h1 : j ≤ 5) : 0 ≤ csB a n j ∧ csB a n j ≤ 12 := by
  obtain ⟨-, h12, -, -⟩ := hA.wd (k := n.toNat) (by omega)
  exact coN_r (by omega) (by omega) h0 (by omega)
theorem csL_r {a : Nat → Int} (hA : AOK a) {j : Int} (h0 : 0 ≤ j) (h1 : j ≤ 5) : 0 ≤ csL a j ∧ csL a j ≤ 12 := by
  have hw := wOn_r hA j
  unfold csL
  split
  next => omega
  next => exact csB_r hA (by omega) h0 h1

theorem c_costOfLines {d : Nat} {w : Wd} {Q : Option MV → Wd → Prop} {b : Nat} {a : Nat → Int} (hb : vb b) (hv : VX w b a) (hA : AOK a) (hQ : Q (some (.inl (ctL a))) w) : Call (d + 4) mX2_costOfLines [vR b] w Q := by
  obtain ⟨kd0, kd1, kd2, kd3, kd4, kd5, kd6, kd7⟩ := kdV hb
  obtain ⟨sz1, sz2, sz3, sz4, sz5, sz6, sz7⟩ := szV hb
  obtain ⟨⟨x0, x1, x2, x3, x4, x5, x6⟩, xw, xl, xn, xm, xu⟩ := hv
  have am := hA.m
  have an := hA.n
  refine call_in (ls := [some (vR b), none, none]) (by decide +kernel) rfl (Nat.le_of_ble_eq_true rfl) (fun κ hC hR hN => ?_)
  have hC : ctxB κ RX2 cX2_costOfLines (d + 4) := hC
  have hN : mlx κ 3 := hN
  refine w_ic hC dX2_costOfLines_0 rfl ?_
  refine w_is1 hC dX2_costOfLines_1 hN (by first | rfl | assumption) ?_
  refine w_ic hC dX2_costOfLines_2 rfl ?_
  refine w_is2 hC dX2_costOfLines_3 hN (by first | rfl | assumption) ?_
  have lp4 : ∀ (k : Nat) (s : Int) (j : Nat), ((a 1).toNat - j) < k → ((j : Int) ≤ a 1) → (s = sumN (fun j => csL a j) j) → VV κ 4 [some (vR b), some (vI s), some (vI (j : Int))] [] w := by
    intro k
    induction k with
    | zero => intros; omega
    | succ k ih =>
      intro s j hm4 hj hs
      have hr := sumN_r (f := (fun j => csL a j)) (c := 12) j (fun i hi => csL_r hA (by omega) (by omega))
      refine w_il2 hC dX2_costOfLines_4 ?_
      refine w_al0 hC dX2_costOfLines_5 ?_
      refine v_getI hC dX2_costOfLines_6 fd_X2_9 kd0 rfl ?_
      rw [x1]
      refine v_ic_ge (tgt := 26) hC dX2_costOfLines_9 rfl (fun h9 => ?_) (fun h9 => ?_)
      · refine w_il1 hC dX2_costOfLines_26 ?_
        refine v_iret hC hR dX2_costOfLines_27 ?_
        rw [show ctL a = s by rw [hs]; unfold ctL; congr 1; omega] at hQ; exact hQ
      · refine w_il1 hC dX2_costOfLines_12 ?_
        refine w_al0 hC dX2_costOfLines_13 ?_
        refine w_il2 hC dX2_costOfLines_14 ?_
        refine w_vi1 hC vi_X2_117 kd0 dX2_costOfLines_15 rfl hN (c_costOnLine hb ⟨⟨x0, x1, x2, x3, x4, x5, x6⟩, xw, xl, xn, xm, xu⟩ hA ⟨by omega, by omega⟩ ?_)
        have hcl := csL_r hA (j := (j : Int)) (by omega) (by omega)
        refine w_iadd hC dX2_costOfLines_18 (ri_mk (by omega) (by omega)) ?_
        refine w_is1 hC dX2_costOfLines_19 hN (by first | rfl | assumption) ?_
        refine w_inc2 hC dX2_costOfLines_20 hN (by first | rfl | assumption) (ri_mk (by omega) (by omega)) ?_
        refine v_goto (tgt := 4) hC dX2_costOfLines_23 rfl ?_
        exact ih _ (j + 1) (by omega) (by omega) (sumN_s hs rfl)
  exact lp4 ((a 1).toNat + 1) 0 0 (by omega) (by omega) rfl

theorem c_filledLines {d : Nat} {w : Wd} {Q : Option MV → Wd → Prop} {b : Nat} {a : Nat → Int} (hb : vb b) (hv : VX w b a) (hA : AOK a) (hQ : Q (some (.inl (fiL a))) w) : Call (d + 2) mX2_filledLines [vR b] w Q := by
  obtain ⟨kd0, kd1, kd2, kd3, kd4, kd5, kd6, kd7⟩ := kdV hb
  obtain ⟨sz1, sz2, sz3, sz4, sz5, sz6, sz7⟩ := szV hb
  obtain ⟨⟨x0, x1, x2, x3, x4, x5, x6⟩, xw, xl, xn, xm, xu⟩ := hv
  have am := hA.m
  have an := hA.n
  refine call_in (ls := [some (vR b), none, none]) (by decide +kernel) rfl (Nat.le_of_ble_eq_true rfl) (fun κ hC hR hN => ?_)
  have hC : ctxB κ RX2 cX2_filledLines (d + 2) := hC
  have hN : mlx κ 3 := hN
  refine w_ic hC dX2_filledLines_0 rfl ?_
  refine w_is1 hC dX2_filledLines_1 hN (by first | rfl | assumption) ?_
  refine w_ic hC dX2_filledLines_2 rfl ?_
  refine w_is2 hC dX2_filledLines_3 hN (by first | rfl | assumption) ?_
  have lp4 : ∀ (k : Nat) (s : Int) (j : Nat), ((a 1).toNat - j) < k → ((j : Int) ≤ a 1) → (s = sumN (fun j => if wOn a j = -1 then 0 else 1) j) → VV κ 4 [some (vR b), some (vI s), some (vI (j : Int))] [] w := by
    intro k
    induction k with
    | zero => intros; omega
    | succ k ih =>
      intro s j hm4 hj hs
      have hr := sumN_r (f := (fun j => if wOn a j = -1 then 0 else 1)) (c := 1) j (fun i hi => (by split <;> omega))
      refine w_il2 hC dX2_filledLines_4 ?_
      refine w_al0 hC dX2_filledLines_5 ?_
      refine v_getI hC dX2_filledLines_6 fd_X2_9 kd0 rfl ?_
      rw [x1]
      refine v_ic_ge (tgt := 35) hC dX2_filledLines_9 rfl (fun h9 => ?_) (fun h9 => ?_)
      · refine w_il1 hC dX2_filledLines_35 ?_
        refine v_iret hC hR dX2_filledLines_36 ?_
        rw [show fiL a = s by rw [hs]; unfold fiL; congr 1; omega] at hQ; exact hQ
      · refine w_il1 hC dX2_filledLines_12 ?_
        refine w_al0 hC dX2_filledLines_13 ?_
        refine w_il2 hC dX2_filledLines_14 ?_
        refine w_vi1 hC vi_X2_73 kd0 dX2_filledLines_15 rfl hN (c_wordOn hb ⟨⟨x0, x1, x2, x3, x4, x5, x6⟩, xw, xl, xn, xm, xu⟩ hA ?_)
        refine w_ic hC dX2_filledLines_18 rfl ?_
        refine v_ic_eq (tgt := 26) hC dX2_filledLines_19 rfl (fun h19 => ?_) (fun h19 => ?_)
        · refine w_ic hC dX2_filledLines_26 rfl ?_
          refine w_iadd hC dX2_filledLines_27 (ri_mk (by omega) (by omega)) ?_
          refine w_is1 hC dX2_filledLines_28 hN (by first | rfl | assumption) ?_
          refine w_inc2 hC dX2_filledLines_29 hN (by first | rfl | assumption) (ri_mk (by omega) (by omega)) ?_
          refine v_goto (tgt := 4) hC dX2_filledLines_32 rfl ?_
          exact ih _ (j + 1) (by omega) (by omega) (by first | exact sumN_s hs (by simp [h19]) | exact sumN_s hs (if_neg h19))
        · refine w_ic hC dX2_filledLines_22 rfl ?_
          refine v_goto (tgt := 27) hC dX2_filledLines_23 rfl ?_
          refine w_iadd hC dX2_filledLines_27 (ri_mk (by omega) (by omega)) ?_
          refine w_is1 hC dX2_filledLines_28 hN (by first | rfl | assumption) ?_
          refine w_inc2 hC dX2_filledLines_29 hN (by first | rfl | assumption) (ri_mk (by omega) (by omega)) ?_
          refine v_goto (tgt := 4) hC dX2_filledLines_32 rfl ?_
          exact ih _ (j + 1) (by omega) (by omega) (by first | exact sumN_s hs (by simp [h19]) | exact sumN_s hs (if_neg h19))
  exact lp4 ((a 1).toNat + 1) 0 0 (by omega) (by omega) rfl

theorem c_firstEmptyLine {d : Nat} {w : Wd} {Q : Option MV → Wd → Prop} {b : Nat} {a : Nat → Int} (hb : vb b) (hv : VX w b a) (hA : AOK a) (hQ : Q (some (.inl (feL a))) w) : Call (d + 2) mX2_firstEmptyLine [vR b] w Q := by
  obtain ⟨kd0, kd1, kd2, kd3, kd4, kd5, kd6, kd7⟩ := kdV hb
  obtain ⟨sz1, sz2, sz3, sz4, sz5, sz6, sz7⟩ := szV hb
  obtain ⟨⟨x0, x1, x2, x3, x4, x5, x6⟩, xw, xl, xn, xm, xu⟩ := hv
  have am := hA.m
  have an := hA.n
  refine call_in (ls := [some (vR b), none]) (by decide +kernel) rfl (Nat.le_of_ble_eq_true rfl) (fun κ hC hR hN => ?_)
  have hC : ctxB κ RX2 cX2_firstEmptyLine (d + 2) := hC
  have hN : mlx κ 2 := hN
  refine w_ic hC dX2_firstEmptyLine_0 rfl ?_
  refine w_is1 hC dX2_firstEmptyLine_1 hN (by first | rfl | assumption) ?_
  have lp2 : ∀ (k : Nat) (j : Nat), ((a 1).toNat - j) < k → ((j : Int) ≤ a 1) → (∀ i : Nat, i < j → ¬ wOn a i = -1) → VV κ 2 [some (vR b), some (vI (j : Int))] [] w := by
    intro k
    induction k with
    | zero => intros; omega
    | succ k ih =>
      intro j hm2 hj hi
      refine w_il1 hC dX2_firstEmptyLine_2 ?_
      refine w_al0 hC dX2_firstEmptyLine_3 ?_
      refine v_getI hC dX2_firstEmptyLine_4 fd_X2_9 kd0 rfl ?_
      rw [x1]
      refine v_ic_ge (tgt := 27) hC dX2_firstEmptyLine_7 rfl (fun h7 => ?_) (fun h7 => ?_)
      · refine w_ic hC dX2_firstEmptyLine_27 rfl ?_
        refine v_iret hC hR dX2_firstEmptyLine_28 ?_
        rw [show feL a = -1 from fstI_no (fun i h => hi i (by omega))] at hQ; exact hQ
      · refine w_al0 hC dX2_firstEmptyLine_10 ?_
        refine w_il1 hC dX2_firstEmptyLine_11 ?_
        refine w_vi1 hC vi_X2_73 kd0 dX2_firstEmptyLine_12 rfl hN (c_wordOn hb ⟨⟨x0, x1, x2, x3, x4, x5, x6⟩, xw, xl, xn, xm, xu⟩ hA ?_)
        refine w_ic hC dX2_firstEmptyLine_15 rfl ?_
        refine v_ic_ne (tgt := 21) hC dX2_firstEmptyLine_16 rfl (fun h16 => ?_) (fun h16 => ?_)
        · refine w_inc1 hC dX2_firstEmptyLine_21 hN (by first | rfl | assumption) (ri_mk (by omega) (by omega)) ?_
          refine v_goto (tgt := 2) hC dX2_firstEmptyLine_24 rfl ?_
          exact ih (j + 1) (by omega) (by omega) (lt_s hi (by omega))
        · refine w_il1 hC dX2_firstEmptyLine_19 ?_
          refine v_iret hC hR dX2_firstEmptyLine_20 ?_
          rw [show feL a = (j : Int) from fstI_at (by omega) (by omega) hi] at hQ; exact hQ
  exact lp2 ((a 1).toNat + 1) 0 (by omega) (by omega) (fun i h => by omega)
