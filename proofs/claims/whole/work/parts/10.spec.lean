/-! bits of numbers that are not below 0 -/
theorem qx_sl : ∀ n, n < 32 → ((nI n &&& 31).toBitVec.smod 32).toNat = n := by decide +kernel
theorem qx_and (a b : Nat) : nI a &&& nI b = nI (a &&& b) := by
  apply Int32.toBitVec_inj.1
  show BitVec.ofNat 32 a &&& BitVec.ofNat 32 b = BitVec.ofNat 32 (a &&& b)
  apply BitVec.eq_of_getLsbD_eq
  intro i hi
  simp [hi]
theorem qx_or (a b : Nat) : nI a ||| nI b = nI (a ||| b) := by
  apply Int32.toBitVec_inj.1
  show BitVec.ofNat 32 a ||| BitVec.ofNat 32 b = BitVec.ofNat 32 (a ||| b)
  apply BitVec.eq_of_getLsbD_eq
  intro i hi
  simp [hi]
theorem qx_xor (a b : Nat) : nI a ^^^ nI b = nI (a ^^^ b) := by
  apply Int32.toBitVec_inj.1
  show BitVec.ofNat 32 a ^^^ BitVec.ofNat 32 b = BitVec.ofNat 32 (a ^^^ b)
  apply BitVec.eq_of_getLsbD_eq
  intro i hi
  simp [hi]
theorem bAnd_n {a b : Nat} (ha : a < 2147483648) : bAnd (a : Int) (b : Int) = ((a &&& b : Nat) : Int) := by
  unfold bAnd
  rw [← nI_oi, ← nI_oi, qx_and]
  exact nI_toInt (Nat.lt_of_le_of_lt Nat.and_le_left ha)
theorem bOr_n {a b : Nat} (ha : a < 2147483648) (hb : b < 2147483648) : bOr (a : Int) (b : Int) = ((a ||| b : Nat) : Int) := by
  unfold bOr
  rw [← nI_oi, ← nI_oi, qx_or]
  exact nI_toInt (Nat.or_lt_two_pow (n := 31) ha hb)
theorem bShl_1 {k : Nat} (hk : k < 31) : bShl 1 (k : Int) = ((2 ^ k : Nat) : Int) := by
  unfold bShl
  rw [show Int32.ofInt 1 = nI 1 from rfl, ← nI_oi, pk_shlN _ k (qx_sl k (by omega)) (by rw [Nat.one_mul]; exact Nat.pow_lt_pow_right (by decide) (by omega)), Nat.one_mul]
  exact nI_toInt (Nat.pow_lt_pow_right (by decide) hk)
theorem bShr_n {a k : Nat} (ha : a < 2147483648) (hk : k < 32) : bShr (a : Int) (k : Int) = ((a / 2 ^ k : Nat) : Int) := by
  unfold bShr
  rw [← nI_oi, ← nI_oi, pk_shrN ha _ k (qx_sl k hk)]
  exact nI_toInt (Nat.lt_of_le_of_lt (Nat.div_le_self _ _) ha)
theorem bAnd_1 {a : Int} (h0 : 0 ≤ a) (h1 : a < 2147483648) : bAnd a 1 = a % 2 := by
  obtain ⟨n, rfl⟩ := Int.eq_ofNat_of_zero_le h0
  rw [show (1 : Int) = ((1 : Nat) : Int) from rfl, bAnd_n (by omega), Nat.and_one_is_mod]
  omega
/-- a bit of a set -/
theorem hasB {a k : Nat} (ha : a < 2147483648) (hk : k < 32) : bAnd (bShr (a : Int) (k : Int)) 1 = if a.testBit k then 1 else 0 := by
  have h2 := Nat.div_le_self a (2 ^ k)
  rw [bShr_n ha hk, Nat.testBit_eq_decide_div_mod_eq]
  generalize a / 2 ^ k = q at h2 ⊢
  rw [bAnd_1 (by omega) (by omega)]
  by_cases h : q % 2 = 1
  · rw [decide_eq_true h, if_pos rfl]
    omega
  · rw [decide_eq_false h, if_neg (by decide)]
    omega
/-! what the document tells, by numbers -/
def plN (f n j : Int) : Int := if f = 1 then n - 1 else if f = 2 then n / 2 else if f = 3 then j % n else if f = 4 then n - 1 - j % n else if f = 5 then (if j % 2 = 1 then n - 1 else 0) else 0
def coN (k n j : Int) : Int := if k = 1 then n + 3 else if k = 2 then (n + 1) / 2 else if k = 3 then n + j else if k = 4 then (if j = 0 then 0 else n + 3) else if k = 5 then (if 3 ≤ j then (n + 1) / 2 + 2 else (n + 1) / 2) else n
def ltN (code n place : Int) : Int := code / 10 ^ (n - 1 - place).toNat % 10
theorem plN_r {f n j : Int} (hn : 1 ≤ n) (hj : 0 ≤ j) : 0 ≤ plN f n j ∧ plN f n j < n := by
  have h1 := Int.emod_nonneg j (show n ≠ 0 by omega)
  have h2 := Int.emod_lt_of_pos j (show 0 < n by omega)
  unfold plN
  repeat' split
  all_goals omega
theorem coN_r {k n j : Int} (hn : 0 ≤ n) (hn6 : n ≤ 6) (hj : 0 ≤ j) (hj6 : j ≤ 6) : 0 ≤ coN k n j ∧ coN k n j ≤ 12 := by
  unfold coN
  repeat' split
  all_goals omega
theorem ltN_r {c n p : Int} (hc : 0 ≤ c) : 0 ≤ ltN c n p ∧ ltN c n p ≤ 9 := by
  unfold ltN
  have h := Int.ediv_nonneg hc (show (0 : Int) ≤ 10 ^ (n - 1 - p).toNat from Int.pow_nonneg (by decide))
  omega
theorem gs_X3_341 : Cond.fieldLink RX3 341 "AcrosticLines" "POWERS" "[I" ∈ BIG := BIG_in 262 (by decide +kernel) (by decide +kernel)
