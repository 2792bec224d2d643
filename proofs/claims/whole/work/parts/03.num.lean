/-! numbers: an int is an Int between -2^31 and 2^31, a long likewise; wrapped where it may pass -/
def wr (z : Int) : Int := (z + 2147483648) % 4294967296 - 2147483648
def wrL (z : Int) : Int := (z + 9223372036854775808) % 18446744073709551616 - 9223372036854775808
def ri32 (z : Int) : Prop := -2147483648 ≤ z ∧ z < 2147483648
def ri64 (z : Int) : Prop := -9223372036854775808 ≤ z ∧ z < 9223372036854775808
theorem wr_id {z : Int} (h : ri32 z) : wr z = z := by unfold ri32 at h; unfold wr; omega
theorem wrL_id {z : Int} (h : ri64 z) : wrL z = z := by unfold ri64 at h; unfold wrL; omega
theorem ri_wr (z : Int) : ri32 (wr z) := by unfold ri32 wr; omega
theorem ri_wrL (z : Int) : ri64 (wrL z) := by unfold ri64 wrL; omega
theorem ri_mk {z : Int} (h1 : -2147483648 ≤ z) (h2 : z < 2147483648) : ri32 z := ⟨h1, h2⟩
theorem wr_bmod (z : Int) : wr z = Int.bmod z 4294967296 := by unfold wr; rw [Int.bmod_def]; split <;> omega
theorem wrL_bmod (z : Int) : wrL z = Int.bmod z 18446744073709551616 := by unfold wrL; rw [Int.bmod_def]; split <;> omega
theorem oi_toInt (z : Int) : (Int32.ofInt z).toInt = wr z := by rw [wr_bmod]; exact Int32.toInt_ofInt
theorem ol_toInt (z : Int) : (Int64.ofInt z).toInt = wrL z := by rw [wrL_bmod]; exact Int64.toInt_ofInt
theorem oi_id {z : Int} (h : ri32 z) : (Int32.ofInt z).toInt = z := by rw [oi_toInt, wr_id h]
theorem ol_id {z : Int} (h : ri64 z) : (Int64.ofInt z).toInt = z := by rw [ol_toInt, wrL_id h]
theorem oi_of (x : Int32) : Int32.ofInt x.toInt = x := Int32.ofInt_toInt x
theorem ol_of (x : Int64) : Int64.ofInt x.toInt = x := Int64.ofInt_toInt x
theorem ri_toInt (x : Int32) : ri32 x.toInt := ⟨Int32.le_toInt x, Int32.toInt_lt x⟩
theorem ri_toIntL (x : Int64) : ri64 x.toInt := ⟨Int64.le_toInt x, Int64.toInt_lt x⟩
theorem oi_wr (z : Int) : Int32.ofInt (wr z) = Int32.ofInt z := by rw [← oi_toInt, oi_of]
theorem ol_wrL (z : Int) : Int64.ofInt (wrL z) = Int64.ofInt z := by rw [← ol_toInt, ol_of]
theorem oi_inj {a b : Int} (ha : ri32 a) (hb : ri32 b) : Int32.ofInt a = Int32.ofInt b ↔ a = b :=
  ⟨fun h => by rw [← oi_id ha, ← oi_id hb, h], fun h => by rw [h]⟩
theorem ol_inj {a b : Int} (ha : ri64 a) (hb : ri64 b) : Int64.ofInt a = Int64.ofInt b ↔ a = b :=
  ⟨fun h => by rw [← ol_id ha, ← ol_id hb, h], fun h => by rw [h]⟩
theorem oi_lt {a b : Int} (ha : ri32 a) (hb : ri32 b) : Int32.ofInt a < Int32.ofInt b ↔ a < b := by
  rw [Int32.lt_iff_toInt_lt, oi_id ha, oi_id hb]
theorem oi_le {a b : Int} (ha : ri32 a) (hb : ri32 b) : Int32.ofInt a ≤ Int32.ofInt b ↔ a ≤ b := by
  rw [Int32.le_iff_toInt_le, oi_id ha, oi_id hb]
theorem ol_lt {a b : Int} (ha : ri64 a) (hb : ri64 b) : Int64.ofInt a < Int64.ofInt b ↔ a < b := by
  rw [Int64.lt_iff_toInt_lt, ol_id ha, ol_id hb]
theorem oi_0 : Int32.ofInt 0 = 0 := rfl
theorem oi_add (a b : Int) : Int32.ofInt a + Int32.ofInt b = Int32.ofInt (wr (a + b)) := by rw [oi_wr, Int32.ofInt_add]
theorem oi_sub (a b : Int) : Int32.ofInt a - Int32.ofInt b = Int32.ofInt (wr (a - b)) := by rw [oi_wr, Int32.ofInt_sub]
theorem oi_mul (a b : Int) : Int32.ofInt a * Int32.ofInt b = Int32.ofInt (wr (a * b)) := by rw [oi_wr, Int32.ofInt_mul]
theorem ol_add (a b : Int) : Int64.ofInt a + Int64.ofInt b = Int64.ofInt (wrL (a + b)) := by rw [ol_wrL, Int64.ofInt_add]
theorem ol_mul (a b : Int) : Int64.ofInt a * Int64.ofInt b = Int64.ofInt (wrL (a * b)) := by rw [ol_wrL, Int64.ofInt_mul]
theorem ol_sub (a b : Int) : Int64.ofInt a - Int64.ofInt b = Int64.ofInt (wrL (a - b)) := by rw [ol_wrL, Int64.ofInt_sub]
theorem oi_div {a b : Int} (ha : ri32 a) (hb : ri32 b) : Int32.ofInt a / Int32.ofInt b = Int32.ofInt (wr (a.tdiv b)) := by
  apply Int32.toInt_inj.mp
  rw [Int32.toInt_div, oi_id ha, oi_id hb, oi_id (ri_wr _), wr_bmod]
theorem ol_div {a b : Int} (ha : ri64 a) (hb : ri64 b) : Int64.ofInt a / Int64.ofInt b = Int64.ofInt (wrL (a.tdiv b)) := by
  apply Int64.toInt_inj.mp
  rw [Int64.toInt_div, ol_id ha, ol_id hb, ol_id (ri_wrL _), wrL_bmod]
/-- division and remainder of what is not below 0 -/
theorem td_n {a b : Int} (h0 : 0 ≤ a) (hb : 0 < b) : a.tdiv b = a / b := Int.tdiv_eq_ediv_of_nonneg h0
theorem dv_r {a b : Int} (ha : ri32 a) (h0 : 0 ≤ a) (hb : 0 < b) : ri32 (a / b) := by
  have h1 : a / b ≤ a := Int.ediv_le_self b h0
  have h2 : 0 ≤ a / b := Int.ediv_nonneg h0 (Int.le_of_lt hb)
  unfold ri32 at *; omega
theorem dv_rL {a b : Int} (ha : ri64 a) (h0 : 0 ≤ a) (hb : 0 < b) : ri64 (a / b) := by
  have h1 : a / b ≤ a := Int.ediv_le_self b h0
  have h2 : 0 ≤ a / b := Int.ediv_nonneg h0 (Int.le_of_lt hb)
  unfold ri64 at *; omega
theorem md_le {a b : Int} (h0 : 0 ≤ a) (hb : 0 < b) : a % b ≤ a := by
  rcases Int.lt_or_le a b with h | h
  · rw [Int.emod_eq_of_lt h0 h]; exact Int.le_refl a
  · have := Int.emod_lt_of_pos a hb
    omega
theorem md_r {a b : Int} (ha : ri32 a) (h0 : 0 ≤ a) (hb : 0 < b) : ri32 (a % b) := by
  have h1 : a % b ≤ a := md_le h0 hb
  have h2 : 0 ≤ a % b := Int.emod_nonneg a (Int.ne_of_gt hb)
  unfold ri32 at *; omega
theorem oi_divN {a b : Int} (ha : ri32 a) (hb : ri32 b) (h0 : 0 ≤ a) (h1 : 0 < b) : Int32.ofInt a / Int32.ofInt b = Int32.ofInt (a / b) := by
  rw [oi_div ha hb, td_n h0 h1, wr_id (dv_r ha h0 h1)]
theorem ol_divN {a b : Int} (ha : ri64 a) (hb : ri64 b) (h0 : 0 ≤ a) (h1 : 0 < b) : Int64.ofInt a / Int64.ofInt b = Int64.ofInt (a / b) := by
  rw [ol_div ha hb, td_n h0 h1, wrL_id (dv_rL ha h0 h1)]
theorem oi_modN {a b : Int} (ha : ri32 a) (hb : ri32 b) (h0 : 0 ≤ a) (h1 : 0 < b) : Int32.ofInt a - Int32.ofInt a / Int32.ofInt b * Int32.ofInt b = Int32.ofInt (a % b) := by
  rw [oi_divN ha hb h0 h1, ← Int32.ofInt_mul, ← Int32.ofInt_sub]
  congr 1
  have := Int.emod_def a b
  rw [Int.mul_comm] at this
  exact this.symm
theorem ol_modN {a b : Int} (ha : ri64 a) (hb : ri64 b) (h0 : 0 ≤ a) (h1 : 0 < b) : Int64.ofInt a - Int64.ofInt a / Int64.ofInt b * Int64.ofInt b = Int64.ofInt (a % b) := by
  rw [ol_divN ha hb h0 h1, ← Int64.ofInt_mul, ← Int64.ofInt_sub]
  congr 1
  have := Int.emod_def a b
  rw [Int.mul_comm] at this
  exact this.symm
theorem oi_modG {a b : Int} (ha : ri32 a) (hb : ri32 b) (h0 : b ≠ 0) : Int32.ofInt a - Int32.ofInt a / Int32.ofInt b * Int32.ofInt b = Int32.ofInt (wr (a.tmod b)) := by
  rw [oi_div ha hb, oi_wr, ← Int32.ofInt_mul, ← Int32.ofInt_sub, oi_wr]
  congr 1
  rw [Int.tmod_def, Int.mul_comm]
theorem ol_modG {a b : Int} (ha : ri64 a) (hb : ri64 b) (h0 : b ≠ 0) : Int64.ofInt a - Int64.ofInt a / Int64.ofInt b * Int64.ofInt b = Int64.ofInt (wrL (a.tmod b)) := by
  rw [ol_div ha hb, ol_wrL, ← Int64.ofInt_mul, ← Int64.ofInt_sub, ol_wrL]
  congr 1
  rw [Int.tmod_def, Int.mul_comm]
/-! bits -/
def bAnd (a b : Int) : Int := (Int32.ofInt a &&& Int32.ofInt b).toInt
def bOr (a b : Int) : Int := (Int32.ofInt a ||| Int32.ofInt b).toInt
def bXor (a b : Int) : Int := (Int32.ofInt a ^^^ Int32.ofInt b).toInt
def bShl (a b : Int) : Int := (Int32.ofInt a <<< (Int32.ofInt b &&& 31)).toInt
def bShr (a b : Int) : Int := (Int32.ofInt a >>> (Int32.ofInt b &&& 31)).toInt
def bUsh (a b : Int) : Int := ((Int32.ofInt a).toUInt32 >>> ((Int32.ofInt b).toUInt32 &&& Int32.toUInt32 31)).toInt32.toInt
def cmpL (a b : Int) : Int := if a < b then -1 else if a = b then 0 else 1
theorem oi_il {z : Int} (h : ri32 z) : (Int32.ofInt z).toInt64 = Int64.ofInt z := by
  apply Int64.toInt_inj.mp
  rw [Int32.toInt_toInt64, oi_id h, ol_id (by unfold ri32 at h; unfold ri64; omega)]
theorem ol_li (z : Int) : (Int64.ofInt z).toInt32 = Int32.ofInt (wr z) := by
  apply Int32.toInt_inj.mp
  rw [Int64.toInt_toInt32, ol_toInt, oi_id (ri_wr _), wr_bmod, wrL_bmod]
  exact Int.bmod_bmod_of_dvd (by decide)
theorem nI_oi (n : Nat) : nI n = Int32.ofInt (n : Int) := rfl
theorem oi_clamp {z : Int} (h : ri32 z) : (Int32.ofInt z).toNatClampNeg = z.toNat := by
  show (Int32.ofInt z).toInt.toNat = z.toNat
  rw [oi_id h]
theorem oi_in {z : Int} {n : Nat} (h : ri32 z) (h0 : 0 ≤ z) (h1 : z < n) : vp_in (Int32.ofInt z) n := by
  rw [vp_in_iff, oi_id h]
  exact ⟨h0, h1⟩
