/-! sets of words and ways -/
def pcN (v : Nat) : Nat := v % 2 + v / 2 % 2 + v / 4 % 2 + v / 8 % 2 + v / 16 % 2 + v / 32 % 2 + v / 64 % 2 + v / 128 % 2
theorem pcN_or : ∀ v, v < 256 → ∀ k, k < 8 → v.testBit k = false → pcN (v ||| 2 ^ k) = pcN v + 1 := by decide +kernel
theorem pcN_le (v : Nat) : pcN v ≤ 8 := by unfold pcN; omega
theorem pcN_sub : ∀ v, v < 256 → ∀ k, k < 8 → v.testBit k = true → v ^^^ (v &&& 2 ^ k) < v ∧ (v ^^^ (v &&& 2 ^ k)) ||| 2 ^ k = v := by decide +kernel
theorem bit_lt : ∀ v, v < 256 → ∀ n, n ≤ 8 → v < 2 ^ n → ∀ k, k < 8 → v.testBit k = true → k < n := by decide +kernel
theorem n2_le {n : Nat} (h : n ≤ 8) : 2 ^ n ≤ 256 := by
  have : ∀ n, n ≤ 8 → 2 ^ n ≤ 256 := by decide
  exact this n h
theorem or2_lt {v k n : Nat} (h1 : v < 2 ^ n) (h2 : k < n) : v ||| 2 ^ k < 2 ^ n := Nat.or_lt_two_pow h1 (two_lt h2)
def andN (x u : Nat) : Nat := x ^^^ (x &&& u)
theorem andN_bit (x u k : Nat) : (andN x u).testBit k = (x.testBit k && !u.testBit k) := by
  unfold andN
  rw [Nat.testBit_xor, Nat.testBit_and]
  cases x.testBit k <;> cases u.testBit k <;> rfl
theorem andN_le {x u n : Nat} (h : x < 2 ^ n) : andN x u < 2 ^ n := Nat.xor_lt_two_pow h (Nat.lt_of_le_of_lt Nat.and_le_left h)
theorem oi_m1 : Int32.ofInt (-1) = -1 := rfl
theorem bAnd_not {x u : Nat} (hx : x < 2147483648) : bAnd (x : Int) (bXor (u : Int) (-1)) = ((andN x u : Nat) : Int) := by
  unfold bAnd bXor
  rw [oi_of, ← nI_oi, ← nI_oi, oi_m1]
  have e : nI x &&& (nI u ^^^ -1) = nI (andN x u) := by
    apply Int32.toBitVec_inj.1
    show BitVec.ofNat 32 x &&& (BitVec.ofNat 32 u ^^^ BitVec.allOnes 32) = BitVec.ofNat 32 (andN x u)
    apply BitVec.eq_of_getLsbD_eq
    intro i hi
    simp only [BitVec.getLsbD_and, BitVec.getLsbD_xor, BitVec.getLsbD_allOnes, BitVec.getLsbD_ofNat, andN_bit, hi, decide_true, Bool.true_and]
    cases x.testBit i <;> cases u.testBit i <;> rfl
  rw [e]
  exact nI_toInt (andN_le (n := 31) hx)
theorem bit_or (u k j : Nat) : (u ||| 2 ^ k).testBit j = (u.testBit j || decide (k = j)) := by rw [Nat.testBit_or, Nat.testBit_two_pow]
/-- ways on from a line, by who is used -/
def wyN (F : Nat → Nat → Bool) (n m : Nat) : Nat → Nat → Int
  | 0, _ => 1
  | r + 1, u => sumN (fun k => if u.testBit k = false ∧ F k (m - (r + 1)) = true then wyN F n m r (u ||| 2 ^ k) else 0) n
def mnB (c : Nat → Prop) [DecidablePred c] (f : Nat → Int) (s : Int) : Nat → Int
  | 0 => s
  | k + 1 => if c k then min (mnB c f s k) (f k) else mnB c f s k
def lsN (F : Nat → Nat → Bool) (C : Nat → Nat → Int) (n m : Nat) : Nat → Nat → Int
  | 0, _ => 0
  | r + 1, u => mnB (fun k => u.testBit k = false ∧ F k (m - (r + 1)) = true) (fun k => C k (m - (r + 1)) + lsN F C n m r (u ||| 2 ^ k)) 1000000 n
theorem wyN_s (F : Nat → Nat → Bool) (n m r u : Nat) : wyN F n m (r + 1) u = sumN (fun k => if u.testBit k = false ∧ F k (m - (r + 1)) = true then wyN F n m r (u ||| 2 ^ k) else 0) n := rfl
theorem lsN_s (F : Nat → Nat → Bool) (C : Nat → Nat → Int) (n m r u : Nat) : lsN F C n m (r + 1) u = mnB (fun k => u.testBit k = false ∧ F k (m - (r + 1)) = true) (fun k => C k (m - (r + 1)) + lsN F C n m r (u ||| 2 ^ k)) 1000000 n := rfl
theorem wyN_r {F : Nat → Nat → Bool} {n m : Nat} (hn : n ≤ 8) (r u : Nat) : 0 ≤ wyN F n m r u ∧ wyN F n m r u ≤ 8 ^ r := by
  induction r generalizing u with
  | zero => exact ⟨show (0 : Int) ≤ 1 by decide, show (1 : Int) ≤ 8 ^ 0 by decide⟩
  | succ r ih =>
    rw [wyN_s]
    have h := sumN_r (f := fun k => if u.testBit k = false ∧ F k (m - (r + 1)) = true then wyN F n m r (u ||| 2 ^ k) else 0) (c := 8 ^ r) n (fun j hj => by
      have h8 : (0 : Int) ≤ 8 ^ r := Int.pow_nonneg (by decide)
      have := ih (u ||| 2 ^ j)
      split <;> omega)
    refine ⟨h.1, Int.le_trans h.2 ?_⟩
    rw [Int.pow_succ]
    exact Int.mul_le_mul_of_nonneg_left (by omega) (Int.pow_nonneg (by decide))
theorem wyN_q {F : Nat → Nat → Bool} {n m : Nat} (hn : n ≤ 8) {r : Nat} (hr : r ≤ 6) (u : Nat) : 0 ≤ wyN F n m r u ∧ wyN F n m r u ≤ 262144 := by
  have h1 := wyN_r (F := F) (m := m) hn r u
  have h2 := e8_le hr
  omega
theorem mnB_r {c : Nat → Prop} [DecidablePred c] {f : Nat → Int} {s b : Int} (n : Nat) (hs : b ≤ s) (h : ∀ k, k < n → c k → b ≤ f k) : b ≤ mnB c f s n ∧ mnB c f s n ≤ s := by
  induction n with
  | zero => exact ⟨hs, Int.le_refl _⟩
  | succ n ih =>
    have h1 := ih (fun k hk => h k (by omega))
    show b ≤ (if c n then min (mnB c f s n) (f n) else mnB c f s n) ∧ (if c n then min (mnB c f s n) (f n) else mnB c f s n) ≤ s
    split
    next q => have := h n (by omega) q; omega
    next => exact h1
theorem mnB_le {c : Nat → Prop} [DecidablePred c] {f : Nat → Int} {s : Int} {k : Nat} (n : Nat) (hk : k < n) (hc : c k) : mnB c f s n ≤ f k := by
  induction n with
  | zero => omega
  | succ n ih =>
    show (if c n then min (mnB c f s n) (f n) else mnB c f s n) ≤ f k
    by_cases q : k = n
    · subst q
      rw [if_pos hc]
      omega
    · have := ih (by omega)
      split <;> omega
/-- the least is that of one of them, or none is below the start -/
theorem mnB_or {c : Nat → Prop} [DecidablePred c] {f : Nat → Int} {s : Int} (n : Nat) : mnB c f s n = s ∨ ∃ k, k < n ∧ c k ∧ mnB c f s n = f k := by
  induction n with
  | zero => exact Or.inl rfl
  | succ n ih =>
    show (if c n then min (mnB c f s n) (f n) else mnB c f s n) = s ∨ ∃ k, k < n + 1 ∧ c k ∧ (if c n then min (mnB c f s n) (f n) else mnB c f s n) = f k
    by_cases q : c n
    · rw [if_pos q]
      by_cases q2 : mnB c f s n ≤ f n
      · rw [show min (mnB c f s n) (f n) = mnB c f s n by omega]
        rcases ih with h | ⟨k, h1, h2, h3⟩
        · exact Or.inl h
        · exact Or.inr ⟨k, by omega, h2, h3⟩
      · exact Or.inr ⟨n, by omega, q, by omega⟩
    · rw [if_neg q]
      rcases ih with h | ⟨k, h1, h2, h3⟩
      · exact Or.inl h
      · exact Or.inr ⟨k, by omega, h2, h3⟩
theorem mnB_t {c : Nat → Prop} [DecidablePred c] {f : Nat → Int} {s mo v : Int} {k : Nat} (h : mo = mnB c f s k) (hc : c k) (hv : f k = v) : min mo v = mnB c f s (k + 1) := by
  show _ = (if c k then min (mnB c f s k) (f k) else mnB c f s k)
  rw [if_pos hc, h, hv]
theorem mnB_f {c : Nat → Prop} [DecidablePred c] {f : Nat → Int} {s mo : Int} {k : Nat} (h : mo = mnB c f s k) (hc : ¬ c k) : mo = mnB c f s (k + 1) := by
  show _ = (if c k then min (mnB c f s k) (f k) else mnB c f s k)
  rw [if_neg hc, h]
theorem mnB_congr {c d : Nat → Prop} [DecidablePred c] [DecidablePred d] {f g : Nat → Int} {s : Int} (n : Nat) (h1 : ∀ k, k < n → (c k ↔ d k)) (h2 : ∀ k, k < n → c k → f k = g k) : mnB c f s n = mnB d g s n := by
  induction n with
  | zero => rfl
  | succ n ih =>
    show (if c n then min (mnB c f s n) (f n) else mnB c f s n) = (if d n then min (mnB d g s n) (g n) else mnB d g s n)
    rw [ih (fun k hk => h1 k (by omega)) (fun k hk => h2 k (by omega))]
    by_cases q : c n
    · rw [if_pos q, if_pos ((h1 n (by omega)).mp q), h2 n (by omega) q]
    · rw [if_neg q, if_neg (fun q2 => q ((h1 n (by omega)).mpr q2))]
theorem mnB_none {c : Nat → Prop} [DecidablePred c] {f : Nat → Int} {s : Int} (n : Nat) (h : ∀ k, k < n → ¬ c k) : mnB c f s n = s := by
  induction n with
  | zero => rfl
  | succ n ih =>
    show (if c n then _ else _) = s
    rw [if_neg (h n (by omega))]
    exact ih (fun k hk => h k (by omega))
theorem sumN_0 {f : Nat → Int} (n : Nat) (h : ∀ k, k < n → f k = 0) : sumN f n = 0 := by
  induction n with
  | zero => rfl
  | succ n ih =>
    show sumN f n + f n = 0
    rw [ih (fun k hk => h k (by omega)), h n (by omega)]
    rfl
/-- beyond where the rest is nought -/
theorem sumN_stop {f : Nat → Int} {k n : Nat} (hk : k ≤ n) (h : ∀ i, k ≤ i → i < n → f i = 0) : sumN f n = sumN f k := by
  induction n with
  | zero => rw [show k = 0 by omega]
  | succ n ih =>
    by_cases q : k = n + 1
    · rw [q]
    · show sumN f n + f n = _
      rw [ih (by omega) (fun i h1 h2 => h i h1 (by omega)), h n (by omega) (by omega)]
      omega
theorem mnB_stop {c : Nat → Prop} [DecidablePred c] {f : Nat → Int} {s : Int} {k n : Nat} (hk : k ≤ n) (h : ∀ i, k ≤ i → i < n → ¬ c i) : mnB c f s n = mnB c f s k := by
  induction n with
  | zero => rw [show k = 0 by omega]
  | succ n ih =>
    by_cases q : k = n + 1
    · rw [q]
    · show (if c n then _ else _) = _
      rw [if_neg (h n (by omega) (by omega)), ih (by omega) (fun i h1 h2 => h i h1 (by omega))]
theorem lsN_r {F : Nat → Nat → Bool} {C : Nat → Nat → Int} {n m : Nat} (hC : ∀ k j, k < n → j < m → 0 ≤ C k j) (r u : Nat) (hr : r ≤ m) : 0 ≤ lsN F C n m r u ∧ lsN F C n m r u ≤ 1000000 := by
  induction r generalizing u with
  | zero => exact ⟨Int.le_refl 0, show (0 : Int) ≤ 1000000 by decide⟩
  | succ r ih =>
    rw [lsN_s]
    exact mnB_r n (by decide) (fun k hk _ => by
      have h1 := hC k (m - (r + 1)) hk (by omega)
      have h2 := ih (u ||| 2 ^ k) (by omega)
      omega)
/-! as the class keeps them: by sets, the line being how many are used -/
noncomputable def msN (F : Nat → Nat → Bool) (n j : Nat) : Nat := mkM (fun q => F q j = true) n
theorem msN_lt (F : Nat → Nat → Bool) (n j : Nat) : msN F n j < 2 ^ n := mkM_lt _ n
theorem msN_bit (F : Nat → Nat → Bool) (n j k : Nat) : (msN F n j).testBit k = true ↔ k < n ∧ F k j = true := mkM_bit _ n k
noncomputable def opN (F : Nat → Nat → Bool) (n m u : Nat) : Nat := if pcN u < m then andN (msN F n (pcN u)) u else 0
theorem opN_lt (F : Nat → Nat → Bool) (n m u : Nat) : opN F n m u < 2 ^ n := by
  unfold opN
  split
  next => exact andN_le (msN_lt F n _)
  next => exact Nat.pow_pos (by decide)
theorem opN_bit (F : Nat → Nat → Bool) (n m u k : Nat) : (opN F n m u).testBit k = true ↔ pcN u < m ∧ k < n ∧ F k (pcN u) = true ∧ u.testBit k = false := by
  unfold opN
  by_cases h : pcN u < m
  · rw [if_pos h, andN_bit, Bool.and_eq_true, msN_bit]
    simp [h, and_assoc]
  · rw [if_neg h]
    simp [h]
def bsW (F : Nat → Nat → Bool) (n m u : Nat) : Int := if pcN u ≤ m then wyN F n m (m - pcN u) u else 0
def bsL (F : Nat → Nat → Bool) (C : Nat → Nat → Int) (n m u : Nat) : Int := if pcN u ≤ m then lsN F C n m (m - pcN u) u else 1000000
theorem bsW_r {F : Nat → Nat → Bool} {n m : Nat} (hn : n ≤ 8) (hm : m ≤ 6) (u : Nat) : 0 ≤ bsW F n m u ∧ bsW F n m u ≤ 262144 := by
  unfold bsW
  split
  next => exact wyN_q hn (by omega) u
  next => omega
theorem bsL_r {F : Nat → Nat → Bool} {C : Nat → Nat → Int} {n m : Nat} (hC : ∀ k j, k < n → j < m → 0 ≤ C k j) (u : Nat) : 0 ≤ bsL F C n m u ∧ bsL F C n m u ≤ 1000000 := by
  unfold bsL
  split
  next => exact lsN_r hC _ u (by omega)
  next => omega
noncomputable def opW (F : Nat → Nat → Bool) (n m u : Nat) : Nat → Int := fun k => if (opN F n m u).testBit k = true then bsW F n m (u ||| 2 ^ k) else 0
theorem bsW_step {F : Nat → Nat → Bool} {n m u : Nat} (hn : n ≤ 8) (hu : u < 2 ^ n) : (if pcN u = m then 1 else 0) + sumN (opW F n m u) n = bsW F n m u := by
  have h256 := n2_le hn
  by_cases h : pcN u < m
  · rw [if_neg (by omega)]
    obtain ⟨r, hr⟩ : ∃ r, m - pcN u = r + 1 := ⟨m - pcN u - 1, by omega⟩
    rw [show bsW F n m u = wyN F n m (r + 1) u by unfold bsW; rw [if_pos (by omega), hr], wyN_s, Int.zero_add]
    apply sumN_congr
    intro k hk
    have hb := opN_bit F n m u k
    have e : m - (r + 1) = pcN u := by omega
    by_cases q : u.testBit k = false ∧ F k (m - (r + 1)) = true
    · rw [e] at q
      have hp := pcN_or u (by omega) k (by omega) q.1
      show (if _ then _ else _) = (if _ then _ else _)
      rw [if_pos (hb.mpr ⟨h, hk, q.2, q.1⟩), e, if_pos q]
      unfold bsW
      rw [if_pos (by omega), show m - pcN (u ||| 2 ^ k) = r by omega]
    · show (if _ then _ else _) = (if _ then _ else _)
      rw [if_neg (fun z => q (by rw [e]; exact ⟨(hb.mp z).2.2.2, (hb.mp z).2.2.1⟩)), if_neg q]
  · have hz : sumN (opW F n m u) n = 0 := sumN_0 n (fun k hk => if_neg (fun z => h ((opN_bit F n m u k).mp z).1))
    rw [hz]
    unfold bsW
    by_cases h2 : pcN u = m
    · rw [if_pos h2, if_pos (by omega), show m - pcN u = 0 by omega]
      rfl
    · rw [if_neg h2, if_neg (by omega)]
      rfl
noncomputable def opL (F : Nat → Nat → Bool) (C : Nat → Nat → Int) (n m u : Nat) : Nat → Int := fun k => C k (pcN u) + bsL F C n m (u ||| 2 ^ k)
theorem bsL_step {F : Nat → Nat → Bool} {C : Nat → Nat → Int} {n m u : Nat} (hn : n ≤ 8) (hu : u < 2 ^ n) : mnB (fun k => (opN F n m u).testBit k = true) (opL F C n m u) (if pcN u = m then 0 else 1000000) n = bsL F C n m u := by
  have h256 := n2_le hn
  by_cases h : pcN u < m
  · rw [if_neg (by omega)]
    obtain ⟨r, hr⟩ : ∃ r, m - pcN u = r + 1 := ⟨m - pcN u - 1, by omega⟩
    rw [show bsL F C n m u = lsN F C n m (r + 1) u by unfold bsL; rw [if_pos (by omega), hr], lsN_s]
    have e : m - (r + 1) = pcN u := by omega
    rw [e]
    apply mnB_congr
    · intro k hk
      rw [opN_bit]
      exact ⟨fun z => ⟨z.2.2.2, z.2.2.1⟩, fun z => ⟨h, hk, z.2, z.1⟩⟩
    · intro k hk z
      have q := ((opN_bit F n m u k).mp z).2.2.2
      have hp := pcN_or u (by omega) k (by omega) q
      show C k (pcN u) + bsL F C n m (u ||| 2 ^ k) = _
      unfold bsL
      rw [if_pos (by omega), show m - pcN (u ||| 2 ^ k) = r by omega]
  · have hz := mnB_none (c := fun k => (opN F n m u).testBit k = true) (f := opL F C n m u) (s := if pcN u = m then 0 else 1000000) n (fun k hk z => h ((opN_bit F n m u k).mp z).1)
    rw [hz]
    unfold bsL
    by_cases h2 : pcN u = m
    · rw [if_pos h2, if_pos (by omega), show m - pcN u = 0 by omega]
      rfl
    · rw [if_neg h2, if_neg (by omega)]
/-! the reference's least costs, and how both go together -/
def cmN (F : Nat → Nat → Bool) (C : Nat → Nat → Int) (n m : Nat) : Nat → Nat → Int
  | 0, _ => 0
  | r + 1, u => mnB (fun k => u.testBit k = false ∧ 0 < wyN F n m r (u ||| 2 ^ k) ∧ F k (m - (r + 1)) = true) (fun k => C k (m - (r + 1)) + cmN F C n m r (u ||| 2 ^ k)) 9999 n
theorem cmN_s (F : Nat → Nat → Bool) (C : Nat → Nat → Int) (n m r u : Nat) : cmN F C n m (r + 1) u = mnB (fun k => u.testBit k = false ∧ 0 < wyN F n m r (u ||| 2 ^ k) ∧ F k (m - (r + 1)) = true) (fun k => C k (m - (r + 1)) + cmN F C n m r (u ||| 2 ^ k)) 9999 n := rfl
theorem sumN_pos {f : Nat → Int} {n : Nat} (h0 : ∀ k, k < n → 0 ≤ f k) : 0 < sumN f n ↔ ∃ k, k < n ∧ 0 < f k := by
  induction n with
  | zero => exact ⟨fun h => absurd (show (0 : Int) < 0 from h) (by decide), fun ⟨k, h, _⟩ => by omega⟩
  | succ n ih =>
    have ih := ih (fun k hk => h0 k (by omega))
    have h1 := h0 n (by omega)
    have h2 : 0 ≤ sumN f n := by
      rcases Int.lt_or_le 0 (sumN f n) with q | q
      · omega
      · have h3 : ∀ k, k < n → f k = 0 := fun k hk => by
          have := h0 k (by omega)
          rcases Int.lt_or_le 0 (f k) with z | z
          · have := ih.mpr ⟨k, hk, z⟩; omega
          · omega
        rw [sumN_0 n h3]
        decide
    show 0 < sumN f n + f n ↔ _
    constructor
    · intro h
      rcases Int.lt_or_le 0 (f n) with z | z
      · exact ⟨n, by omega, z⟩
      · obtain ⟨k, q1, q2⟩ := ih.mp (by omega)
        exact ⟨k, by omega, q2⟩
    · rintro ⟨k, q1, q2⟩
      by_cases z : k = n
      · subst z; omega
      · have := ih.mpr ⟨k, by omega, q2⟩
        omega
theorem wyN_pos {F : Nat → Nat → Bool} {n m r u : Nat} (hn : n ≤ 8) : 0 < wyN F n m (r + 1) u ↔ ∃ k, k < n ∧ (u.testBit k = false ∧ F k (m - (r + 1)) = true) ∧ 0 < wyN F n m r (u ||| 2 ^ k) := by
  rw [wyN_s, sumN_pos]
  · constructor
    · rintro ⟨k, h1, h2⟩
      by_cases q : u.testBit k = false ∧ F k (m - (r + 1)) = true
      · rw [if_pos q] at h2; exact ⟨k, h1, q, h2⟩
      · rw [if_neg q] at h2; omega
    · rintro ⟨k, h1, h2, h3⟩
      exact ⟨k, h1, by rw [if_pos h2]; exact h3⟩
  · intro k _
    have := wyN_r (F := F) (m := m) hn r (u ||| 2 ^ k)
    split <;> omega
/-- least costs: both, or none -/
theorem ls_cm {F : Nat → Nat → Bool} {C : Nat → Nat → Int} {n m : Nat} (hn : n ≤ 8) (hm : m ≤ 6) (hC : ∀ k j, k < n → j < m → 0 ≤ C k j ∧ C k j ≤ 12) (r u : Nat) (hr : r ≤ m) :
    (wyN F n m r u = 0 ∧ lsN F C n m r u = 1000000 ∧ cmN F C n m r u = 9999) ∨ (0 < wyN F n m r u ∧ lsN F C n m r u = cmN F C n m r u ∧ 0 ≤ cmN F C n m r u ∧ cmN F C n m r u ≤ 12 * r) := by
  induction r generalizing u with
  | zero => exact Or.inr ⟨show (0 : Int) < 1 by decide, rfl, Int.le_refl 0, Int.le_refl 0⟩
  | succ r ih =>
    have hw := wyN_r (F := F) (m := m) hn (r + 1) u
    have hp := wyN_pos (F := F) (m := m) (r := r) (u := u) hn
    rcases Int.lt_or_le 0 (wyN F n m (r + 1) u) with q | q
    · right
      obtain ⟨k, h1, h2, h3⟩ := hp.mp q
      have hk := (ih (u ||| 2 ^ k) (by omega)).resolve_left (fun z => by omega)
      have hCk := hC k (m - (r + 1)) h1 (by omega)
      have hb1 : lsN F C n m (r + 1) u ≤ C k (m - (r + 1)) + lsN F C n m r (u ||| 2 ^ k) := by rw [lsN_s]; exact mnB_le (f := fun k => C k (m - (r + 1)) + lsN F C n m r (u ||| 2 ^ k)) n h1 h2
      have hb2 : cmN F C n m (r + 1) u ≤ C k (m - (r + 1)) + cmN F C n m r (u ||| 2 ^ k) := by rw [cmN_s]; exact mnB_le (f := fun k => C k (m - (r + 1)) + cmN F C n m r (u ||| 2 ^ k)) n h1 ⟨h2.1, h3, h2.2⟩
      have h0 : 0 ≤ cmN F C n m (r + 1) u := by
        rw [cmN_s]
        refine (mnB_r n (by decide) (fun i hi hc => ?_)).1
        have := hC i (m - (r + 1)) hi (by omega)
        have := ih (u ||| 2 ^ i) (by omega)
        omega
      refine ⟨q, ?_, h0, by omega⟩
      apply Int.le_antisymm
      · rcases mnB_or (c := fun k => u.testBit k = false ∧ 0 < wyN F n m r (u ||| 2 ^ k) ∧ F k (m - (r + 1)) = true) (f := fun k => C k (m - (r + 1)) + cmN F C n m r (u ||| 2 ^ k)) (s := 9999) n with z | ⟨i, z1, z2, z3⟩
        · rw [← cmN_s] at z; omega
        · rw [← cmN_s] at z3
          have hi := (ih (u ||| 2 ^ i) (by omega)).resolve_left (fun z => by omega)
          have hb : lsN F C n m (r + 1) u ≤ C i (m - (r + 1)) + lsN F C n m r (u ||| 2 ^ i) := by rw [lsN_s]; exact mnB_le (f := fun k => C k (m - (r + 1)) + lsN F C n m r (u ||| 2 ^ k)) n z1 ⟨z2.1, z2.2.2⟩
          omega
      · rcases mnB_or (c := fun k => u.testBit k = false ∧ F k (m - (r + 1)) = true) (f := fun k => C k (m - (r + 1)) + lsN F C n m r (u ||| 2 ^ k)) (s := 1000000) n with z | ⟨i, z1, z2, z3⟩
        · rw [← lsN_s] at z; omega
        · rw [← lsN_s] at z3
          have hCi := hC i (m - (r + 1)) z1 (by omega)
          have hi := (ih (u ||| 2 ^ i) (by omega)).resolve_left (fun z => by omega)
          have hb : cmN F C n m (r + 1) u ≤ C i (m - (r + 1)) + cmN F C n m r (u ||| 2 ^ i) := by rw [cmN_s]; exact mnB_le (f := fun k => C k (m - (r + 1)) + cmN F C n m r (u ||| 2 ^ k)) n z1 ⟨z2.1, hi.1, z2.2⟩
          omega
    · left
      have hz : wyN F n m (r + 1) u = 0 := by omega
      have hno : ∀ k, k < n → u.testBit k = false ∧ F k (m - (r + 1)) = true → wyN F n m r (u ||| 2 ^ k) = 0 := fun k h1 h2 => by
        have := wyN_r (F := F) (m := m) hn r (u ||| 2 ^ k)
        rcases Int.lt_or_le 0 (wyN F n m r (u ||| 2 ^ k)) with z | z
        · have := hp.mpr ⟨k, h1, h2, z⟩; omega
        · omega
      refine ⟨hz, ?_, ?_⟩
      · have h2 := (lsN_r (F := F) (C := C) (n := n) (m := m) (fun k j h1 h2 => (hC k j h1 h2).1) (r + 1) u hr).2
        refine Int.le_antisymm h2 ?_
        rw [lsN_s]
        refine (mnB_r n (Int.le_refl _) (fun i hi hc => ?_)).1
        have hCi := hC i (m - (r + 1)) hi (by omega)
        have h3 := hno i hi hc
        have := (ih (u ||| 2 ^ i) (by omega)).resolve_right (fun z => by omega)
        omega
      · rw [cmN_s]
        exact mnB_none n (fun k hk hc => by have := hno k hk ⟨hc.1, hc.2.2⟩; omega)
/-! one word left out; words that stand -/
def lvF (F : Nat → Nat → Bool) (wd : Nat) : Nat → Nat → Bool := fun k j => F k j && decide (k ≠ wd)
theorem or_comm3 (u a b : Nat) : u ||| a ||| b = u ||| b ||| a := by rw [Nat.or_assoc, Nat.or_comm a b, ← Nat.or_assoc]
theorem wy_leave {F : Nat → Nat → Bool} {n m wd : Nat} (r u : Nat) (hu : u.testBit wd = false) : wyN (lvF F wd) n m r u = wyN F n m r (u ||| 2 ^ wd) := by
  induction r generalizing u with
  | zero => rfl
  | succ r ih =>
    rw [wyN_s, wyN_s]
    apply sumN_congr
    intro k _
    by_cases q : k = wd
    · subst q
      show (if _ then _ else _) = (if _ then _ else _)
      rw [if_neg (fun z => by have := z.2; simp [lvF] at this), if_neg (fun z => by have := z.1; simp [bit_or] at this)]
    · have e1 : (u ||| 2 ^ wd).testBit k = u.testBit k := by rw [bit_or, decide_eq_false (fun z => q z.symm), Bool.or_false]
      have e2 : lvF F wd k (m - (r + 1)) = F k (m - (r + 1)) := by unfold lvF; rw [decide_eq_true q, Bool.and_true]
      show (if _ then _ else _) = (if _ then _ else _)
      rw [e1, e2]
      by_cases z : u.testBit k = false ∧ F k (m - (r + 1)) = true
      · rw [if_pos z, if_pos z, ih _ (by rw [bit_or, hu, decide_eq_false q]; rfl), or_comm3]
      · rw [if_neg z, if_neg z]
/-- the class's: a standing word alone on its line -/
def stX (F : Nat → Nat → Bool) (g : Nat → Int) : Nat → Nat → Bool := fun k j => F k j && (decide (g j = -1) || decide (g j = (k : Int)))
/-- the reference's: on an empty line no word that stands -/
def stM (F : Nat → Nat → Bool) (g : Nat → Int) (m : Nat) : Nat → Nat → Bool := fun k j => F k j && (if g j = -1 then decide (∀ i, i < m → g i ≠ (k : Int)) else decide (g j = (k : Int)))
theorem st_zero {F : Nat → Nat → Bool} {g : Nat → Int} {n m wd l : Nat} (hl : g l = (wd : Int)) (r u : Nat) (hr : r ≤ m) (h1 : m - r ≤ l) (h2 : l < m) (hu : u.testBit wd = true) : wyN (stX F g) n m r u = 0 := by
  induction r generalizing u with
  | zero => omega
  | succ r ih =>
    rw [wyN_s]
    apply sumN_0
    intro k _
    by_cases z : u.testBit k = false ∧ stX F g k (m - (r + 1)) = true
    · rw [if_pos z]
      by_cases q : l = m - (r + 1)
      · exfalso
        have z2 := z.2
        rw [← q] at z2
        unfold stX at z2
        simp only [Bool.and_eq_true, Bool.or_eq_true, decide_eq_true_eq] at z2
        have : k = wd := by omega
        rw [this, hu] at z
        exact absurd z.1 (by decide)
      · exact ih _ (by omega) (by omega) (by rw [bit_or, hu]; rfl)
    · rw [if_neg z]
theorem st_eq {F : Nat → Nat → Bool} {g : Nat → Int} {n m : Nat} (hg : ∀ i j, i < m → j < m → g i = g j → g i ≠ -1 → i = j) (r u : Nat) (hr : r ≤ m) (hu : ∀ i wd : Nat, i < m - r → g i = (wd : Int) → u.testBit wd = true) : wyN (stX F g) n m r u = wyN (stM F g m) n m r u := by
  induction r generalizing u with
  | zero => rfl
  | succ r ih =>
    rw [wyN_s, wyN_s]
    apply sumN_congr
    intro k _
    show (if _ then _ else _) = (if _ then _ else _)
    have hj : m - (r + 1) < m := by omega
    have step : g (m - (r + 1)) = -1 ∨ g (m - (r + 1)) = (k : Int) → wyN (stX F g) n m r (u ||| 2 ^ k) = wyN (stM F g m) n m r (u ||| 2 ^ k) := fun hs => ih _ (by omega) (fun i wd hi hw => by
      rw [bit_or]
      by_cases q : i = m - (r + 1)
      · rw [q] at hw
        rw [decide_eq_true (show k = wd by omega), Bool.or_true]
      · rw [hu i wd (by omega) hw]
        rfl)
    by_cases e : g (m - (r + 1)) = -1
    · by_cases on : ∀ i, i < m → g i ≠ (k : Int)
      · have e2 : stX F g k (m - (r + 1)) = stM F g m k (m - (r + 1)) := by unfold stX stM; rw [if_pos e, decide_eq_true e, decide_eq_true on]; rfl
        rw [e2, step (Or.inl e)]
      · have e2 : stM F g m k (m - (r + 1)) = false := by unfold stM; rw [if_pos e, decide_eq_false on, Bool.and_false]
        rw [if_neg (c := u.testBit k = false ∧ stM F g m k (m - (r + 1)) = true) (fun z => by rw [e2] at z; exact absurd z.2 (by decide))]
        have on2 : ∃ i, i < m ∧ g i = (k : Int) := Classical.byContradiction (fun z => on (fun i hi q => z ⟨i, hi, q⟩))
        obtain ⟨i, hi, hik⟩ := on2
        split
        next z =>
          by_cases q : i < m - (r + 1)
          · rw [hu i k q hik] at z
            exact absurd z.1 (by decide)
          · by_cases q2 : i = m - (r + 1)
            · rw [q2] at hik; omega
            · exact st_zero hik r _ (by omega) (by omega) hi (by rw [bit_or, decide_eq_true rfl, Bool.or_true])
        next => rfl
    · have e2 : stX F g k (m - (r + 1)) = stM F g m k (m - (r + 1)) := by unfold stX stM; rw [if_neg e, decide_eq_false e]; rfl
      rw [e2]
      by_cases ek : g (m - (r + 1)) = (k : Int)
      · rw [step (Or.inr ek)]
      · have e3 : stM F g m k (m - (r + 1)) = false := by unfold stM; rw [if_neg e, decide_eq_false ek, Bool.and_false]
        rw [if_neg (fun z => by rw [e3] at z; exact absurd z.2 (by decide)), if_neg (fun z => by rw [e3] at z; exact absurd z.2 (by decide))]
/-- too few words: no way -/
theorem wy_few {F : Nat → Nat → Bool} {n m : Nat} (hn : n ≤ 8) (r u : Nat) (hu : u < 2 ^ n) (h : n < pcN u + r) : wyN F n m r u = 0 := by
  have h256 := n2_le hn
  have hpc : ∀ n, n ≤ 8 → ∀ u, u < 2 ^ n → pcN u ≤ n := by decide +kernel
  induction r generalizing u with
  | zero => have := hpc n hn u hu; omega
  | succ r ih =>
    rw [wyN_s]
    apply sumN_0
    intro k hk
    by_cases z : u.testBit k = false ∧ F k (m - (r + 1)) = true
    · rw [if_pos z]
      have hp := pcN_or u (by omega) k (by omega) z.1
      exact ih _ (or2_lt hu hk) (by omega)
    · rw [if_neg z]
theorem wyN_congr {F G : Nat → Nat → Bool} {n m : Nat} (h : ∀ k j, k < n → j < m → F k j = G k j) (r u : Nat) (hr : r ≤ m) : wyN F n m r u = wyN G n m r u := by
  induction r generalizing u with
  | zero => rfl
  | succ r ih =>
    rw [wyN_s, wyN_s]
    apply sumN_congr
    intro k hk
    show (if _ then _ else _) = (if _ then _ else _)
    rw [h k _ hk (by omega), ih _ (by omega)]

/-! most lines -/
/-- sets of words that the lines before j may hold -/
def reN (F : Nat → Nat → Bool) (n : Nat) : Nat → Nat → Prop
  | 0, u => u = 0
  | j + 1, u => reN F n j u ∨ ∃ k v, k < n ∧ v.testBit k = false ∧ u = v ||| 2 ^ k ∧ F k j = true ∧ reN F n j v
def mxB (c : Nat → Prop) [DecidablePred c] (f : Nat → Int) (s : Int) : Nat → Int
  | 0 => s
  | k + 1 => if c k then max (mxB c f s k) (f k) else mxB c f s k
/-- most lines of the last r, by who is used -/
def hdN (F : Nat → Nat → Bool) (n m : Nat) : Nat → Nat → Int
  | 0, _ => 0
  | r + 1, u => mxB (fun k => u.testBit k = false ∧ F k (m - (r + 1)) = true) (fun k => 1 + hdN F n m r (u ||| 2 ^ k)) (hdN F n m r u) n
theorem hdN_s (F : Nat → Nat → Bool) (n m r u : Nat) : hdN F n m (r + 1) u = mxB (fun k => u.testBit k = false ∧ F k (m - (r + 1)) = true) (fun k => 1 + hdN F n m r (u ||| 2 ^ k)) (hdN F n m r u) n := rfl
theorem mxB_ge {c : Nat → Prop} [DecidablePred c] {f : Nat → Int} {s : Int} (n : Nat) : s ≤ mxB c f s n ∧ ∀ k, k < n → c k → f k ≤ mxB c f s n := by
  induction n with
  | zero => exact ⟨Int.le_refl _, fun k h => by omega⟩
  | succ n ih =>
    show s ≤ (if c n then max (mxB c f s n) (f n) else mxB c f s n) ∧ ∀ k, k < n + 1 → c k → f k ≤ (if c n then max (mxB c f s n) (f n) else mxB c f s n)
    by_cases q : c n
    · rw [if_pos q]
      refine ⟨by have := ih.1; omega, fun k hk hc => ?_⟩
      by_cases z : k = n
      · subst z; omega
      · have := ih.2 k (by omega) hc; omega
    · rw [if_neg q]
      refine ⟨ih.1, fun k hk hc => ?_⟩
      by_cases z : k = n
      · subst z; exact absurd hc q
      · exact ih.2 k (by omega) hc
theorem mxB_or {c : Nat → Prop} [DecidablePred c] {f : Nat → Int} {s : Int} (n : Nat) : mxB c f s n = s ∨ ∃ k, k < n ∧ c k ∧ mxB c f s n = f k := by
  induction n with
  | zero => exact Or.inl rfl
  | succ n ih =>
    show (if c n then max (mxB c f s n) (f n) else mxB c f s n) = s ∨ ∃ k, k < n + 1 ∧ c k ∧ (if c n then max (mxB c f s n) (f n) else mxB c f s n) = f k
    by_cases q : c n
    · rw [if_pos q]
      by_cases q2 : f n ≤ mxB c f s n
      · rw [show max (mxB c f s n) (f n) = mxB c f s n by omega]
        rcases ih with h | ⟨k, h1, h2, h3⟩
        · exact Or.inl h
        · exact Or.inr ⟨k, by omega, h2, h3⟩
      · exact Or.inr ⟨n, by omega, q, by omega⟩
    · rw [if_neg q]
      rcases ih with h | ⟨k, h1, h2, h3⟩
      · exact Or.inl h
      · exact Or.inr ⟨k, by omega, h2, h3⟩
theorem reN_lt {F : Nat → Nat → Bool} {n : Nat} (j u : Nat) (h : reN F n j u) : u < 2 ^ n := by
  induction j generalizing u with
  | zero => rw [show u = 0 from h]; exact Nat.pow_pos (by decide)
  | succ j ih =>
    rcases h with h | ⟨k, v, h1, h2, h3, h4, h5⟩
    · exact ih u h
    · rw [h3]; exact or2_lt (ih v h5) h1
theorem reN_le {F : Nat → Nat → Bool} {n m : Nat} (hn : n ≤ 8) (j u : Nat) (hj : j ≤ m) (h : reN F n j u) : (pcN u : Int) + hdN F n m (m - j) u ≤ hdN F n m m 0 := by
  induction j generalizing u with
  | zero => rw [show u = 0 from h]; simp [pcN]
  | succ j ih =>
    obtain ⟨r, hr⟩ : ∃ r, m - j = r + 1 := ⟨m - j - 1, by omega⟩
    have er : m - (j + 1) = r := by omega
    rw [er]
    rcases h with h | ⟨k, v, h1, h2, h3, h4, h5⟩
    · have := ih u (by omega) h
      rw [hr, hdN_s] at this
      have := (mxB_ge (c := fun k => u.testBit k = false ∧ F k (m - (r + 1)) = true) (f := fun k => 1 + hdN F n m r (u ||| 2 ^ k)) (s := hdN F n m r u) n).1
      omega
    · have hv := ih v (by omega) h5
      have hv2 := reN_lt j v h5
      have h256 := n2_le hn
      have hp := pcN_or v (by omega) k (by omega) h2
      rw [hr, hdN_s] at hv
      have := (mxB_ge (c := fun k => v.testBit k = false ∧ F k (m - (r + 1)) = true) (f := fun k => 1 + hdN F n m r (v ||| 2 ^ k)) (s := hdN F n m r v) n).2 k h1 ⟨h2, by rw [show m - (r + 1) = j by omega]; exact h4⟩
      rw [← h3] at this hp
      omega
theorem reN_ge {F : Nat → Nat → Bool} {n m : Nat} (hn : n ≤ 8) (r u : Nat) (hr : r ≤ m) (h : reN F n (m - r) u) : ∃ v, reN F n m v ∧ (pcN v : Int) = pcN u + hdN F n m r u := by
  induction r generalizing u with
  | zero => exact ⟨u, h, (Int.add_zero _).symm⟩
  | succ r ih =>
    have e : m - r = (m - (r + 1)) + 1 := by omega
    rcases mxB_or (c := fun k => u.testBit k = false ∧ F k (m - (r + 1)) = true) (f := fun k => 1 + hdN F n m r (u ||| 2 ^ k)) (s := hdN F n m r u) n with z | ⟨k, z1, z2, z3⟩
    · rw [← hdN_s] at z
      rw [z]
      exact ih u (by omega) (by rw [e]; exact Or.inl h)
    · rw [← hdN_s] at z3
      have h256 := n2_le hn
      have hu := reN_lt _ u h
      have hp := pcN_or u (by omega) k (by omega) z2.1
      obtain ⟨v, v1, v2⟩ := ih (u ||| 2 ^ k) (by omega) (by rw [e]; exact Or.inr ⟨k, u, z1, z2.1, rfl, z2.2, h⟩)
      exact ⟨v, v1, by omega⟩
/-- the most of those that hold is the reference's number -/
theorem held_eq {F : Nat → Nat → Bool} {n m : Nat} {M : Int} (hn : n ≤ 8) (h1 : ∀ u, reN F n m u → (pcN u : Int) ≤ M) (h2 : ∃ u, reN F n m u ∧ (pcN u : Int) = M) : M = hdN F n m m 0 := by
  apply Int.le_antisymm
  · obtain ⟨u, u1, u2⟩ := h2
    have := reN_le hn m u (Nat.le_refl m) u1
    rw [Nat.sub_self] at this
    have e : hdN F n m 0 u = 0 := rfl
    omega
  · obtain ⟨v, v1, v2⟩ := reN_ge (F := F) (n := n) (m := m) hn m 0 (Nat.le_refl m) (by rw [Nat.sub_self]; rfl)
    have := h1 v v1
    have e : pcN 0 = 0 := rfl
    omega
theorem hdN_r {F : Nat → Nat → Bool} {n m : Nat} (r u : Nat) : 0 ≤ hdN F n m r u ∧ hdN F n m r u ≤ r := by
  induction r generalizing u with
  | zero => exact ⟨Int.le_refl 0, Int.le_refl 0⟩
  | succ r ih =>
    have h0 := ih u
    rcases mxB_or (c := fun k => u.testBit k = false ∧ F k (m - (r + 1)) = true) (f := fun k => 1 + hdN F n m r (u ||| 2 ^ k)) (s := hdN F n m r u) n with z | ⟨k, z1, z2, z3⟩
    · rw [← hdN_s] at z; omega
    · rw [← hdN_s] at z3
      have := ih (u ||| 2 ^ k)
      omega
/-! rows -/
def roN (L : Nat → Nat → Int) (n : Nat) : Nat → Nat → Nat → Int → Int → Prop
  | 0, _, _, code, c => c = code
  | r + 1, l, u, code, c => ∃ k, k < n ∧ u.testBit k = false ∧ roN L n r (l + 1) (u ||| 2 ^ k) (10 * code + L k l) c
/-- the reference's, by a number of eight -/
def rbN (L : Nat → Nat → Int) (n : Nat) : Nat → Nat → Nat → Int → Nat → Int
  | 0, _, _, row, _ => row
  | r + 1, l, u, row, rest => if n ≤ rest % 8 ∨ u.testBit (rest % 8) = true then -1 else rbN L n r (l + 1) (u ||| 2 ^ (rest % 8)) (10 * row + L (rest % 8) l) (rest / 8)
theorem ro_rb2 {L : Nat → Nat → Int} {n : Nat} (hn : n ≤ 8) (hL : ∀ k l, k < n → 0 ≤ L k l) (r l u : Nat) (row c : Int) (h0 : 0 ≤ row) (hc : 0 ≤ c) : roN L n r l u row c ↔ ∃ rest, rest < 8 ^ r ∧ rbN L n r l u row rest = c := by
  induction r generalizing l u row with
  | zero => exact ⟨fun h => ⟨0, by decide, h.symm⟩, fun ⟨rest, _, h⟩ => h.symm⟩
  | succ r ih =>
    constructor
    · rintro ⟨k, h1, h2, h3⟩
      obtain ⟨rest, q1, q2⟩ := (ih _ _ _ (by have := hL k l h1; omega)).mp h3
      refine ⟨k + 8 * rest, by rw [Nat.pow_succ]; omega, ?_⟩
      show (if _ then _ else _) = c
      rw [show (k + 8 * rest) % 8 = k by omega, show (k + 8 * rest) / 8 = rest by omega, if_neg (fun z => by rcases z with z | z; omega; rw [h2] at z; exact absurd z (by decide))]
      exact q2
    · rintro ⟨rest, q1, q2⟩
      have q2 : (if n ≤ rest % 8 ∨ u.testBit (rest % 8) = true then -1 else rbN L n r (l + 1) (u ||| 2 ^ (rest % 8)) (10 * row + L (rest % 8) l) (rest / 8)) = c := q2
      by_cases z : n ≤ rest % 8 ∨ u.testBit (rest % 8) = true
      · rw [if_pos z] at q2; omega
      · rw [if_neg z] at q2
        rw [Nat.pow_succ] at q1
        exact ⟨rest % 8, by omega, by cases hb : u.testBit (rest % 8) with | false => rfl | true => exact absurd (Or.inr hb) z, (ih _ _ _ (by have := hL (rest % 8) l (by omega); omega)).mpr ⟨rest / 8, by omega, q2⟩⟩
theorem rb_1 {L : Nat → Nat → Int} {n r l u rest : Nat} {row : Int} (h : n ≤ rest % 8) : rbN L n (r + 1) l u row rest = -1 := if_pos (Or.inl h)
theorem rb_2 {L : Nat → Nat → Int} {n r l u rest : Nat} {row : Int} (h : u.testBit (rest % 8) = true) : rbN L n (r + 1) l u row rest = -1 := if_pos (Or.inr h)
theorem rb_3 {L : Nat → Nat → Int} {n r l u rest : Nat} {row : Int} (h : rest % 8 < n) (h2 : u.testBit (rest % 8) = false) : rbN L n (r + 1) l u row rest = rbN L n r (l + 1) (u ||| 2 ^ (rest % 8)) (10 * row + L (rest % 8) l) (rest / 8) := if_neg (fun z => by rcases z with z | z; omega; rw [h2] at z; exact absurd z (by decide))
