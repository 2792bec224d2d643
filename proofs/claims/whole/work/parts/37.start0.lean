/-! the world as the constructors leave it -/
def w0 : Wd := fun i => match i with
  | 0 => fun k => if k = 9 then 1 else 0
  | 1 => fun k => if k = 1 then 3 else 0
  | 9 => fun k => if k = 1 then 3 else 0
  | 17 => fun k => if k = 1 then 3 else 0
  | 25 => fun k => if k = 1 then 3 else 0
  | 5 => fun _ => -1
  | 13 => fun _ => -1
  | 21 => fun _ => -1
  | 29 => fun _ => -1
  | 39 => fun k => if k = 6 then 1 else 0
  | 40 => bg0
  | 41 => bg0
  | 50 => fun k => 10 ^ k
  | _ => fun _ => 0
abbrev geo0 (D : va_G) (cI cZ : ClassId) (adr : List Nat) : Geo := (fun i => adr.getD i 0, D, cI, cZ)
theorem bg_r (k : Nat) : -1 ≤ bg0 k ∧ bg0 k ≤ 3 := by
  unfold bg0 sBegin
  split
  · decide
  · split
    · decide
    · split
      · decide
      · split <;> decide
theorem w0_r (i k : Nat) (h : i < 50) : -1 ≤ w0 i k ∧ w0 i k ≤ 3 := by
  unfold w0
  split
  all_goals first
    | exact bg_r k
    | omega
    | (dsimp only; split <;> decide)
    | (dsimp only; decide)
theorem w0_b : ∀ i, i < 50 → kdT i < 5 → ∀ k, k < 19 → ftc (kdT i) k = 1 → w0 i k = 0 := by decide +kernel
theorem kd_6 : ∀ i, i < 50 → kdT i = 6 → i = 43 ∨ i = 48 := by decide +kernel
theorem sz_19 : ∀ i, i < 50 → kdT i < 5 → szT i ≤ 19 := by decide +kernel
theorem kd_7 : ∀ i, i < 50 → kdT i < 7 := by decide +kernel
theorem w0_ok : rngW w0 := by
  refine ⟨fun i k hi hk => ?_, fun k hk => rfl⟩
  have hr := w0_r i k hi
  have h7 := kd_7 i hi
  have hb : tyT i k = 1 → w0 i k = 0 := by
    intro ht
    unfold tyT at ht
    by_cases h5 : kdT i = 5
    · rw [if_pos h5] at ht; omega
    · rw [if_neg h5] at ht
      by_cases h6 : kdT i = 6
      · rcases kd_6 i hi h6 with rfl | rfl <;> rfl
      · rw [if_neg h6] at ht
        have hs := sz_19 i hi (by omega)
        exact w0_b i hi (by omega) k (by omega) ht
  generalize tyT i k = t at hb ⊢
  match t, hb with
  | 0, _ => show ri32 _; unfold ri32; omega
  | 1, hb => have := hb rfl; show 0 ≤ w0 i k ∧ w0 i k ≤ 1; omega
  | 2, _ => show ri64 _; unfold ri64; omega
  | t + 3, _ => exact trivial

set_option maxHeartbeats 4000000 in
set_option maxRecDepth 100000 in
theorem cells0 (D : va_G) (cI cZ : ClassId) (x0 x1 x2 x3 x4 x5 x6 x7 x8 x9 x10 x11 x12 x13 x14 x15 x16 x17 x18 x19 x20 x21 x22 x23 x24 x25 x26 x27 x28 x29 x30 x31 x32 x33 x34 x35 x36 x37 x38 x39 x40 x41 x42 x43 x44 x45 x46 x47 x48 x49 pw k0 k1 k2 k3 v0 v1 v2 v3 b : Nat) : cellsT (geo0 D cI cZ [x0, x1, x2, x3, x4, x5, x6, x7, x8, x9, x10, x11, x12, x13, x14, x15, x16, x17, x18, x19, x20, x21, x22, x23, x24, x25, x26, x27, x28, x29, x30, x31, x32, x33, x34, x35, x36, x37, x38, x39, x40, x41, x42, x43, x44, x45, x46, x47, x48, x49, pw, k0, k1, k2, k3, v0, v1, v2, v3, b]) w0 = [(x0, .inr (3, [.ref x1, .ref x9, .ref x17, .ref x25, .int 0, .int 0, .ref x33, .ref x35, .long 0, .long 1, .int 0, .int 0, .int 0])), (x1, .inr (2, [.int 0, .int 3, .int 0, .int 0, .int 0, .int 0, .int 0, .ref x2, .ref x3, .ref x4, .ref x5, .ref x6, .ref x7, .ref x8])), (x2, .inl (cI, 8, .inl (fun _ => 0))), (x3, .inl (cI, 8, .inl (fun _ => 0))), (x4, .inl (cI, 8, .inl (fun _ => 0))), (x5, .inl (cI, 6, .inl (fun _ => -1))), (x6, .inl (cI, 18, .inl (fun _ => 0))), (x7, .inl (cI, 24, .inl (fun _ => 0))), (x8, .inl (cI, 48, .inl (fun _ => 0))), (x9, .inr (2, [.int 0, .int 3, .int 0, .int 0, .int 0, .int 0, .int 0, .ref x10, .ref x11, .ref x12, .ref x13, .ref x14, .ref x15, .ref x16])), (x10, .inl (cI, 8, .inl (fun _ => 0))), (x11, .inl (cI, 8, .inl (fun _ => 0))), (x12, .inl (cI, 8, .inl (fun _ => 0))), (x13, .inl (cI, 6, .inl (fun _ => -1))), (x14, .inl (cI, 18, .inl (fun _ => 0))), (x15, .inl (cI, 24, .inl (fun _ => 0))), (x16, .inl (cI, 48, .inl (fun _ => 0))), (x17, .inr (2, [.int 0, .int 3, .int 0, .int 0, .int 0, .int 0, .int 0, .ref x18, .ref x19, .ref x20, .ref x21, .ref x22, .ref x23, .ref x24])), (x18, .inl (cI, 8, .inl (fun _ => 0))), (x19, .inl (cI, 8, .inl (fun _ => 0))), (x20, .inl (cI, 8, .inl (fun _ => 0))), (x21, .inl (cI, 6, .inl (fun _ => -1))), (x22, .inl (cI, 18, .inl (fun _ => 0))), (x23, .inl (cI, 24, .inl (fun _ => 0))), (x24, .inl (cI, 48, .inl (fun _ => 0))), (x25, .inr (2, [.int 0, .int 3, .int 0, .int 0, .int 0, .int 0, .int 0, .ref x26, .ref x27, .ref x28, .ref x29, .ref x30, .ref x31, .ref x32])), (x26, .inl (cI, 8, .inl (fun _ => 0))), (x27, .inl (cI, 8, .inl (fun _ => 0))), (x28, .inl (cI, 8, .inl (fun _ => 0))), (x29, .inl (cI, 6, .inl (fun _ => -1))), (x30, .inl (cI, 18, .inl (fun _ => 0))), (x31, .inl (cI, 24, .inl (fun _ => 0))), (x32, .inl (cI, 48, .inl (fun _ => 0))), (x33, .inr (1, [.ref x34, .int 0, .int 0, .int 0, .int 0, .int 0, .int 0, .int 0, .int 0])), (x34, .inl (cI, 150, .inl (fun _ => 0))), (x35, .inr (0, [.ref x36, .ref x37, .ref x38, .int 0, .int 0])), (x36, .inl (cI, 6, .inl (fun _ => 0))), (x37, .inl (cI, 256, .inl (fun _ => 0))), (x38, .inl (cI, 32, .inl (fun _ => 0))), (x39, .inr (4, [.ref x40, .ref x41, .ref x42, .ref x43, .ref x44, .long 0, .long 1, .int 0, .ref x45, .int 0, .int 0, .int 0, .int 0, .long 0, .int 0, .ref x46, .ref x47, .ref x48, .ref x49])), (x40, .inl (cI, 127, .inl bgf)), (x41, .inl (cI, 127, .inl bgf)), (x42, .inl (cI, 254, .inl (fun _ => 0))), (x43, .inl (cZ, 2, .inl (fun _ => 0))), (x44, .inl (cI, 3, .inl (fun _ => 0))), (x45, .inl (cI, 150, .inl (fun _ => 0))), (x46, .inl (cI, 1792, .inl (fun _ => 0))), (x47, .inl (cI, 1792, .inl (fun _ => 0))), (x48, .inl (cZ, 1000, .inl (fun _ => 0))), (x49, .inl (cI, 6, .inl (fun _ => 0)))] := rfl

theorem inv_0 : INV w0 := by
  have hA : AOK (w0 40) := bg_ok
  have hV : ∀ b, b = 1 ∨ b = 17 ∨ b = 25 → VX w0 b (w0 40) := by
    intro b hb
    rcases hb with rfl | rfl | rfl <;>
    · refine ⟨⟨rfl, rfl, rfl, rfl, rfl, rfl, rfl⟩, fun k hk => absurd hk (show ¬ (k : Int) < 0 by omega), fun j hj => ?_, fun k hk => absurd hk (show ¬ (k : Int) < 3 * 0 by omega), fun k hk => absurd hk (show ¬ (k : Int) < 4 * 0 by omega), fun k hk => absurd hk (show ¬ (k : Int) < 6 * 0 by omega)⟩
      have : j = 0 ∨ j = 1 ∨ j = 2 ∨ j = 3 ∨ j = 4 ∨ j = 5 := by omega
      rcases this with rfl | rfl | rfl | rfl | rfl | rfl <;> rfl
  refine ⟨w0 40, w0 40, fun _ => 0, 0, fun k => if k = 3 then 1 else 0, ⟨hV 1 (Or.inl rfl), fun _ => hV 17 (Or.inr (Or.inl rfl)), fun _ => hV 25 (Or.inr (Or.inr rfl)), ⟨fun k hk => absurd hk (Nat.not_lt_zero k), rfl, by decide, fun k hk => absurd hk (Nat.not_lt_zero k)⟩, rfl, rfl, rfl, rfl, rfl, rfl, rfl⟩, ⟨fun h => absurd rfl h, fun h => absurd rfl h, ⟨fun k hk => absurd hk (Nat.not_lt_zero k), rfl, by decide, fun k hk => absurd hk (Nat.not_lt_zero k)⟩, rfl, rfl, rfl, rfl, rfl, rfl, rfl⟩, hA, fun _ => hA, fun _ => hA⟩
/-! what the Statement says of the rest of the heap -/
def tmS (i : Nat) : Term := .string "AcrosticLines$TextReader" ([58, 39, 48, 53].getD i 0)
def FTS : List Cond := flatC (Jvm.Cond.and given_1 narrow_1)
def tmP : Term := .static "AcrosticLines" "POWERS" "[I"
theorem ft_1 : Cond.arrayOf tmP .int ∈ FTS := by decide +kernel
theorem ft_2 : Cond.eq (.length tmP) (.int (Int32.ofNat 7)) ∈ FTS := by decide +kernel
theorem ft_3 : ∀ j, j < 7 → Cond.eq (.elem tmP (.int (Int32.ofNat j))) (.int (Int32.ofInt (10 ^ j))) ∈ FTS := by decide +kernel
theorem ft_4 : ∀ i, i < 4 → Cond.exactly (tmS i) "java/lang/String" ∈ FTS := by decide +kernel
theorem ft_5 : ∀ i, i < 4 → Cond.eq (.field (tmS i) "java/lang/String" "coder" "B") (.int 0) ∈ FTS := by decide +kernel
theorem ft_6 : ∀ i, i < 4 → Cond.arrayOf (.field (tmS i) "java/lang/String" "value" "[B") .byte ∈ FTS := by decide +kernel
theorem ft_7 : ∀ i, i < 4 → Cond.eq (.length (.field (tmS i) "java/lang/String" "value" "[B")) (.int (Int32.ofNat (lenS.getD i 0))) ∈ FTS := by decide +kernel
theorem ft_8 : ∀ i, i < 4 → ∀ j, j < lenS.getD i 0 → Cond.eq (.elem (.field (tmS i) "java/lang/String" "value" "[B") (.int (Int32.ofNat j))) (.int ((bytS.getD i []).getD j 0)) ∈ FTS := by decide +kernel
theorem ft_9 : ∀ i, i < 4 → ∀ j, j < 4 → i ≠ j → Cond.not (Cond.eq (tmS i) (tmS j)) ∈ FTS ∨ Cond.not (Cond.eq (tmS j) (tmS i)) ∈ FTS := by decide +kernel
theorem ft_10 : Cond.eq (.static "java/lang/String" "COMPACT_STRINGS" "Z") (.int 1) ∈ FTS := by decide +kernel
theorem ft_11 : Cond.isRef (.static "jdk/internal/util/Preconditions" "SIOOBE_FORMATTER" "Ljava/util/function/BiFunction;") ∈ FTS := by decide +kernel
def KUr (pw : Nat) (aK aV : Nat → Nat) (A : Nat → Prop) (s : State) : Prop :=
  va_Z "AcrosticLines" "POWERS" "[I" (.ref pw) A s s.heap ∧ va_T .int pw 7 (fun j => .int (Int32.ofInt (10 ^ j))) A s s.heap ∧
  (∀ w ∈ nestW, va_Nw w s) ∧ vk_S 4 lenS bytS aK aV A s s.heap ∧
  (∀ q ∈ strW, vk_R "AcrosticLines$TextReader" q.1 q.2.1 (aK q.2.2) s) ∧
  va_Z "java/lang/String" "COMPACT_STRINGS" "Z" (.int 1) A s s.heap ∧
  va_Zq "jdk/internal/util/Preconditions" "SIOOBE_FORMATTER" "Ljava/util/function/BiFunction;" A s s.heap

theorem ku_raw {args : Array Value} {s : State} (hts : ∀ w ∈ lw_tbl, w.before args s = true) (hgv : (Jvm.Cond.and given_1 narrow_1).before args s = true) : ∃ (pw : Nat) (aK aV : Nat → Nat), KUr pw aK aV (fun q => s.heap.size ≤ q) s := by
  have hs : ∀ c ∈ FTS, c.before args s = true := flat_of_before _ hgv
  have hA : ∀ a : Nat, a < s.heap.size → ¬ s.heap.size ≤ a := fun a h => Nat.not_le.mpr h
  obtain ⟨pw, hp1, hp2⟩ := va_Tof (tm := tmP) (ty := .int) (N := 7) (f := fun j => .int (Int32.ofInt (10 ^ j))) (A := fun q => s.heap.size ≤ q) (by decide) (hs _ ft_1) (va_eqt (hs _ ft_2)) (fun j hj => va_eqt (hs _ (ft_3 j hj))) hA
  obtain ⟨aK, aV, hS1, hS2⟩ := vk_Sof (tm := tmS) (N := 4) (len := lenS) (byt := bytS) (A := fun q => s.heap.size ≤ q) (by decide +kernel) (fun i hi => hs _ (ft_4 i hi)) (fun i hi => hs _ (ft_5 i hi)) (fun i hi => hs _ (ft_6 i hi)) (fun i hi => hs _ (ft_7 i hi)) (fun i hi j hj => hs _ (ft_8 i hi j hj)) (fun i j hi hj hij => (ft_9 i hi j hj hij).imp (hs _) (hs _)) hA
  refine ⟨pw, aK, aV, va_Zof (hts _ (List.mem_of_getElem? (i := 263) (by decide +kernel))) (hts _ (List.mem_of_getElem? (i := 58) (by decide +kernel))) hp1 hA, hp2, fun w hw => ?_, hS1, fun q hq => ?_, va_Zof (hts _ (List.mem_of_getElem? (i := 364) (by decide +kernel))) (hts _ (List.mem_of_getElem? (i := 64) (by decide +kernel))) (va_eqi (hs _ ft_10)) hA, va_Zqof (hts _ (List.mem_of_getElem? (i := 380) (by decide +kernel))) (hts _ (List.mem_of_getElem? (i := 66) (by decide +kernel))) (hs _ ft_11) hA⟩
  · obtain ⟨h1, hn⟩ := List.mem_filter.mp hw
    have h0 := hts w h1
    cases w <;> first | exact va_Nw.of rfl h0 | exact absurd hn Bool.false_ne_true
  · simp only [strW, List.mem_cons, List.not_mem_nil, or_false] at hq
    rcases hq with rfl | rfl | rfl | rfl
    · exact vk_R.of (hts _ (List.mem_of_getElem? (i := 350) (by decide +kernel))) (hS2 0 (by decide))
    · exact vk_R.of (hts _ (List.mem_of_getElem? (i := 412) (by decide +kernel))) (hS2 1 (by decide))
    · exact vk_R.of (hts _ (List.mem_of_getElem? (i := 419) (by decide +kernel))) (hS2 2 (by decide))
    · exact vk_R.of (hts _ (List.mem_of_getElem? (i := 437) (by decide +kernel))) (hS2 3 (by decide))
theorem ku_geo {pw : Nat} {aK aV : Nat → Nat} {s : State} {G : Geo} (h : KUr pw aK aV (fun q => s.heap.size ≤ q) s) (hG : ∀ q, AG G q → s.heap.size ≤ q) (hp : G.1 50 = pw) (hk : ∀ i, i < 4 → G.1 (51 + i) = aK i) (hv : ∀ i, i < 4 → G.1 (55 + i) = aV i) : KU G s s.heap := by
  obtain ⟨h1, h2, h3, h4, h5, h6, h7⟩ := h
  refine ⟨by rw [hp]; exact h1.narrow hG, by rw [hp]; exact h2.narrow hG, h3, ?_, fun q hq => ?_, h6.narrow hG, h7.narrow hG⟩
  · have h4n := h4.narrow hG
    refine ⟨fun i hi => ?_, fun i j hi hj e => ?_⟩
    · dsimp only
      rw [hk i hi, hv i hi]
      exact h4n.1 i hi
    · dsimp only at e
      rw [hk i hi, hk j hj] at e
      exact h4n.2 i j hi hj e
  · have hq4 : q.2.2 < 4 := by
      simp only [strW, List.mem_cons, List.not_mem_nil, or_false] at hq
      rcases hq with rfl | rfl | rfl | rfl <;> decide
    rw [hk _ hq4]
    exact h5 q hq
