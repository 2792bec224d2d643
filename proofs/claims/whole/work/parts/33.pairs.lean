/-! what holds of both between calls -/
def INVX (w : Wd) (a a0 a1 t : Nat → Int) (len : Nat) (g : Nat → Int) : Prop := VX w 1 a ∧ (g 0 ≠ 0 → VX w 17 a0) ∧ (g 1 ≠ 0 → VX w 25 a1) ∧ TX w t len ∧ w 0 4 = g 0 ∧ w 0 5 = g 1 ∧ w 0 8 = g 2 ∧ w 0 9 = g 3 ∧ w 0 10 = g 4 ∧ w 0 11 = g 5 ∧ w 0 12 = g 6
def INVM (w : Wd) (a0 a1 t : Nat → Int) (len : Nat) (g : Nat → Int) : Prop := (g 0 ≠ 0 → ∀ q, q < 127 → w 42 q = a0 q) ∧ (g 1 ≠ 0 → ∀ q, q < 127 → w 42 (127 + q) = a1 q) ∧ TXm w t len ∧ w 43 0 = g 0 ∧ w 43 1 = g 1 ∧ w 39 5 = g 2 ∧ w 39 6 = g 3 ∧ w 44 0 = g 4 ∧ w 44 1 = g 5 ∧ w 44 2 = g 6
def INV (w : Wd) : Prop := ∃ (a0 a1 t : Nat → Int) (len : Nat) (g : Nat → Int), INVX w (w 40) a0 a1 t len g ∧ INVM w a0 a1 t len g ∧ AOK (w 40) ∧ (g 0 ≠ 0 → AOK a0) ∧ (g 1 ≠ 0 → AOK a1)
theorem INVX.fr {w w2 : Wd} {a a0 a1 t : Nat → Int} {len : Nat} {g : Nat → Int} (h : INVX w a a0 a1 t len g) (e : ∀ i k : Nat, i < 39 → ¬ (9 ≤ i ∧ i ≤ 16) → ¬ (35 ≤ i ∧ i ≤ 38) → ¬ (i = 33 ∧ 2 ≤ k) → w2 i k = w i k) : INVX w2 a a0 a1 t len g := by
  obtain ⟨h1, h2, h3, h4, h5, h6, h7, h8, h9, h10, h11⟩ := h
  exact ⟨h1.fr (fun i k p q => e i k (by omega) (by omega) (by omega) (by omega)), fun z => (h2 z).fr (fun i k p q => e i k (by omega) (by omega) (by omega) (by omega)), fun z => (h3 z).fr (fun i k p q => e i k (by omega) (by omega) (by omega) (by omega)), h4.fr (fun k => e 34 k (by decide) (by decide) (by decide) (by omega)) (e 33 1 (by decide) (by decide) (by decide) (by decide)), by rw [e 0 4 (by decide) (by decide) (by decide) (by decide)]; exact h5, by rw [e 0 5 (by decide) (by decide) (by decide) (by decide)]; exact h6, by rw [e 0 8 (by decide) (by decide) (by decide) (by decide)]; exact h7, by rw [e 0 9 (by decide) (by decide) (by decide) (by decide)]; exact h8, by rw [e 0 10 (by decide) (by decide) (by decide) (by decide)]; exact h9, by rw [e 0 11 (by decide) (by decide) (by decide) (by decide)]; exact h10, by rw [e 0 12 (by decide) (by decide) (by decide) (by decide)]; exact h11⟩
theorem INVM.fr {w w2 : Wd} {a0 a1 t : Nat → Int} {len : Nat} {g : Nat → Int} (h : INVM w a0 a1 t len g) (e : ∀ i k : Nat, 39 ≤ i → i ≠ 40 → i ≠ 41 → ¬ (46 ≤ i ∧ i ≤ 49) → ¬ (i = 39 ∧ 9 ≤ k) → w2 i k = w i k) : INVM w2 a0 a1 t len g := by
  obtain ⟨h1, h2, h3, h4, h5, h6, h7, h8, h9, h10⟩ := h
  have f : ∀ i k : Nat, 42 ≤ i → i ≤ 45 → w2 i k = w i k := fun i k p q => e i k (by omega) (by omega) (by omega) (by omega) (by omega)
  have f2 : ∀ k : Nat, k < 9 → w2 39 k = w 39 k := fun k p => e 39 k (by decide) (by decide) (by decide) (by decide) (by omega)
  exact ⟨fun z q hq => by rw [f 42 q (by decide) (by decide)]; exact h1 z q hq, fun z q hq => by rw [f 42 _ (by decide) (by decide)]; exact h2 z q hq, h3.fr (fun k => f 45 k (by decide) (by decide)) (f2 7 (by decide)), by rw [f 43 0 (by decide) (by decide)]; exact h4, by rw [f 43 1 (by decide) (by decide)]; exact h5, by rw [f2 5 (by decide)]; exact h6, by rw [f2 6 (by decide)]; exact h7, by rw [f 44 0 (by decide) (by decide)]; exact h8, by rw [f 44 1 (by decide) (by decide)]; exact h9, by rw [f 44 2 (by decide) (by decide)]; exact h10⟩
theorem INV.mk {w1 w2 : Wd} {b a0 a1 t : Nat → Int} {len : Nat} {g : Nat → Int} (hX : INVX w1 b a0 a1 t len g) (hf : ∀ i k : Nat, i < 39 → w2 i k = w1 i k) (hM : INVM w2 a0 a1 t len g) (hb : ∀ q, q < 127 → w2 40 q = b q) (hA : AOK b) (h0 : g 0 ≠ 0 → AOK a0) (h1 : g 1 ≠ 0 → AOK a1) : INV w2 := by
  refine ⟨a0, a1, t, len, g, ?_, hM, hA.cg hb, h0, h1⟩
  have h := INVX.fr (w2 := w2) hX (fun i k p _ _ _ => hf i k p)
  exact ⟨h.1.cg hA hb, h.2⟩
def scX (w w1 : Wd) : Prop := ∀ i k : Nat, ¬ (9 ≤ i ∧ i ≤ 16) → ¬ (35 ≤ i ∧ i ≤ 38) → ¬ (i = 33 ∧ 2 ≤ k) → w1 i k = w i k
def scM (w w1 : Wd) : Prop := ∀ i k : Nat, i ≠ 41 → ¬ (46 ≤ i ∧ i ≤ 49) → ¬ (i = 39 ∧ 9 ≤ k) → w1 i k = w i k
theorem scX.sp {w w1 : Wd} (h : spF w w1) : scX w w1 := fun i k p q _ => h i k (by omega)
theorem scX.b9 {w w1 : Wd} (h : smB w w1 9) : scX w w1 := fun i k p q _ => h i k (by omega)
theorem scX.r {w w1 : Wd} (h : frR w w1) : scX w w1 := fun i k p q r => h i k p r
theorem scM.w {w w1 : Wd} (h : frW w w1) : scM w w1 := fun i k p q _ => h i k (by omega) (by omega)
theorem scM.q {w w1 : Wd} (h : fr48 w w1) : scM w w1 := fun i k p q _ => h i k (by omega)
theorem scM.n {w w1 : Wd} (h : frN w w1) : scM w w1 := fun i k p q r => h i k p (by omega)
theorem scM.e {w w1 : Wd} (h : ∀ i k : Nat, i ≠ 49 → w1 i k = w i k) : scM w w1 := fun i k p q _ => h i k (by omega)
theorem inv_sc {w w1 w2 : Wd} (h : INV w) (o1 : scX w w1) (o2 : scM w1 w2) : INV w2 := by
  obtain ⟨a0, a1, t, len, g, hX, hM, hA, h0, h1⟩ := h
  refine INV.mk (w1 := w2) (b := w 40) (hX.fr (fun i k p q r s => by rw [o2 i k (by omega) (by omega) (by omega)]; exact o1 i k q r s)) (fun _ _ _ => rfl) (hM.fr (fun i k p q r s u => by rw [o2 i k r s u]; exact o1 i k (by omega) (by omega) (by omega))) (fun q _ => ?_) hA h0 h1
  rw [o2 40 q (by decide) (by decide) (by omega)]
  exact o1 40 q (by decide) (by decide) (by omega)
theorem eB (w : Wd) (k : Nat) : (cI w 0 k) 40 = w 40 := funext (fun q => up_id _ _ (by decide))
theorem eS {w w1 : Wd} {b : Nat} (hb : b ≤ 30) (h : smB w w1 b) : w1 40 = w 40 := funext (fun q => h 40 q (by omega))
theorem eP {w w1 : Wd} (h : spF w w1) : w1 40 = w 40 := funext (fun q => h 40 q (by omega))
/-- a refusal -/
theorem inv_r {w : Wd} (h : INV w) (r : Nat) (hr : r < 3) : INV (cI (cI w 0 (10 + r)) 44 r) := by
  obtain ⟨a0, a1, t, len, g, hX, hM, hA, h0, h1⟩ := h
  have e44 : ∀ k, up w 0 (10 + r) (wr (w 0 (10 + r) + 1)) 44 k = w 44 k := fun k => up_id _ _ (by decide)
  have hg : ∀ k, k < 4 → ua g (4 + r) (wr (g (4 + r) + 1)) k = g k := fun k hk => if_neg (by omega)
  have hx : w 0 (10 + r) = g (4 + r) := by
    have : r = 0 ∨ r = 1 ∨ r = 2 := by omega
    rcases this with rfl | rfl | rfl
    · exact hX.2.2.2.2.2.2.2.2.1
    · exact hX.2.2.2.2.2.2.2.2.2.1
    · exact hX.2.2.2.2.2.2.2.2.2.2
  have hm : w 44 r = g (4 + r) := by
    have : r = 0 ∨ r = 1 ∨ r = 2 := by omega
    rcases this with rfl | rfl | rfl
    · exact hM.2.2.2.2.2.2.2.1
    · exact hM.2.2.2.2.2.2.2.2.1
    · exact hM.2.2.2.2.2.2.2.2.2
  have key : ∀ (k : Nat) (x : Int), k < 3 → x = g (4 + k) → (if k = r then wr (g (4 + r) + 1) else x) = ua g (4 + r) (wr (g (4 + r) + 1)) (4 + k) := by
    intro k x hk hx
    unfold ua
    by_cases e : k = r
    · rw [if_pos e, if_pos (by omega)]
    · rw [if_neg e, if_neg (by omega)]; exact hx
  have fX : ∀ k, k < 3 → cI (cI w 0 (10 + r)) 44 r 0 (10 + k) = if k = r then wr (g (4 + r) + 1) else w 0 (10 + k) := by
    intro k hk
    unfold cI
    rw [up_id _ _ (by decide)]
    by_cases e : k = r
    · subst e; rw [if_pos rfl, up_same, hx]
    · rw [if_neg e, up_pl _ _ (by omega)]
  have fM : ∀ k, k < 3 → cI (cI w 0 (10 + r)) 44 r 44 k = if k = r then wr (g (4 + r) + 1) else w 44 k := by
    intro k hk
    unfold cI
    by_cases e : k = r
    · subst e; rw [if_pos rfl, up_same, e44, hm]
    · rw [if_neg e, up_pl _ _ e, e44]
  have fO : ∀ i k : Nat, ¬ (i = 0 ∧ 10 ≤ k) → i ≠ 44 → cI (cI w 0 (10 + r)) 44 r i k = w i k := fun i k p q => by unfold cI; rw [up_ne _ _ (by omega), up_ne _ _ (by omega)]
  obtain ⟨x1, x2, x3, x4, x5, x6, x7, x8, x9, x10, x11⟩ := hX
  obtain ⟨m1, m2, m3, m4, m5, m6, m7, m8, m9, m10⟩ := hM
  refine INV.mk (w1 := cI (cI w 0 (10 + r)) 44 r) (b := w 40) (a0 := a0) (a1 := a1) (t := t) (len := len) (g := ua g (4 + r) (wr (g (4 + r) + 1))) ⟨x1.fr (fun i k p q => fO i k (by omega) (by omega)), fun z => (x2 (by rw [← hg 0 (by decide)]; exact z)).fr (fun i k p q => fO i k (by omega) (by omega)), fun z => (x3 (by rw [← hg 1 (by decide)]; exact z)).fr (fun i k p q => fO i k (by omega) (by omega)), x4.fr (fun k => fO 34 k (by omega) (by decide)) (fO 33 1 (by decide) (by decide)), ?_, ?_, ?_, ?_, ?_, ?_, ?_⟩ (fun _ _ _ => rfl) ⟨fun z q hq => ?_, fun z q hq => ?_, m3.fr (fun k => fO 45 k (by omega) (by decide)) (fO 39 7 (by decide) (by decide)), ?_, ?_, ?_, ?_, ?_, ?_, ?_⟩ (fun q _ => fO 40 q (by omega) (by decide)) hA (fun z => h0 (by rw [← hg 0 (by decide)]; exact z)) (fun z => h1 (by rw [← hg 1 (by decide)]; exact z))
  · rw [fO 0 4 (by decide) (by decide), hg 0 (by decide)]; exact x5
  · rw [fO 0 5 (by decide) (by decide), hg 1 (by decide)]; exact x6
  · rw [fO 0 8 (by decide) (by decide), hg 2 (by decide)]; exact x7
  · rw [fO 0 9 (by decide) (by decide), hg 3 (by decide)]; exact x8
  · exact (fX 0 (by decide)).trans (key 0 _ (by decide) x9)
  · exact (fX 1 (by decide)).trans (key 1 _ (by decide) x10)
  · exact (fX 2 (by decide)).trans (key 2 _ (by decide) x11)
  · rw [fO 42 q (by omega) (by decide)]; exact m1 (by rw [← hg 0 (by decide)]; exact z) q hq
  · rw [fO 42 _ (by omega) (by decide)]; exact m2 (by rw [← hg 1 (by decide)]; exact z) q hq
  · rw [fO 43 0 (by decide) (by decide), hg 0 (by decide)]; exact m4
  · rw [fO 43 1 (by decide) (by decide), hg 1 (by decide)]; exact m5
  · rw [fO 39 5 (by decide) (by decide), hg 2 (by decide)]; exact m6
  · rw [fO 39 6 (by decide) (by decide), hg 3 (by decide)]; exact m7
  · exact (fM 0 (by decide)).trans (key 0 _ (by decide) m8)
  · exact (fM 1 (by decide)).trans (key 1 _ (by decide) m9)
  · exact (fM 2 (by decide)).trans (key 2 _ (by decide) m10)
theorem inv_b {w : Wd} (h : INV w) : INV (cI (cI w 0 10) 44 0) := inv_r h 0 (by decide)
theorem inv_n {w : Wd} (h : INV w) : INV (cI (cI w 0 11) 44 1) := inv_r h 1 (by decide)
theorem inv_f {w : Wd} (h : INV w) : INV (cI (cI w 0 12) 44 2) := inv_r h 2 (by decide)
/-- a change of the verse -/
theorem inv_v {w w1 w2 : Wd} {b : Nat → Int} (h : INV w) (hB : AOK b) (v1 : VX w1 1 b) (o1 : smB w w1 1) (u2 : ∀ q, q < 127 → w2 40 q = b q) (o2 : smN w1 w2) : INV w2 := by
  obtain ⟨a0, a1, t, len, g, hX, hM, hA, h0, h1⟩ := h
  obtain ⟨x1, x2, x3, x4, x5, x6, x7, x8, x9, x10, x11⟩ := hX
  refine INV.mk (w1 := w1) (b := b) (a0 := a0) (a1 := a1) (t := t) (len := len) (g := g) ⟨v1, fun z => (x2 z).fr (fun i k p q => o1 i k (by omega)), fun z => (x3 z).fr (fun i k p q => o1 i k (by omega)), x4.fr (fun k => o1 34 k (by omega)) (o1 33 1 (by omega)), ?_, ?_, ?_, ?_, ?_, ?_, ?_⟩ (fun i k p => o2 i k (by omega)) (hM.fr (fun i k p q _ _ _ => by rw [o2 i k q]; exact o1 i k (by omega))) u2 hB h0 h1
  · rw [o1 0 4 (by omega)]; exact x5
  · rw [o1 0 5 (by omega)]; exact x6
  · rw [o1 0 8 (by omega)]; exact x7
  · rw [o1 0 9 (by omega)]; exact x8
  · rw [o1 0 10 (by omega)]; exact x9
  · rw [o1 0 11 (by omega)]; exact x10
  · rw [o1 0 12 (by omega)]; exact x11
theorem INV.tx {w : Wd} (h : INV w) : ∃ (t : Nat → Int) (len : Nat), TX w t len ∧ TXm w t len := by
  obtain ⟨a0, a1, t, len, g, hX, hM, hA, h0, h1⟩ := h
  exact ⟨t, len, hX.2.2.2.1, hM.2.2.1⟩
/-- a change of the text -/
theorem inv_t {w w2 : Wd} {t2 : Nat → Int} {len2 : Nat} (h : INV w) (hT : TX w2 t2 len2) (hT2 : TXm w2 t2 len2) (o : ∀ i k : Nat, i ≠ 33 → i ≠ 34 → i ≠ 45 → ¬ (i = 39 ∧ k = 7) → w2 i k = w i k) : INV w2 := by
  obtain ⟨a0, a1, t, len, g, hX, hM, hA, h0, h1⟩ := h
  obtain ⟨x1, x2, x3, x4, x5, x6, x7, x8, x9, x10, x11⟩ := hX
  obtain ⟨m1, m2, m3, m4, m5, m6, m7, m8, m9, m10⟩ := hM
  refine INV.mk (w1 := w2) (b := w 40) (a0 := a0) (a1 := a1) (t := t2) (len := len2) (g := g) ⟨x1.fr (fun i k p q => o i k (by omega) (by omega) (by omega) (by omega)), fun z => (x2 z).fr (fun i k p q => o i k (by omega) (by omega) (by omega) (by omega)), fun z => (x3 z).fr (fun i k p q => o i k (by omega) (by omega) (by omega) (by omega)), hT, ?_, ?_, ?_, ?_, ?_, ?_, ?_⟩ (fun _ _ _ => rfl) ⟨fun z q hq => ?_, fun z q hq => ?_, hT2, ?_, ?_, ?_, ?_, ?_, ?_, ?_⟩ (fun q _ => o 40 q (by decide) (by decide) (by decide) (by omega)) hA h0 h1
  · rw [o 0 4 (by decide) (by decide) (by decide) (by decide)]; exact x5
  · rw [o 0 5 (by decide) (by decide) (by decide) (by decide)]; exact x6
  · rw [o 0 8 (by decide) (by decide) (by decide) (by decide)]; exact x7
  · rw [o 0 9 (by decide) (by decide) (by decide) (by decide)]; exact x8
  · rw [o 0 10 (by decide) (by decide) (by decide) (by decide)]; exact x9
  · rw [o 0 11 (by decide) (by decide) (by decide) (by decide)]; exact x10
  · rw [o 0 12 (by decide) (by decide) (by decide) (by decide)]; exact x11
  · rw [o 42 q (by decide) (by decide) (by decide) (by omega)]; exact m1 z q hq
  · rw [o 42 _ (by decide) (by decide) (by decide) (by omega)]; exact m2 z q hq
  · rw [o 43 0 (by decide) (by decide) (by decide) (by decide)]; exact m4
  · rw [o 43 1 (by decide) (by decide) (by decide) (by decide)]; exact m5
  · rw [o 39 5 (by decide) (by decide) (by decide) (by decide)]; exact m6
  · rw [o 39 6 (by decide) (by decide) (by decide) (by decide)]; exact m7
  · rw [o 44 0 (by decide) (by decide) (by decide) (by decide)]; exact m8
  · rw [o 44 1 (by decide) (by decide) (by decide) (by decide)]; exact m9
  · rw [o 44 2 (by decide) (by decide) (by decide) (by decide)]; exact m10
/-- a reading -/
theorem inv_rd {w w1 w2 : Wd} {b : Nat → Int} (h : INV w) (hB : AOK b) (v1 : VX w1 1 b) (o1 : ∀ i k : Nat, ¬ (1 ≤ i ∧ i ≤ 16) → ¬ (i = 33 ∧ 2 ≤ k) → w1 i k = w i k) (u2 : ∀ q, q < 127 → w2 40 q = b q) (o2 : ∀ i k : Nat, i ≠ 40 → i ≠ 41 → ¬ (i = 39 ∧ 9 ≤ k ∧ k ≤ 14) → w2 i k = w1 i k) : INV w2 := by
  obtain ⟨a0, a1, t, len, g, hX, hM, hA, h0, h1⟩ := h
  obtain ⟨x1, x2, x3, x4, x5, x6, x7, x8, x9, x10, x11⟩ := hX
  refine INV.mk (w1 := w1) (b := b) (a0 := a0) (a1 := a1) (t := t) (len := len) (g := g) ⟨v1, fun z => (x2 z).fr (fun i k p q => o1 i k (by omega) (by omega)), fun z => (x3 z).fr (fun i k p q => o1 i k (by omega) (by omega)), x4.fr (fun k => o1 34 k (by omega) (by omega)) (o1 33 1 (by omega) (by omega)), ?_, ?_, ?_, ?_, ?_, ?_, ?_⟩ (fun i k p => o2 i k (by omega) (by omega) (by omega)) (hM.fr (fun i k p q r _ s => by rw [o2 i k q r (by omega)]; exact o1 i k (by omega) (by omega))) u2 hB h0 h1
  · rw [o1 0 4 (by omega) (by omega)]; exact x5
  · rw [o1 0 5 (by omega) (by omega)]; exact x6
  · rw [o1 0 8 (by omega) (by omega)]; exact x7
  · rw [o1 0 9 (by omega) (by omega)]; exact x8
  · rw [o1 0 10 (by omega) (by omega)]; exact x9
  · rw [o1 0 11 (by omega) (by omega)]; exact x10
  · rw [o1 0 12 (by omega) (by omega)]; exact x11
/-- a fraction told -/
theorem inv_l {w w1 w2 : Wd} {p q : Int} (h : INV w) (o1 : spF w w1) (o2 : frW (up (up w1 0 8 p) 0 9 q) w2) : INV (up (up w2 39 5 p) 39 6 q) := by
  obtain ⟨a0, a1, t, len, g, hX, hM, hA, h0, h1⟩ := h
  obtain ⟨x1, x2, x3, x4, x5, x6, x7, x8, x9, x10, x11⟩ := hX
  obtain ⟨m1, m2, m3, m4, m5, m6, m7, m8, m9, m10⟩ := hM
  have f : ∀ i k : Nat, ¬ (35 ≤ i ∧ i ≤ 38) → i ≠ 46 → i ≠ 47 → ¬ (i = 0 ∧ (k = 8 ∨ k = 9)) → ¬ (i = 39 ∧ (k = 5 ∨ k = 6)) → up (up w2 39 5 p) 39 6 q i k = w i k := fun i k h1 h2 h3 h4 h5 => by
    rw [up_ne _ _ (by omega), up_ne _ _ (by omega), o2 i k h2 h3, up_ne _ _ (by omega), up_ne _ _ (by omega)]
    exact o1 i k (by omega)
  have f8 : up (up w2 39 5 p) 39 6 q 0 8 = p := by rw [up_id _ _ (by decide), up_id _ _ (by decide), o2 0 8 (by decide) (by decide), up_pl _ _ (by decide), up_same]
  have f9 : up (up w2 39 5 p) 39 6 q 0 9 = q := by rw [up_id _ _ (by decide), up_id _ _ (by decide), o2 0 9 (by decide) (by decide), up_same]
  have f5 : up (up w2 39 5 p) 39 6 q 39 5 = p := by rw [up_pl _ _ (by decide), up_same]
  have f6 : up (up w2 39 5 p) 39 6 q 39 6 = q := up_same _ _ _ _
  refine INV.mk (w1 := up (up w2 39 5 p) 39 6 q) (b := w 40) (a0 := a0) (a1 := a1) (t := t) (len := len) (g := ua (ua g 2 p) 3 q) ⟨x1.fr (fun i k p q => f i k (by omega) (by omega) (by omega) (by omega) (by omega)), fun z => (x2 z).fr (fun i k p q => f i k (by omega) (by omega) (by omega) (by omega) (by omega)), fun z => (x3 z).fr (fun i k p q => f i k (by omega) (by omega) (by omega) (by omega) (by omega)), x4.fr (fun k => f 34 k (by omega) (by omega) (by omega) (by omega) (by omega)) (f 33 1 (by omega) (by omega) (by omega) (by omega) (by omega)), ?_, ?_, f8, f9, ?_, ?_, ?_⟩ (fun _ _ _ => rfl) ⟨fun z q hq => ?_, fun z q hq => ?_, m3.fr (fun k => f 45 k (by omega) (by omega) (by omega) (by omega) (by omega)) (f 39 7 (by omega) (by omega) (by omega) (by omega) (by omega)), ?_, ?_, f5, f6, ?_, ?_, ?_⟩ (fun q _ => f 40 q (by omega) (by omega) (by omega) (by omega) (by omega)) hA h0 h1
  · exact (f 0 4 (by omega) (by omega) (by omega) (by omega) (by omega)).trans x5
  · exact (f 0 5 (by omega) (by omega) (by omega) (by omega) (by omega)).trans x6
  · exact (f 0 10 (by omega) (by omega) (by omega) (by omega) (by omega)).trans x9
  · exact (f 0 11 (by omega) (by omega) (by omega) (by omega) (by omega)).trans x10
  · exact (f 0 12 (by omega) (by omega) (by omega) (by omega) (by omega)).trans x11
  · rw [f 42 q (by omega) (by omega) (by omega) (by omega) (by omega)]; exact m1 z q hq
  · rw [f 42 _ (by omega) (by omega) (by omega) (by omega) (by omega)]; exact m2 z q hq
  · exact (f 43 0 (by omega) (by omega) (by omega) (by omega) (by omega)).trans m4
  · exact (f 43 1 (by omega) (by omega) (by omega) (by omega) (by omega)).trans m5
  · exact (f 44 0 (by omega) (by omega) (by omega) (by omega) (by omega)).trans m8
  · exact (f 44 1 (by omega) (by omega) (by omega) (by omega) (by omega)).trans m9
  · exact (f 44 2 (by omega) (by omega) (by omega) (by omega) (by omega)).trans m10
/-- an image kept -/
theorem inv_i0 {w w1 w2 : Wd} (h : INV w) (v1 : VX w1 17 (w 40)) (k1 : w1 0 4 = 1) (o1 : ∀ i k : Nat, (i < 17 ∨ 25 ≤ i) → ¬ (i = 0 ∧ k = 4) → w1 i k = w i k) (u2 : ∀ q, q < 127 → w2 42 q = w 40 q) (k2 : w2 43 0 = 1) (o2 : ∀ a b : Nat, ¬ (a = 42 ∧ b < 127) → ¬ (a = 43 ∧ b = 0) → w2 a b = w1 a b) : INV w2 := by
  obtain ⟨a0, a1, t, len, g, hX, hM, hA, h0, h1⟩ := h
  obtain ⟨x1, x2, x3, x4, x5, x6, x7, x8, x9, x10, x11⟩ := hX
  obtain ⟨m1, m2, m3, m4, m5, m6, m7, m8, m9, m10⟩ := hM
  have f : ∀ i k : Nat, (i < 17 ∨ 25 ≤ i) → ¬ (i = 0 ∧ k = 4) → ¬ (i = 42 ∧ k < 127) → ¬ (i = 43 ∧ k = 0) → w2 i k = w i k := fun i k h1 h2 h3 h4 => by rw [o2 i k h3 h4]; exact o1 i k h1 h2
  refine INV.mk (w1 := w2) (b := w 40) (a0 := w 40) (a1 := a1) (t := t) (len := len) (g := ua g 0 1) ⟨x1.fr (fun i k p q => f i k (by omega) (by omega) (by omega) (by omega)), fun _ => v1.fr (fun i k p q => o2 i k (by omega) (by omega)), fun z => (x3 z).fr (fun i k p q => f i k (by omega) (by omega) (by omega) (by omega)), x4.fr (fun k => f 34 k (by omega) (by omega) (by omega) (by omega)) (f 33 1 (by omega) (by omega) (by omega) (by omega)), ?_, ?_, ?_, ?_, ?_, ?_, ?_⟩ (fun _ _ _ => rfl) ⟨fun _ q hq => u2 q hq, fun z q hq => ?_, m3.fr (fun k => f 45 k (by omega) (by omega) (by omega) (by omega)) (f 39 7 (by omega) (by omega) (by omega) (by omega)), k2, ?_, ?_, ?_, ?_, ?_, ?_⟩ (fun q _ => f 40 q (by omega) (by omega) (by omega) (by omega)) hA (fun _ => hA) h1
  · rw [o2 0 4 (by decide) (by decide)]; exact k1
  · exact (f 0 5 (by omega) (by omega) (by omega) (by omega)).trans x6
  · exact (f 0 8 (by omega) (by omega) (by omega) (by omega)).trans x7
  · exact (f 0 9 (by omega) (by omega) (by omega) (by omega)).trans x8
  · exact (f 0 10 (by omega) (by omega) (by omega) (by omega)).trans x9
  · exact (f 0 11 (by omega) (by omega) (by omega) (by omega)).trans x10
  · exact (f 0 12 (by omega) (by omega) (by omega) (by omega)).trans x11
  · rw [f 42 _ (by omega) (by omega) (by omega) (by omega)]; exact m2 z q hq
  · exact (f 43 1 (by omega) (by omega) (by omega) (by omega)).trans m5
  · exact (f 39 5 (by omega) (by omega) (by omega) (by omega)).trans m6
  · exact (f 39 6 (by omega) (by omega) (by omega) (by omega)).trans m7
  · exact (f 44 0 (by omega) (by omega) (by omega) (by omega)).trans m8
  · exact (f 44 1 (by omega) (by omega) (by omega) (by omega)).trans m9
  · exact (f 44 2 (by omega) (by omega) (by omega) (by omega)).trans m10
theorem inv_i1 {w w1 w2 : Wd} (h : INV w) (v1 : VX w1 25 (w 40)) (k1 : w1 0 5 = 1) (o1 : ∀ i k : Nat, (i < 25 ∨ 33 ≤ i) → ¬ (i = 0 ∧ k = 5) → w1 i k = w i k) (u2 : ∀ q, q < 127 → w2 42 (127 + q) = w 40 q) (k2 : w2 43 1 = 1) (o2 : ∀ a b : Nat, ¬ (a = 42 ∧ 127 ≤ b ∧ b < 254) → ¬ (a = 43 ∧ b = 1) → w2 a b = w1 a b) : INV w2 := by
  obtain ⟨a0, a1, t, len, g, hX, hM, hA, h0, h1⟩ := h
  obtain ⟨x1, x2, x3, x4, x5, x6, x7, x8, x9, x10, x11⟩ := hX
  obtain ⟨m1, m2, m3, m4, m5, m6, m7, m8, m9, m10⟩ := hM
  have f : ∀ i k : Nat, (i < 25 ∨ 33 ≤ i) → ¬ (i = 0 ∧ k = 5) → ¬ (i = 42 ∧ 127 ≤ k ∧ k < 254) → ¬ (i = 43 ∧ k = 1) → w2 i k = w i k := fun i k h1 h2 h3 h4 => by rw [o2 i k h3 h4]; exact o1 i k h1 h2
  refine INV.mk (w1 := w2) (b := w 40) (a0 := a0) (a1 := w 40) (t := t) (len := len) (g := ua g 1 1) ⟨x1.fr (fun i k p q => f i k (by omega) (by omega) (by omega) (by omega)), fun z => (x2 z).fr (fun i k p q => f i k (by omega) (by omega) (by omega) (by omega)), fun _ => v1.fr (fun i k p q => o2 i k (by omega) (by omega)), x4.fr (fun k => f 34 k (by omega) (by omega) (by omega) (by omega)) (f 33 1 (by omega) (by omega) (by omega) (by omega)), ?_, ?_, ?_, ?_, ?_, ?_, ?_⟩ (fun _ _ _ => rfl) ⟨fun z q hq => ?_, fun _ q hq => u2 q hq, m3.fr (fun k => f 45 k (by omega) (by omega) (by omega) (by omega)) (f 39 7 (by omega) (by omega) (by omega) (by omega)), ?_, k2, ?_, ?_, ?_, ?_, ?_⟩ (fun q _ => f 40 q (by omega) (by omega) (by omega) (by omega)) hA h0 (fun _ => hA)
  · exact (f 0 4 (by omega) (by omega) (by omega) (by omega)).trans x5
  · rw [o2 0 5 (by decide) (by decide)]; exact k1
  · exact (f 0 8 (by omega) (by omega) (by omega) (by omega)).trans x7
  · exact (f 0 9 (by omega) (by omega) (by omega) (by omega)).trans x8
  · exact (f 0 10 (by omega) (by omega) (by omega) (by omega)).trans x9
  · exact (f 0 11 (by omega) (by omega) (by omega) (by omega)).trans x10
  · exact (f 0 12 (by omega) (by omega) (by omega) (by omega)).trans x11
  · rw [f 42 _ (by omega) (by omega) (by omega) (by omega)]; exact m1 z q hq
  · exact (f 43 0 (by omega) (by omega) (by omega) (by omega)).trans m4
  · exact (f 39 5 (by omega) (by omega) (by omega) (by omega)).trans m6
  · exact (f 39 6 (by omega) (by omega) (by omega) (by omega)).trans m7
  · exact (f 44 0 (by omega) (by omega) (by omega) (by omega)).trans m8
  · exact (f 44 1 (by omega) (by omega) (by omega) (by omega)).trans m9
  · exact (f 44 2 (by omega) (by omega) (by omega) (by omega)).trans m10

theorem e_verse {d : Nat} {w : Wd} {Q : Option MV → Wd → Prop} {a : Nat → Int} (e : w 40 = a) (hA : AOK a) {f m t : Int} (hb0 : ¬ ((0 ≤ f ∧ f ≤ 5) ∧ (1 ≤ m ∧ m ≤ 6) ∧ 0 ≤ t ∧ t < 10 ^ m.toNat) → Q (some (.inl (-2))) (cI w 44 0)) (hk : (0 ≤ f ∧ f ≤ 5) ∧ (1 ≤ m ∧ m ≤ 6) ∧ 0 ≤ t ∧ t < 10 ^ m.toNat → ∀ w2, (∀ k, k < 127 → w2 40 k = sBegin f m t k) → smN w w2 → Q (some (.inl (a 3))) w2) : Call (d + 10) mX4_verse [vR 39, vI f, vI m, vI t] w Q := by
  subst e
  exact d_verse (d := d + 8) hA hb0 hk

theorem e_form {d : Nat} {w : Wd} {Q : Option MV → Wd → Prop} {a : Nat → Int} (e : w 40 = a) (hA : AOK a) {f : Int} (hb0 : ¬ (0 ≤ f ∧ f ≤ 5) → Q (some (.inl (-2))) (cI w 44 0)) (hk : (0 ≤ f ∧ f ≤ 5) → ∀ w2, (∀ k, w2 40 k = ua (ua a 0 f) 78 0 k) → smN w w2 → Q (some (.inl (a 0))) w2) : Call (d + 10) mX4_form [vR 39, vI f] w Q := by
  subst e
  exact d_form (d := d + 8) hA hb0 hk

theorem e_word {d : Nat} {w : Wd} {Q : Option MV → Wd → Prop} {a : Nat → Int} (e : w 40 = a) (hA : AOK a) {f n c : Int} (hb0 : ¬ ((0 ≤ f ∧ f ≤ 5) ∧ (3 ≤ n ∧ n ≤ 6) ∧ 0 ≤ c ∧ c < 10 ^ n.toNat) → Q (some (.inl (-2))) (cI w 44 0)) (hn0 : (0 ≤ f ∧ f ≤ 5) ∧ (3 ≤ n ∧ n ≤ 6) ∧ 0 ≤ c ∧ c < 10 ^ n.toNat → knB a n c → Q (some (.inl (-3))) (cI w 44 1)) (hf0 : (0 ≤ f ∧ f ≤ 5) ∧ (3 ≤ n ∧ n ≤ 6) ∧ 0 ≤ c ∧ c < 10 ^ n.toNat → ¬ knB a n c → a 3 = 8 → Q (some (.inl (-4))) (cI w 44 2)) (hk : (0 ≤ f ∧ f ≤ 5) ∧ (3 ≤ n ∧ n ≤ 6) ∧ 0 ≤ c ∧ c < 10 ^ n.toNat → ¬ knB a n c → a 3 < 8 → ∀ w2, (∀ k, w2 40 k = ua (sAddW a f n c) 78 0 k) → smN w w2 → Q (some (.inl (a 3))) w2) : Call (d + 10) mX4_word [vR 39, vI f, vI n, vI c] w Q := by
  subst e
  exact d_word (d := d + 8) hA hb0 hn0 hf0 hk

theorem e_puts {d : Nat} {w : Wd} {Q : Option MV → Wd → Prop} {a : Nat → Int} (e : w 40 = a) (hA : AOK a) {j n : Int} (hb0 : ¬ ((0 ≤ j ∧ j < a 1) ∧ 0 ≤ n ∧ n < a 3) → Q (some (.inl (-2))) (cI w 44 0)) (hn0 : ((0 ≤ j ∧ j < a 1) ∧ 0 ≤ n ∧ n < a 3) → ¬ (a (28 + j.toNat) = -1 ∧ lnOf a n = -1) → Q (some (.inl (-3))) (cI w 44 1)) (hk1 : (0 ≤ j ∧ j < a 1) ∧ 0 ≤ n ∧ n < a 3 → a (28 + j.toNat) = -1 ∧ lnOf a n = -1 → fitB a (a 0) n j → ∀ w2, (∀ k, w2 40 k = ua (sKeep a) (28 + j.toNat) n k) → smN w w2 → Q (some (.inl 1)) w2) (hk0 : (0 ≤ j ∧ j < a 1) ∧ 0 ≤ n ∧ n < a 3 → a (28 + j.toNat) = -1 ∧ lnOf a n = -1 → ¬ fitB a (a 0) n j → ∀ w2, (∀ k, w2 40 k = ua (sKeep a) (28 + j.toNat) n k) → smN w w2 → Q (some (.inl 0)) w2) : Call (d + 10) mX4_puts [vR 39, vI j, vI n] w Q := by
  subst e
  exact d_puts (d := d + 6) hA hb0 hn0 hk1 hk0

theorem e_takes {d : Nat} {w : Wd} {Q : Option MV → Wd → Prop} {a : Nat → Int} (e : w 40 = a) (hA : AOK a) {j : Int} (hb0 : ¬ (0 ≤ j ∧ j < a 1) → Q (some (.inl (-2))) (cI w 44 0)) (hn0 : (0 ≤ j ∧ j < a 1) → a (28 + j.toNat) = -1 → Q (some (.inl (-3))) (cI w 44 1)) (hk : (0 ≤ j ∧ j < a 1) → a (28 + j.toNat) ≠ -1 → ∀ w2, (∀ k, w2 40 k = ua (sKeep a) (28 + j.toNat) (-1) k) → smN w w2 → Q (some (.inl (a (28 + j.toNat)))) w2) : Call (d + 10) mX4_takes [vR 39, vI j] w Q := by
  subst e
  exact d_takes (d := d + 8) hA hb0 hn0 hk

theorem e_swaps {d : Nat} {w : Wd} {Q : Option MV → Wd → Prop} {a : Nat → Int} (e : w 40 = a) (hA : AOK a) {j k : Int} (hb0 : ¬ ((0 ≤ j ∧ j < a 1) ∧ (0 ≤ k ∧ k < a 1) ∧ j ≠ k) → Q (some (.inl (-2))) (cI w 44 0)) (hn0 : ((0 ≤ j ∧ j < a 1) ∧ (0 ≤ k ∧ k < a 1) ∧ j ≠ k) → (a (28 + j.toNat) = -1 ∧ a (28 + k.toNat) = -1) → Q (some (.inl (-3))) (cI w 44 1)) (hk : (0 ≤ j ∧ j < a 1) ∧ (0 ≤ k ∧ k < a 1) ∧ j ≠ k → ¬ (a (28 + j.toNat) = -1 ∧ a (28 + k.toNat) = -1) → ∀ w2, (∀ q, w2 40 q = (ua (ua (sKeep a) (28 + j.toNat) (a (28 + k.toNat))) (28 + k.toNat) (a (28 + j.toNat))) q) → smN w w2 → Q (some (.inl (rtL (ua (ua (sKeep a) (28 + j.toNat) (a (28 + k.toNat))) (28 + k.toNat) (a (28 + j.toNat)))))) w2) : Call (d + 10) mX4_swaps [vR 39, vI j, vI k] w Q := by
  subst e
  exact d_swaps (d := d + 4) hA hb0 hn0 hk

theorem e_undo {d : Nat} {w : Wd} {Q : Option MV → Wd → Prop} {a : Nat → Int} (e : w 40 = a) (hA : AOK a) (hn0 : a 78 = 0 → Q (some (.inl (-3))) (cI w 44 1)) (hk : 0 < a 78 → ∀ w2, (∀ q, w2 40 q = sUndo a q) → smN w w2 → Q (some (.inl (rtL (sUndo a)))) w2) : Call (d + 10) mX4_undo [vR 39] w Q := by
  subst e
  exact d_undo (d := d + 4) hA hn0 hk

theorem e_of {d : Nat} {w : Wd} {Q : Option MV → Wd → Prop} {a : Nat → Int} (e : w 40 = a) (hA : AOK a) {n x : Int} (hb0 : ¬ ((0 ≤ n ∧ n < a 3) ∧ 0 ≤ x ∧ x ≤ 3) → Q (some (.inl (-2))) (cI w 44 0)) (hk : (0 ≤ n ∧ n < a 3) ∧ 0 ≤ x ∧ x ≤ 3 → Q (some (.inl (ofV a n x))) w) : Call (d + 10) mX4_of [vR 39, vI n, vI x] w Q := by
  subst e
  exact d_of (d := d + 8) hA hb0 hk

theorem e_about {d : Nat} {w : Wd} {Q : Option MV → Wd → Prop} {a : Nat → Int} (e : w 40 = a) (hA : AOK a) {j x : Int} (hb0 : ¬ ((0 ≤ j ∧ j < a 1) ∧ 0 ≤ x ∧ x ≤ 4) → Q (some (.inl (-2))) (cI w 44 0)) (hk : (0 ≤ j ∧ j < a 1) ∧ 0 ≤ x ∧ x ≤ 4 → Q (some (.inl (abV a j x))) w) : Call (d + 10) mX4_about [vR 39, vI j, vI x] w Q := by
  subst e
  exact d_about (d := d + 5) hA hb0 hk

theorem e_fits {d : Nat} {w : Wd} {Q : Option MV → Wd → Prop} {a : Nat → Int} (e : w 40 = a) (hA : AOK a) {n j : Int} (hb0 : ¬ ((0 ≤ n ∧ n < a 3) ∧ 0 ≤ j ∧ j < a 1) → Q (some (.inl (-2))) (cI w 44 0)) (hk1 : (0 ≤ n ∧ n < a 3) ∧ 0 ≤ j ∧ j < a 1 → fitB a (a 0) n j → Q (some (.inl 1)) w) (hk0 : (0 ≤ n ∧ n < a 3) ∧ 0 ≤ j ∧ j < a 1 → ¬ fitB a (a 0) n j → Q (some (.inl 0)) w) : Call (d + 10) mX4_fits [vR 39, vI n, vI j] w Q := by
  subst e
  exact d_fits (d := d + 6) hA hb0 hk1 hk0

theorem e_ways {d : Nat} {w : Wd} {Q : Option MV → Wd → Prop} {a : Nat → Int} (e : w 40 = a) (hA : AOK a) (hQ : ∀ w2, frW w w2 → Q (some (.inl (wyA a (fitF a (a 0))))) w2) : Call (d + 10) mX4_ways [vR 39] w Q := by
  subst e
  exact d_ways (d := d + 4) hA hQ

theorem e_first {d : Nat} {w : Wd} {Q : Option MV → Wd → Prop} {a : Nat → Int} (e : w 40 = a) (hA : AOK a) {j : Int} (hb0 : ¬ (0 ≤ j ∧ j < a 1) → Q (some (.inl (-2))) (cI w 44 0)) (hk0 : 0 ≤ j ∧ j < a 1 → wyA a (fitF a (a 0)) = 0 → ∀ w2, frW w w2 → Q (some (.inl (-1))) w2) (hk1 : 0 ≤ j ∧ j < a 1 → 0 < wyA a (fitF a (a 0)) → ∀ w2, frW w w2 → Q (some (.inl (nxL (fitF a (a 0)) (coF a 0) (a 3).toNat (a 1).toNat (uSL (fitF a (a 0)) (coF a 0) (a 3).toNat (a 1).toNat j.toNat)))) w2) : Call (d + 10) mX4_first [vR 39, vI j] w Q := by
  subst e
  exact d_first (d := d + 4) hA hb0 hk0 hk1

theorem e_cheap {d : Nat} {w : Wd} {Q : Option MV → Wd → Prop} {a : Nat → Int} (e : w 40 = a) (hA : AOK a) {j : Int} (hb0 : j ≠ -1 ∧ ¬ (0 ≤ j ∧ j < a 1) → Q (some (.inl (-10))) (cI w 44 0)) (hk0 : ¬ (j ≠ -1 ∧ ¬ (0 ≤ j ∧ j < a 1)) → wyA a (fitF a (a 0)) = 0 → ∀ w2, frW w w2 → Q (some (.inl (-6))) w2) (hk1 : j = -1 → 0 < wyA a (fitF a (a 0)) → ∀ w2, frW w w2 → Q (some (.inl (cmN (fitF a (a 0)) (coF a 1) (a 3).toNat (a 1).toNat (a 1).toNat 0))) w2) (hk2 : 0 ≤ j ∧ j < a 1 → 0 < wyA a (fitF a (a 0)) → ∀ w2, frW w w2 → Q (some (.inl (nxL (fitF a (a 0)) (coF a 1) (a 3).toNat (a 1).toNat (uSL (fitF a (a 0)) (coF a 1) (a 3).toNat (a 1).toNat j.toNat)))) w2) : Call (d + 10) mX4_cheap [vR 39, vI j] w Q := by
  subst e
  exact d_cheap (d := d + 4) hA hb0 hk0 hk1 hk2

theorem e_more {d : Nat} {w : Wd} {Q : Option MV → Wd → Prop} {a : Nat → Int} (e : w 40 = a) (hA : AOK a) (hQ : ∀ w2, frW w w2 → Q (some (.inl (wyA a (stX (fitF a (a 0)) (fun j => a (28 + j)))))) w2) : Call (d + 10) mX4_more [vR 39] w Q := by
  subst e
  exact d_more (d := d + 4) hA hQ

theorem e_needs {d : Nat} {w : Wd} {Q : Option MV → Wd → Prop} {a : Nat → Int} (e : w 40 = a) (hA : AOK a) {x : Int} (hb0 : ¬ (0 ≤ x ∧ x ≤ 1) → Q (some (.inl (-2))) (cI w 44 0)) (hk : 0 ≤ x ∧ x ≤ 1 → ∀ w2, frW w w2 → Q (some (.inl ((mkM (ndP a x) (a 3).toNat : Nat) : Int))) w2) : Call (d + 10) mX4_needs [vR 39, vI x] w Q := by
  subst e
  exact d_needs (d := d + 3) hA hb0 hk

theorem e_held {d : Nat} {w : Wd} {Q : Option MV → Wd → Prop} {a : Nat → Int} (e : w 40 = a) (hA : AOK a) (hQ : ∀ w2, frW w w2 → Q (some (.inl (hdN (fitF a (a 0)) (a 3).toNat (a 1).toNat (a 1).toNat 0))) w2) : Call (d + 10) mX4_held [vR 39] w Q := by
  subst e
  exact d_held (d := d + 6) hA hQ

theorem e_forms {d : Nat} {w : Wd} {Q : Option MV → Wd → Prop} {a : Nat → Int} (e : w 40 = a) (hA : AOK a) (hQ : ∀ w2, frW w w2 → Q (some (.inl ((mkM (fun f => 0 < wyA a (fitF a (f : Int))) 6 : Nat) : Int))) w2) : Call (d + 10) mX4_forms [vR 39] w Q := by
  subst e
  exact d_forms (d := d + 4) hA hQ

theorem e_rows {d : Nat} {w : Wd} {Q : Option MV → Wd → Prop} {a : Nat → Int} (e : w 40 = a) (hA : AOK a) {n1 x : Int} (hb0 : ¬ ((1 ≤ n1 ∧ n1 ≤ min 3 (a 1)) ∧ 0 ≤ x ∧ x ≤ 1) → Q (some (.inl (-2))) (cI w 44 0)) (hk0 : (1 ≤ n1 ∧ n1 ≤ min 3 (a 1)) ∧ 0 ≤ x ∧ x ≤ 1 → x = 0 → ∀ w2, fr48 w w2 → Q (some (.inl (cnP (fun q => roN (laF a) (a 3).toNat n1.toNat 0 0 0 q) 1000 : Int))) w2) (hk1 : (1 ≤ n1 ∧ n1 ≤ min 3 (a 1)) ∧ 0 ≤ x ∧ x ≤ 1 → x = 1 → ∀ z w2, grB (fun q => roN (laF a) (a 3).toNat n1.toNat 0 0 0 q) z → fr48 w w2 → Q (some (.inl z)) w2) : Call (d + 10) mX4_rows [vR 39, vI n1, vI x] w Q := by
  subst e
  exact d_rows (d := d + 6) hA hb0 hk0 hk1

theorem e_note {d : Nat} {w : Wd} {Q : Option MV → Wd → Prop} {a : Nat → Int} (e : w 40 = a) (hA : AOK a) {n j x : Int} (hb0 : ¬ ((3 ≤ n ∧ n ≤ 6) ∧ (0 ≤ j ∧ j ≤ 5) ∧ 0 ≤ x ∧ x ≤ 5) → Q (some (.inl (-2))) (cI w 44 0)) (hf0 : (3 ≤ n ∧ n ≤ 6) ∧ (0 ≤ j ∧ j ≤ 5) ∧ 0 ≤ x ∧ x ≤ 5 → a 34 = 6 → Q (some (.inl (-4))) (cI w 44 2)) (hk : (3 ≤ n ∧ n ≤ 6) ∧ (0 ≤ j ∧ j ≤ 5) ∧ 0 ≤ x ∧ x ≤ 5 → a 34 < 6 → ∀ w2, (∀ q, w2 40 q = sNote a n j x q) → smN w w2 → Q (some (.inl (a 34 + 1))) w2) : Call (d + 10) mX4_note [vR 39, vI n, vI j, vI x] w Q := by
  subst e
  exact d_note (d := d + 8) hA hb0 hf0 hk

theorem e_mark {d : Nat} {w : Wd} {Q : Option MV → Wd → Prop} {a : Nat → Int} (e : w 40 = a) (hA : AOK a) {wd n j x : Int} (hb0 : ¬ ((0 ≤ wd ∧ wd < a 3) ∧ (3 ≤ n ∧ n ≤ 6) ∧ (0 ≤ j ∧ j ≤ 5) ∧ 0 ≤ x ∧ x ≤ 20) → Q (some (.inl (-2))) (cI w 44 0)) (hf0 : (0 ≤ wd ∧ wd < a 3) ∧ (3 ≤ n ∧ n ≤ 6) ∧ (0 ≤ j ∧ j ≤ 5) ∧ 0 ≤ x ∧ x ≤ 20 → a 53 = 6 → Q (some (.inl (-4))) (cI w 44 2)) (hk : (0 ≤ wd ∧ wd < a 3) ∧ (3 ≤ n ∧ n ≤ 6) ∧ (0 ≤ j ∧ j ≤ 5) ∧ 0 ≤ x ∧ x ≤ 20 → a 53 < 6 → ∀ w2, (∀ q, w2 40 q = sMark a wd n j x q) → smN w w2 → Q (some (.inl (a 53 + 1))) w2) : Call (d + 10) mX4_mark [vR 39, vI wd, vI n, vI j, vI x] w Q := by
  subst e
  exact d_mark (d := d + 8) hA hb0 hf0 hk

theorem e_forget {d : Nat} {w : Wd} {Q : Option MV → Wd → Prop} {a : Nat → Int} (e : w 40 = a) (hA : AOK a) {x : Int} (hb0 : ¬ (0 ≤ x ∧ x ≤ 1) → Q (some (.inl (-2))) (cI w 44 0)) (hk0 : x = 0 → ∀ w2, (∀ q, w2 40 q = ua a 34 0 q) → smN w w2 → Q (some (.inl (a 34))) w2) (hk1 : x = 1 → ∀ w2, (∀ q, w2 40 q = ua a 53 0 q) → smN w w2 → Q (some (.inl (a 53))) w2) : Call (d + 10) mX4_forget [vR 39, vI x] w Q := by
  subst e
  exact d_forget (d := d + 8) hA hb0 hk0 hk1

theorem e_is {d : Nat} {w : Wd} {Q : Option MV → Wd → Prop} {a : Nat → Int} (e : w 40 = a) (hA : AOK a) (hQ : Q (some (.inl ((mkM (nAgr a) 6 : Nat) : Int))) w) : Call (d + 10) mX4_is [vR 39] w Q := by
  subst e
  exact d_is (d := d + 8) hA hQ

theorem e_look {d : Nat} {w : Wd} {Q : Option MV → Wd → Prop} {a : Nat → Int} (e : w 40 = a) (hA : AOK a) (hQ : Q (some (.inl (bqR 0 (mkM (nAgr a) 6)))) w) : Call (d + 10) mX4_look [vR 39] w Q := by
  subst e
  exact d_look (d := d + 7) hA hQ

theorem e_kinds {d : Nat} {w : Wd} {Q : Option MV → Wd → Prop} {a : Nat → Int} (e : w 40 = a) (hA : AOK a) {n : Int} (hb0 : ¬ (0 ≤ n ∧ n < a 3) → Q (some (.inl (-2))) (cI w 44 0)) (hk : 0 ≤ n ∧ n < a 3 → Q (some (.inl ((mkM (mAgr a n) 6 : Nat) : Int))) w) : Call (d + 10) mX4_kinds [vR 39, vI n] w Q := by
  subst e
  exact d_kinds (d := d + 8) hA hb0 hk

theorem e_ask {d : Nat} {w : Wd} {Q : Option MV → Wd → Prop} {a : Nat → Int} (e : w 40 = a) (hA : AOK a) {n : Int} (hb0 : ¬ (0 ≤ n ∧ n < a 3) → Q (some (.inl (-2))) (cI w 44 0)) (hk : 0 ≤ n ∧ n < a 3 → Q (some (.inl (bqR 1 (mkM (mAgr a n) 6)))) w) : Call (d + 10) mX4_ask [vR 39, vI n] w Q := by
  subst e
  exact d_ask (d := d + 7) hA hb0 hk

theorem e_poets {d : Nat} {w : Wd} {Q : Option MV → Wd → Prop} {a : Nat → Int} (e : w 40 = a) (hA : AOK a) {k : Int} (hb0 : k < -1 → Q (some (.inl (-10))) (cI w 44 0)) (hk1 : -1 ≤ k → feL a ≠ -1 → ∀ e : Nat, e < 78 → poP a (feL a) e → (cnP (poP a (feL a)) e : Int) = k → Q (some (.inl (e : Int))) w) (hk0 : -1 ≤ k → feL a ≠ -1 → (∀ e : Nat, e < 78 → poP a (feL a) e → ¬ (cnP (poP a (feL a)) e : Int) = k) → Q (some (.inl (if k = -1 then (cnP (poP a (feL a)) 78 : Int) else -5))) w) (hkn : -1 ≤ k → feL a = -1 → Q (some (.inl (if k = -1 then 0 else -5))) w) : Call (d + 10) mX4_poets [vR 39, vI k] w Q := by
  subst e
  exact d_poets (d := d + 4) hA hb0 hk1 hk0 hkn

theorem e_luck {d : Nat} {w : Wd} {Q : Option MV → Wd → Prop} {a : Nat → Int} (e : w 40 = a) (hA : AOK a) (hk : ∀ w1 w2 : Wd, frW w w1 → (wyA a (fitF a (a 0)) = 0 → w2 = up (up w1 39 5 0) 39 6 1) → (0 < wyA a (fitF a (a 0)) → w2 = up (up w1 39 5 (((wyA a (fitF a (a 0))).toNat / Nat.gcd (wyA a (fitF a (a 0))).toNat (roW (a 3) (a 1).toNat).toNat : Nat) : Int)) 39 6 (((roW (a 3) (a 1).toNat).toNat / Nat.gcd (wyA a (fitF a (a 0))).toNat (roW (a 3) (a 1).toNat).toNat : Nat) : Int)) → Q (some (.inl 1)) w2) : Call (d + 10) mX4_luck [vR 39] w Q := by
  subst e
  exact d_luck (d := d + 4) hA hk

theorem e_evenings {d : Nat} {w : Wd} {Q : Option MV → Wd → Prop} {a : Nat → Int} (e : w 40 = a) (hA : AOK a) {s n : Int} (hb0 : ¬ ((0 ≤ s ∧ s ≤ 999999) ∧ 0 ≤ n ∧ n ≤ 60) → Q (some (.inl (-2))) (cI w 44 0)) (hk : (0 ≤ s ∧ s ≤ 999999) ∧ 0 ≤ n ∧ n ≤ 60 → ∀ w2, (∀ i k : Nat, i ≠ 49 → w2 i k = w i k) → Q (some (.inl (evC a s n.toNat))) w2) : Call (d + 10) mX4_evenings [vR 39, vI s, vI n] w Q := by
  subst e
  exact d_evenings (d := d + 4) hA hb0 hk

theorem e_count {d : Nat} {w : Wd} {Q : Option MV → Wd → Prop} {a : Nat → Int} (e : w 40 = a) (hA : AOK a) {x : Int} (hb0 : ¬ (0 ≤ x ∧ x ≤ 10) → Q (some (.inl (-2))) (cI w 44 0)) (hk : 0 ≤ x ∧ x ≤ 10 → Q (some (.inl (hmV (w 39 7) a x))) w) : Call (d + 10) mX4_count [vR 39, vI x] w Q := by
  subst e
  exact d_count (d := d + 3) hA hb0 hk

theorem e_digest {d : Nat} {w : Wd} {Q : Option MV → Wd → Prop} {a : Nat → Int} (e : w 40 = a) (hA : AOK a) (hQ : Q (some (.inr (.inl (dgV (w 39 7) (w 39 5) (w 39 6) a)))) w) : Call (d + 10) mX4_digest [vR 39] w Q := by
  subst e
  exact d_digest (d := d + 3) hA hQ

theorem p_verse {d : Nat} {w : Wd} {Q : Option MV → Wd → Prop} (h : INV w) (f m t1 : Int) (hQ : ∀ (z : Int) (w1 : Wd), Call (d + 10) mX4_verse [vR 39, vI f, vI m, vI t1] w1 (fun r2 w2 => r2 = some (vI z) ∧ INV w2) → Q (some (vI z)) w1) : Call (d + 10) mX3_verse [vR 0, vI f, vI m, vI t1] w Q := by
  obtain ⟨a0, a1, t, len, g, hX, hM, hA, hA0, hA1⟩ := id h
  have hv := hX.1
  refine c_verse (d := d + 8) hv hA (fun c => hQ _ _ (e_verse (eB w 10) hA (fun _ => ⟨rfl, inv_b h⟩) (fun x => absurd x c))) (fun c w1 v1 o1 => hQ _ _ (e_verse (eS (by decide) o1) hA (fun x => absurd c x) (fun _ w2 u2 o2 => ⟨rfl, inv_v h (ok_begin c.1 c.2.1 c.2.2) v1 o1 u2 o2⟩)))

theorem p_form {d : Nat} {w : Wd} {Q : Option MV → Wd → Prop} (h : INV w) (f : Int) (hQ : ∀ (z : Int) (w1 : Wd), Call (d + 10) mX4_form [vR 39, vI f] w1 (fun r2 w2 => r2 = some (vI z) ∧ INV w2) → Q (some (vI z)) w1) : Call (d + 10) mX3_form [vR 0, vI f] w Q := by
  obtain ⟨a0, a1, t, len, g, hX, hM, hA, hA0, hA1⟩ := id h
  have hv := hX.1
  refine c_form (d := d + 8) hv hA (fun c => hQ _ _ (e_form (eB w 10) hA (fun _ => ⟨rfl, inv_b h⟩) (fun x => absurd x c))) (fun c w1 v1 o1 => hQ _ _ (e_form (eS (by decide) o1) hA (fun x => absurd c x) (fun _ w2 u2 o2 => ⟨rfl, inv_v h (ok_form hA c) v1 o1 (fun q _ => u2 q) o2⟩)))

theorem p_word {d : Nat} {w : Wd} {Q : Option MV → Wd → Prop} (h : INV w) (f n c1 : Int) (hQ : ∀ (z : Int) (w1 : Wd), Call (d + 10) mX4_word [vR 39, vI f, vI n, vI c1] w1 (fun r2 w2 => r2 = some (vI z) ∧ INV w2) → Q (some (vI z)) w1) : Call (d + 10) mX3_word [vR 0, vI f, vI n, vI c1] w Q := by
  obtain ⟨a0, a1, t, len, g, hX, hM, hA, hA0, hA1⟩ := id h
  have hv := hX.1
  refine c_word (d := d + 7) hv hA (fun c => hQ _ _ (e_word (eB w 10) hA (fun _ => ⟨rfl, inv_b h⟩) (fun x => absurd x c) (fun x => absurd x c) (fun x => absurd x c))) (fun c k => hQ _ _ (e_word (eB w 11) hA (fun x => absurd c x) (fun _ _ => ⟨rfl, inv_n h⟩) (fun _ x => absurd k x) (fun _ x => absurd k x))) (fun c k e => hQ _ _ (e_word (eB w 12) hA (fun x => absurd c x) (fun _ x => absurd x k) (fun _ _ _ => ⟨rfl, inv_f h⟩) (fun _ _ x => absurd e (by omega)))) (fun c k l w1 v1 o1 => hQ _ _ (e_word (eS (by decide) o1) hA (fun x => absurd c x) (fun _ x => absurd x k) (fun _ _ x => absurd x (by omega)) (fun _ _ _ w2 u2 o2 => ⟨rfl, inv_v h (ok_un0 (ok_addW hA l c.1 c.2.1 c.2.2)) v1 o1 (fun q _ => u2 q) o2⟩)))

theorem p_type {d : Nat} {w : Wd} {Q : Option MV → Wd → Prop} (h : INV w) (c1 : Int) (hQ : ∀ (z : Int) (w1 : Wd), Call (d + 10) mX4_type [vR 39, vI c1] w1 (fun r2 w2 => r2 = some (vI z) ∧ INV w2) → Q (some (vI z)) w1) : Call (d + 10) mX3_type [vR 0, vI c1] w Q := by
  obtain ⟨a0, a1, t, len, g, hX, hM, hA, hA0, hA1⟩ := id h
  have hv := hX.1
  have hT := hX.2.2.2.1
  have hTm := hM.2.2.1
  have e33 := hT.2.1
  have e39 := hTm.2.1
  have hl := hT.2.2.1
  refine c_type (d := d + 8) ⟨by omega, by omega⟩ (fun c => hQ _ _ (d_type (d := d + 8) (l := len) ((up_id _ _ (by decide)).trans e39) hl (fun _ => ⟨rfl, inv_b h⟩) (fun x => absurd x c) (fun x => absurd x c))) (fun c e => hQ _ _ (d_type (d := d + 8) (l := len) ((up_id _ _ (by decide)).trans e39) hl (fun x => absurd c x) (fun _ _ => ⟨rfl, inv_f h⟩) (fun _ x => absurd x (by omega)))) (fun c e => hQ _ _ (d_type (d := d + 8) (l := len) (by rw [up_id _ _ (by decide), up_id _ _ (by decide)]; exact e39) hl (fun x => absurd c x) (fun _ x => absurd x (by omega)) (fun _ x => ⟨by rw [e33], ?_⟩)))
  rw [e33, show ((len : Nat) : Int).toNat = len from rfl]
  refine inv_t (t2 := ua t len c1) (len2 := len + 1) h ⟨fun k hk => ?_, ?_, by omega, fun k hk => ?_⟩ ⟨fun k hk => ?_, up_same _ _ _ _, by omega, fun k hk => ?_⟩ (fun i k p q r s => by rw [up_ne _ _ (by omega), up_ne _ _ (by omega), up_ne _ _ (by omega), up_ne _ _ (by omega)])
  · rw [up_id _ _ (by decide), up_id _ _ (by decide), up_id _ _ (by decide)]
    unfold ua
    by_cases z : k = len
    · subst z; rw [if_pos rfl, up_same]
    · rw [if_neg z, up_pl _ _ z]; exact hT.1 k (by omega)
  · rw [up_id _ _ (by decide), up_id _ _ (by decide), up_same]; rfl
  · unfold ua
    by_cases z : k = len
    · rw [if_pos z]; exact c
    · rw [if_neg z]; exact hT.2.2.2 k (by omega)
  · rw [up_id _ _ (by decide)]
    unfold ua
    by_cases z : k = len
    · subst z; rw [if_pos rfl, up_same]
    · rw [if_neg z, up_pl _ _ z, up_id _ _ (by decide), up_id _ _ (by decide)]; exact hTm.1 k (by omega)
  · unfold ua
    by_cases z : k = len
    · rw [if_pos z]; exact c
    · rw [if_neg z]; exact hT.2.2.2 k (by omega)

theorem p_clear {d : Nat} {w : Wd} {Q : Option MV → Wd → Prop} (h : INV w) (hQ : ∀ (z : Int) (w1 : Wd), Call (d + 10) mX4_clear [vR 39] w1 (fun r2 w2 => r2 = some (vI z) ∧ INV w2) → Q (some (vI z)) w1) : Call (d + 10) mX3_clear [vR 0] w Q := by
  obtain ⟨a0, a1, t, len, g, hX, hM, hA, hA0, hA1⟩ := id h
  have hv := hX.1
  have hT := hX.2.2.2.1
  have hTm := hM.2.2.1
  have e33 := hT.2.1
  have e39 := hTm.2.1
  refine c_clear (d := d + 10) (hQ _ _ (d_clear (d := d + 10) ⟨by rw [up_id _ _ (by decide), e33, e39], ?_⟩))
  exact inv_t (t2 := t) (len2 := 0) h ⟨fun k hk => absurd hk (Nat.not_lt_zero k), by rw [up_id _ _ (by decide), up_same]; rfl, by decide, fun k hk => absurd hk (Nat.not_lt_zero k)⟩ ⟨fun k hk => absurd hk (Nat.not_lt_zero k), up_same _ _ _ _, by decide, fun k hk => absurd hk (Nat.not_lt_zero k)⟩ (fun i k p q r s => by rw [up_ne _ _ (by omega), up_ne _ _ (by omega)])

theorem p_read {d : Nat} {w : Wd} {Q : Option MV → Wd → Prop} (h : INV w) (hQ : ∀ (z : Int) (w1 : Wd), Call (d + 10) mX4_read [vR 39] w1 (fun r2 w2 => r2 = some (vI z) ∧ INV w2) → Q (some (vI z)) w1) : Call (d + 10) mX3_read [vR 0] w Q := by
  obtain ⟨a0, a1, t, len, g, hX, hM, hA, hA0, hA1⟩ := id h
  have hv := hX.1
  have hT := hX.2.2.2.1
  have hTm := hM.2.2.1
  refine c_read (d := d + 1) (a := w 40) hT (fun z w1 v1 B1 o1 => hQ _ _ (d_read (d := d + 3) (a := w 40) (hTm.fr (fun k => o1 45 k (by omega) (by omega)) (o1 39 7 (by decide) (by decide))) (fun _ w2 u2 _ o2 => ⟨rfl, inv_rd h B1 v1 o1 u2 o2⟩) (fun x => absurd (z.symm.trans x) (by decide)))) (fun z w1 o1 => hQ _ _ (d_read (d := d + 3) (a := w 40) (hTm.fr (fun k => o1 45 k (by omega) (by omega)) (o1 39 7 (by decide) (by decide))) (fun x => absurd (x.symm.trans z) (by decide)) (fun _ w2 o2 => ⟨rfl, inv_sc h (scX.r o1) (scM.n o2)⟩)))

theorem p_puts {d : Nat} {w : Wd} {Q : Option MV → Wd → Prop} (h : INV w) (j n : Int) (hQ : ∀ (z : Int) (w1 : Wd), Call (d + 10) mX4_puts [vR 39, vI j, vI n] w1 (fun r2 w2 => r2 = some (vI z) ∧ INV w2) → Q (some (vI z)) w1) : Call (d + 10) mX3_puts [vR 0, vI j, vI n] w Q := by
  obtain ⟨a0, a1, t, len, g, hX, hM, hA, hA0, hA1⟩ := id h
  have hv := hX.1
  refine c_puts (d := d + 6) hv hA (fun c => hQ _ _ (e_puts (eB w 10) hA (fun _ => ⟨rfl, inv_b h⟩) (fun x => absurd x c) (fun x => absurd x c) (fun x => absurd x c))) (fun c k => hQ _ _ (e_puts (eB w 11) hA (fun x => absurd c x) (fun _ _ => ⟨rfl, inv_n h⟩) (fun _ x => absurd x k) (fun _ x => absurd x k))) (fun c k => ok_puts hA c.1 c.2 k.2) (fun c k z w1 zc v1 o1 => ?_)
  have hB := ok_puts hA c.1 c.2 k.2
  rcases zc with ⟨rfl, f⟩ | ⟨rfl, f⟩
  · exact hQ _ _ (e_puts (eS (by decide) o1) hA (fun x => absurd c x) (fun _ x => absurd k x) (fun _ _ _ w2 u2 o2 => ⟨rfl, inv_v h hB v1 o1 (fun q _ => u2 q) o2⟩) (fun _ _ x => absurd f x))
  · exact hQ _ _ (e_puts (eS (by decide) o1) hA (fun x => absurd c x) (fun _ x => absurd k x) (fun _ _ x => absurd x f) (fun _ _ _ w2 u2 o2 => ⟨rfl, inv_v h hB v1 o1 (fun q _ => u2 q) o2⟩))

theorem p_takes {d : Nat} {w : Wd} {Q : Option MV → Wd → Prop} (h : INV w) (j : Int) (hQ : ∀ (z : Int) (w1 : Wd), Call (d + 10) mX4_takes [vR 39, vI j] w1 (fun r2 w2 => r2 = some (vI z) ∧ INV w2) → Q (some (vI z)) w1) : Call (d + 10) mX3_takes [vR 0, vI j] w Q := by
  obtain ⟨a0, a1, t, len, g, hX, hM, hA, hA0, hA1⟩ := id h
  have hv := hX.1
  refine c_takes (d := d + 7) hv hA (fun c => hQ _ _ (e_takes (eB w 10) hA (fun _ => ⟨rfl, inv_b h⟩) (fun x => absurd x c) (fun x => absurd x c))) (fun c k => hQ _ _ (e_takes (eB w 11) hA (fun x => absurd c x) (fun _ _ => ⟨rfl, inv_n h⟩) (fun _ x => absurd k x))) (fun c k w1 v1 o1 => hQ _ _ (e_takes (eS (by decide) o1) hA (fun x => absurd c x) (fun _ x => absurd x k) (fun _ _ w2 u2 o2 => ⟨rfl, inv_v h (ok_takes hA c) v1 o1 (fun q _ => u2 q) o2⟩)))

theorem p_swaps {d : Nat} {w : Wd} {Q : Option MV → Wd → Prop} (h : INV w) (j k1 : Int) (hQ : ∀ (z : Int) (w1 : Wd), Call (d + 10) mX4_swaps [vR 39, vI j, vI k1] w1 (fun r2 w2 => r2 = some (vI z) ∧ INV w2) → Q (some (vI z)) w1) : Call (d + 10) mX3_swaps [vR 0, vI j, vI k1] w Q := by
  obtain ⟨a0, a1, t, len, g, hX, hM, hA, hA0, hA1⟩ := id h
  have hv := hX.1
  refine c_swaps (d := d + 5) hv hA (fun c => hQ _ _ (e_swaps (eB w 10) hA (fun _ => ⟨rfl, inv_b h⟩) (fun x => absurd x c) (fun x => absurd x c))) (fun c k => hQ _ _ (e_swaps (eB w 11) hA (fun x => absurd c x) (fun _ _ => ⟨rfl, inv_n h⟩) (fun _ x => absurd k x))) (fun c k => ok_swaps hA c.1 c.2.1 c.2.2) (fun c k w1 v1 o1 => hQ _ _ (e_swaps (eS (by decide) o1) hA (fun x => absurd c x) (fun _ x => absurd x k) (fun _ _ w2 u2 o2 => ⟨rfl, inv_v h (ok_swaps hA c.1 c.2.1 c.2.2) v1 o1 (fun q _ => u2 q) o2⟩)))

theorem p_undo {d : Nat} {w : Wd} {Q : Option MV → Wd → Prop} (h : INV w) (hQ : ∀ (z : Int) (w1 : Wd), Call (d + 10) mX4_undo [vR 39] w1 (fun r2 w2 => r2 = some (vI z) ∧ INV w2) → Q (some (vI z)) w1) : Call (d + 10) mX3_undo [vR 0] w Q := by
  obtain ⟨a0, a1, t, len, g, hX, hM, hA, hA0, hA1⟩ := id h
  have hv := hX.1
  refine c_undo (d := d + 5) hv hA (fun k => hQ _ _ (e_undo (eB w 11) hA (fun _ => ⟨rfl, inv_n h⟩) (fun x => absurd k (by omega)))) (fun k => ok_undo hA k) (fun k w1 v1 o1 => hQ _ _ (e_undo (eS (by decide) o1) hA (fun x => absurd x (by omega)) (fun _ w2 u2 o2 => ⟨rfl, inv_v h (ok_undo hA k) v1 o1 (fun q _ => u2 q) o2⟩)))

theorem p_of {d : Nat} {w : Wd} {Q : Option MV → Wd → Prop} (h : INV w) (n x : Int) (hQ : ∀ (z : Int) (w1 : Wd), Call (d + 10) mX4_of [vR 39, vI n, vI x] w1 (fun r2 w2 => r2 = some (vI z) ∧ INV w2) → Q (some (vI z)) w1) : Call (d + 10) mX3_of [vR 0, vI n, vI x] w Q := by
  obtain ⟨a0, a1, t, len, g, hX, hM, hA, hA0, hA1⟩ := id h
  have hv := hX.1
  refine c_of (d := d + 7) hv hA (fun c => hQ _ _ (e_of (eB w 10) hA (fun _ => ⟨rfl, inv_b h⟩) (fun x => absurd x c))) (fun c => hQ _ _ (e_of rfl hA (fun x => absurd c x) (fun _ => ⟨rfl, h⟩)))

theorem p_about {d : Nat} {w : Wd} {Q : Option MV → Wd → Prop} (h : INV w) (j x : Int) (hQ : ∀ (z : Int) (w1 : Wd), Call (d + 10) mX4_about [vR 39, vI j, vI x] w1 (fun r2 w2 => r2 = some (vI z) ∧ INV w2) → Q (some (vI z)) w1) : Call (d + 10) mX3_about [vR 0, vI j, vI x] w Q := by
  obtain ⟨a0, a1, t, len, g, hX, hM, hA, hA0, hA1⟩ := id h
  have hv := hX.1
  refine c_about (d := d + 6) hv hA (fun c => hQ _ _ (e_about (eB w 10) hA (fun _ => ⟨rfl, inv_b h⟩) (fun x => absurd x c))) (fun c => hQ _ _ (e_about rfl hA (fun x => absurd c x) (fun _ => ⟨rfl, h⟩)))

theorem p_kinds {d : Nat} {w : Wd} {Q : Option MV → Wd → Prop} (h : INV w) (n : Int) (hQ : ∀ (z : Int) (w1 : Wd), Call (d + 10) mX4_kinds [vR 39, vI n] w1 (fun r2 w2 => r2 = some (vI z) ∧ INV w2) → Q (some (vI z)) w1) : Call (d + 10) mX3_kinds [vR 0, vI n] w Q := by
  obtain ⟨a0, a1, t, len, g, hX, hM, hA, hA0, hA1⟩ := id h
  have hv := hX.1
  refine c_kinds (d := d + 7) hv hA (fun c => hQ _ _ (e_kinds (eB w 10) hA (fun _ => ⟨rfl, inv_b h⟩) (fun x => absurd x c))) (fun c => hQ _ _ (e_kinds rfl hA (fun x => absurd c x) (fun _ => ⟨rfl, h⟩)))

theorem p_ask {d : Nat} {w : Wd} {Q : Option MV → Wd → Prop} (h : INV w) (n : Int) (hQ : ∀ (z : Int) (w1 : Wd), Call (d + 10) mX4_ask [vR 39, vI n] w1 (fun r2 w2 => r2 = some (vI z) ∧ INV w2) → Q (some (vI z)) w1) : Call (d + 10) mX3_ask [vR 0, vI n] w Q := by
  obtain ⟨a0, a1, t, len, g, hX, hM, hA, hA0, hA1⟩ := id h
  have hv := hX.1
  refine c_ask (d := d + 6) hv hA (fun c => hQ _ _ (e_ask (eB w 10) hA (fun _ => ⟨rfl, inv_b h⟩) (fun x => absurd x c))) (fun c => hQ _ _ (e_ask rfl hA (fun x => absurd c x) (fun _ => ⟨rfl, h⟩)))

theorem p_fits {d : Nat} {w : Wd} {Q : Option MV → Wd → Prop} (h : INV w) (n j : Int) (hQ : ∀ (z : Int) (w1 : Wd), Call (d + 10) mX4_fits [vR 39, vI n, vI j] w1 (fun r2 w2 => r2 = some (vI z) ∧ INV w2) → Q (some (vI z)) w1) : Call (d + 10) mX3_fits [vR 0, vI n, vI j] w Q := by
  obtain ⟨a0, a1, t, len, g, hX, hM, hA, hA0, hA1⟩ := id h
  have hv := hX.1
  refine c_fits (d := d + 7) hv hA (fun c => hQ _ _ (e_fits (eB w 10) hA (fun _ => ⟨rfl, inv_b h⟩) (fun x => absurd x c) (fun x => absurd x c))) (fun c f => hQ _ _ (e_fits rfl hA (fun x => absurd c x) (fun _ _ => ⟨rfl, h⟩) (fun _ x => absurd f x))) (fun c f => hQ _ _ (e_fits rfl hA (fun x => absurd c x) (fun _ x => absurd x f) (fun _ _ => ⟨rfl, h⟩)))

theorem p_ways {d : Nat} {w : Wd} {Q : Option MV → Wd → Prop} (h : INV w) (hQ : ∀ (z : Int) (w1 : Wd), Call (d + 10) mX4_ways [vR 39] w1 (fun r2 w2 => r2 = some (vI z) ∧ INV w2) → Q (some (vI z)) w1) : Call (d + 10) mX3_ways [vR 0] w Q := by
  obtain ⟨a0, a1, t, len, g, hX, hM, hA, hA0, hA1⟩ := id h
  have hv := hX.1
  refine c_ways (d := d + 6) hv hA (fun w1 o1 => hQ _ _ (e_ways (eP o1) hA (fun w2 o2 => ⟨rfl, inv_sc h (scX.sp o1) (scM.w o2)⟩)))

theorem p_more {d : Nat} {w : Wd} {Q : Option MV → Wd → Prop} (h : INV w) (hQ : ∀ (z : Int) (w1 : Wd), Call (d + 10) mX4_more [vR 39] w1 (fun r2 w2 => r2 = some (vI z) ∧ INV w2) → Q (some (vI z)) w1) : Call (d + 10) mX3_more [vR 0] w Q := by
  obtain ⟨a0, a1, t, len, g, hX, hM, hA, hA0, hA1⟩ := id h
  have hv := hX.1
  refine c_more (d := d + 6) hv hA (fun w1 o1 => hQ _ _ (e_more (eP o1) hA (fun w2 o2 => ⟨rfl, inv_sc h (scX.sp o1) (scM.w o2)⟩)))

theorem p_held {d : Nat} {w : Wd} {Q : Option MV → Wd → Prop} (h : INV w) (hQ : ∀ (z : Int) (w1 : Wd), Call (d + 10) mX4_held [vR 39] w1 (fun r2 w2 => r2 = some (vI z) ∧ INV w2) → Q (some (vI z)) w1) : Call (d + 10) mX3_held [vR 0] w Q := by
  obtain ⟨a0, a1, t, len, g, hX, hM, hA, hA0, hA1⟩ := id h
  have hv := hX.1
  refine c_held (d := d + 6) hv hA (fun w1 o1 => hQ _ _ (e_held (eP o1) hA (fun w2 o2 => ⟨rfl, inv_sc h (scX.sp o1) (scM.w o2)⟩)))

theorem p_forms {d : Nat} {w : Wd} {Q : Option MV → Wd → Prop} (h : INV w) (hQ : ∀ (z : Int) (w1 : Wd), Call (d + 10) mX4_forms [vR 39] w1 (fun r2 w2 => r2 = some (vI z) ∧ INV w2) → Q (some (vI z)) w1) : Call (d + 10) mX3_forms [vR 0] w Q := by
  obtain ⟨a0, a1, t, len, g, hX, hM, hA, hA0, hA1⟩ := id h
  have hv := hX.1
  refine c_forms (d := d + 6) hv hA (fun w1 o1 => hQ _ _ (e_forms (eP o1) hA (fun w2 o2 => ⟨rfl, inv_sc h (scX.sp o1) (scM.w o2)⟩)))

theorem p_first {d : Nat} {w : Wd} {Q : Option MV → Wd → Prop} (h : INV w) (j : Int) (hQ : ∀ (z : Int) (w1 : Wd), Call (d + 10) mX4_first [vR 39, vI j] w1 (fun r2 w2 => r2 = some (vI z) ∧ INV w2) → Q (some (vI z)) w1) : Call (d + 10) mX3_first [vR 0, vI j] w Q := by
  obtain ⟨a0, a1, t, len, g, hX, hM, hA, hA0, hA1⟩ := id h
  have hv := hX.1
  refine c_first (d := d + 4) hv hA (fun c => hQ _ _ (e_first (eB w 10) hA (fun _ => ⟨rfl, inv_b h⟩) (fun x => absurd x c) (fun x => absurd x c))) (fun c y w1 o1 => hQ _ _ (e_first (eP o1) hA (fun x => absurd c x) (fun _ _ w2 o2 => ⟨rfl, inv_sc h (scX.sp o1) (scM.w o2)⟩) (fun _ x => absurd y (by omega)))) (fun c y w1 o1 => hQ _ _ (e_first (eP o1) hA (fun x => absurd c x) (fun _ x => absurd x (by omega)) (fun _ _ w2 o2 => ⟨rfl, inv_sc h (scX.sp o1) (scM.w o2)⟩)))

theorem p_cheap {d : Nat} {w : Wd} {Q : Option MV → Wd → Prop} (h : INV w) (j : Int) (hQ : ∀ (z : Int) (w1 : Wd), Call (d + 10) mX4_cheap [vR 39, vI j] w1 (fun r2 w2 => r2 = some (vI z) ∧ INV w2) → Q (some (vI z)) w1) : Call (d + 10) mX3_cheap [vR 0, vI j] w Q := by
  obtain ⟨a0, a1, t, len, g, hX, hM, hA, hA0, hA1⟩ := id h
  have hv := hX.1
  refine c_cheap (d := d + 4) hv hA (fun c => hQ _ _ (e_cheap (eB w 10) hA (fun _ => ⟨rfl, inv_b h⟩) (fun x => absurd c x) (fun x => absurd x c.1) (fun x => absurd x c.2))) (fun c y w1 o1 => hQ _ _ (e_cheap (eP o1) hA (fun x => absurd x c) (fun _ _ w2 o2 => ⟨rfl, inv_sc h (scX.sp o1) (scM.w o2)⟩) (fun _ x => absurd y (by omega)) (fun _ x => absurd y (by omega)))) (fun c y w1 o1 => hQ _ _ (e_cheap (eP o1) hA (fun x => absurd c x.1) (fun _ x => absurd x (by omega)) (fun _ _ w2 o2 => ⟨rfl, inv_sc h (scX.sp o1) (scM.w o2)⟩) (fun x => absurd c (by omega)))) (fun c y w1 o1 => hQ _ _ (e_cheap (eP o1) hA (fun x => absurd c x.2) (fun _ x => absurd x (by omega)) (fun x => absurd x (by omega)) (fun _ _ w2 o2 => ⟨rfl, inv_sc h (scX.sp o1) (scM.w o2)⟩)))

theorem p_needs {d : Nat} {w : Wd} {Q : Option MV → Wd → Prop} (h : INV w) (x : Int) (hQ : ∀ (z : Int) (w1 : Wd), Call (d + 10) mX4_needs [vR 39, vI x] w1 (fun r2 w2 => r2 = some (vI z) ∧ INV w2) → Q (some (vI z)) w1) : Call (d + 10) mX3_needs [vR 0, vI x] w Q := by
  obtain ⟨a0, a1, t, len, g, hX, hM, hA, hA0, hA1⟩ := id h
  have hv := hX.1
  refine c_needs (d := d + 6) hv hA (fun c => hQ _ _ (e_needs (eB w 10) hA (fun _ => ⟨rfl, inv_b h⟩) (fun x => absurd x c))) (fun c w1 o1 => hQ _ _ (e_needs (eP o1) hA (fun x => absurd c x) (fun _ w2 o2 => ⟨rfl, inv_sc h (scX.sp o1) (scM.w o2)⟩)))

theorem gr_eq {T : Nat → Prop} {x y : Int} (h1 : grB T x) (h2 : grB T y) : x = y := by
  have key : ∀ {x y : Int}, grB T x → grB T y → x ≤ y := by
    intro x y h1 h2
    rcases h1.2 with h | ⟨q, q1, q2⟩
    · rcases h2.2 with h' | ⟨q, q1, q2⟩
      · omega
      · omega
    · have := h2.1 q q1
      omega
  have := key h1 h2
  have := key h2 h1
  omega

theorem p_rows {d : Nat} {w : Wd} {Q : Option MV → Wd → Prop} (h : INV w) (n x1 : Int) (hQ : ∀ (z : Int) (w1 : Wd), Call (d + 10) mX4_rows [vR 39, vI n, vI x1] w1 (fun r2 w2 => r2 = some (vI z) ∧ INV w2) → Q (some (vI z)) w1) : Call (d + 10) mX3_rows [vR 0, vI n, vI x1] w Q := by
  obtain ⟨a0, a1, t, len, g, hX, hM, hA, hA0, hA1⟩ := id h
  have hv := hX.1
  refine c_rows (d := d + 6) hv hA (fun c => hQ _ _ (e_rows (eB w 10) hA (fun _ => ⟨rfl, inv_b h⟩) (fun x => absurd x c) (fun x => absurd x c))) (fun c y w1 o1 => hQ _ _ (e_rows (eP o1) hA (fun x => absurd c x) (fun _ _ w2 o2 => ⟨rfl, inv_sc h (scX.sp o1) (scM.q o2)⟩) (fun _ x => absurd x (by omega)))) (fun c y z w1 g1 o1 => hQ _ _ (e_rows (eP o1) hA (fun x => absurd c x) (fun _ x => absurd x (by omega)) (fun _ _ z2 w2 g2 o2 => ⟨by rw [gr_eq g1 g2], inv_sc h (scX.sp o1) (scM.q o2)⟩)))

theorem p_note {d : Nat} {w : Wd} {Q : Option MV → Wd → Prop} (h : INV w) (n j x1 : Int) (hQ : ∀ (z : Int) (w1 : Wd), Call (d + 10) mX4_note [vR 39, vI n, vI j, vI x1] w1 (fun r2 w2 => r2 = some (vI z) ∧ INV w2) → Q (some (vI z)) w1) : Call (d + 10) mX3_note [vR 0, vI n, vI j, vI x1] w Q := by
  obtain ⟨a0, a1, t, len, g, hX, hM, hA, hA0, hA1⟩ := id h
  have hv := hX.1
  refine c_note (d := d + 8) hv hA (fun c => hQ _ _ (e_note (eB w 10) hA (fun _ => ⟨rfl, inv_b h⟩) (fun x => absurd x c) (fun x => absurd x c))) (fun c e => hQ _ _ (e_note (eB w 12) hA (fun x => absurd c x) (fun _ _ => ⟨rfl, inv_f h⟩) (fun _ x => absurd e (by omega)))) (fun c e w1 v1 o1 => hQ _ _ (e_note (eS (by decide) o1) hA (fun x => absurd c x) (fun _ x => absurd x (by omega)) (fun _ _ w2 u2 o2 => ⟨rfl, inv_v h (ok_note hA e c.1 c.2.1 c.2.2) v1 o1 (fun q _ => u2 q) o2⟩)))

theorem p_mark {d : Nat} {w : Wd} {Q : Option MV → Wd → Prop} (h : INV w) (wd n j x1 : Int) (hQ : ∀ (z : Int) (w1 : Wd), Call (d + 10) mX4_mark [vR 39, vI wd, vI n, vI j, vI x1] w1 (fun r2 w2 => r2 = some (vI z) ∧ INV w2) → Q (some (vI z)) w1) : Call (d + 10) mX3_mark [vR 0, vI wd, vI n, vI j, vI x1] w Q := by
  obtain ⟨a0, a1, t, len, g, hX, hM, hA, hA0, hA1⟩ := id h
  have hv := hX.1
  refine c_mark (d := d + 8) hv hA (fun c => hQ _ _ (e_mark (eB w 10) hA (fun _ => ⟨rfl, inv_b h⟩) (fun x => absurd x c) (fun x => absurd x c))) (fun c e => hQ _ _ (e_mark (eB w 12) hA (fun x => absurd c x) (fun _ _ => ⟨rfl, inv_f h⟩) (fun _ x => absurd e (by omega)))) (fun c e w1 v1 o1 => hQ _ _ (e_mark (eS (by decide) o1) hA (fun x => absurd c x) (fun _ x => absurd x (by omega)) (fun _ _ w2 u2 o2 => ⟨rfl, inv_v h (ok_mark hA e c.1 c.2.1 c.2.2.1 c.2.2.2) v1 o1 (fun q _ => u2 q) o2⟩)))

theorem p_forget {d : Nat} {w : Wd} {Q : Option MV → Wd → Prop} (h : INV w) (x1 : Int) (hQ : ∀ (z : Int) (w1 : Wd), Call (d + 10) mX4_forget [vR 39, vI x1] w1 (fun r2 w2 => r2 = some (vI z) ∧ INV w2) → Q (some (vI z)) w1) : Call (d + 10) mX3_forget [vR 0, vI x1] w Q := by
  obtain ⟨a0, a1, t, len, g, hX, hM, hA, hA0, hA1⟩ := id h
  have hv := hX.1
  refine c_forget (d := d + 9) hv hA (fun c => hQ _ _ (e_forget (eB w 10) hA (fun _ => ⟨rfl, inv_b h⟩) (fun x => absurd x (by omega)) (fun x => absurd x (by omega)))) (fun c w1 v1 o1 => hQ _ _ (e_forget (eS (by decide) o1) hA (fun x => absurd c (by omega)) (fun _ w2 u2 o2 => ⟨rfl, inv_v h (ok_no0 hA) v1 o1 (fun q _ => u2 q) o2⟩) (fun x => absurd x (by omega)))) (fun c w1 v1 o1 => hQ _ _ (e_forget (eS (by decide) o1) hA (fun x => absurd c (by omega)) (fun x => absurd x (by omega)) (fun _ w2 u2 o2 => ⟨rfl, inv_v h (ok_ma0 hA) v1 o1 (fun q _ => u2 q) o2⟩)))

theorem p_is {d : Nat} {w : Wd} {Q : Option MV → Wd → Prop} (h : INV w) (hQ : ∀ (z : Int) (w1 : Wd), Call (d + 10) mX4_is [vR 39] w1 (fun r2 w2 => r2 = some (vI z) ∧ INV w2) → Q (some (vI z)) w1) : Call (d + 10) mX3_is [vR 0] w Q := by
  obtain ⟨a0, a1, t, len, g, hX, hM, hA, hA0, hA1⟩ := id h
  have hv := hX.1
  refine c_is (d := d + 7) hv hA (hQ _ _ (e_is rfl hA ⟨rfl, h⟩))

theorem p_look {d : Nat} {w : Wd} {Q : Option MV → Wd → Prop} (h : INV w) (hQ : ∀ (z : Int) (w1 : Wd), Call (d + 10) mX4_look [vR 39] w1 (fun r2 w2 => r2 = some (vI z) ∧ INV w2) → Q (some (vI z)) w1) : Call (d + 10) mX3_look [vR 0] w Q := by
  obtain ⟨a0, a1, t, len, g, hX, hM, hA, hA0, hA1⟩ := id h
  have hv := hX.1
  refine c_look (d := d + 6) hv hA (hQ _ _ (e_look rfl hA ⟨rfl, h⟩))

theorem cn_lt {T : Nat → Prop} {e f : Nat} (he : T e) (h : e < f) : cnP T e < cnP T f := by
  have h1 := cnP_t he
  have h2 := cnP_mono T (show e + 1 ≤ f by omega)
  omega
theorem cn_uq {T : Nat → Prop} {e f : Nat} (he : T e) (hf : T f) (h : cnP T e = cnP T f) : e = f := by
  rcases Nat.lt_trichotomy e f with q | q | q
  · have := cn_lt he q; omega
  · exact q
  · have := cn_lt hf q; omega
theorem po_78 {a : Nat → Int} {l : Int} (hA : AOK a) : cnP (poP a l) 80 = cnP (poP a l) 78 := by
  have an := hA.n
  refine cnP_gap 80 (by decide) (fun k h1 h2 z => ?_)
  have := z.1
  omega

theorem p_poets {d : Nat} {w : Wd} {Q : Option MV → Wd → Prop} (h : INV w) (k : Int) (hQ : ∀ (z : Int) (w1 : Wd), Call (d + 10) mX4_poets [vR 39, vI k] w1 (fun r2 w2 => r2 = some (vI z) ∧ INV w2) → Q (some (vI z)) w1) : Call (d + 10) mX3_poets [vR 0, vI k] w Q := by
  obtain ⟨a0, a1, t, len, g, hX, hM, hA, hA0, hA1⟩ := id h
  have hv := hX.1
  refine c_poets (d := d + 5) hv hA (fun c => hQ _ _ (e_poets (eB w 10) hA (fun _ => ⟨rfl, inv_b h⟩) (fun x => absurd x (by omega)) (fun x => absurd x (by omega)) (fun x => absurd x (by omega)))) (fun c l e he hp hk => hQ _ _ (e_poets rfl hA (fun x => absurd x (by omega)) (fun _ _ e2 he2 hp2 hk2 => ⟨by rw [cn_uq hp hp2 (by omega)], h⟩) (fun _ _ x => absurd hk (x e he hp)) (fun _ x => absurd x l))) (fun c l hn => hQ _ _ (e_poets rfl hA (fun x => absurd x (by omega)) (fun _ _ e2 he2 hp2 hk2 => absurd hk2 (hn e2 (by omega) hp2)) (fun _ _ x => ⟨by rw [po_78 hA], h⟩) (fun _ x => absurd x l))) (fun c l => hQ _ _ (e_poets rfl hA (fun x => absurd x (by omega)) (fun _ x => absurd l x) (fun _ x => absurd l x) (fun _ _ => ⟨rfl, h⟩)))

theorem p_luck {d : Nat} {w : Wd} {Q : Option MV → Wd → Prop} (h : INV w) (hQ : ∀ (z : Int) (w1 : Wd), Call (d + 10) mX4_luck [vR 39] w1 (fun r2 w2 => r2 = some (vI z) ∧ INV w2) → Q (some (vI z)) w1) : Call (d + 10) mX3_luck [vR 0] w Q := by
  obtain ⟨a0, a1, t, len, g, hX, hM, hA, hA0, hA1⟩ := id h
  have hv := hX.1
  have hwr := wyA_r hA (fitF (w 40) (w 40 0))
  refine c_luck (d := d + 6) hv hA (fun w0 w1 o1 q0 q1 => hQ _ _ ?_)
  by_cases hz : wyA (w 40) (fitF (w 40) (w 40 0)) = 0
  · have e1 := q0 hz
    subst e1
    exact e_luck (funext (fun q => by rw [up_id _ _ (by decide), up_id _ _ (by decide)]; exact o1 40 q (by omega))) hA (fun w2 w3 o2 r0 r1 => ⟨rfl, by rw [r0 hz]; exact inv_l h o1 o2⟩)
  · have e1 := q1 (by omega)
    subst e1
    exact e_luck (funext (fun q => by rw [up_id _ _ (by decide), up_id _ _ (by decide)]; exact o1 40 q (by omega))) hA (fun w2 w3 o2 r0 r1 => ⟨rfl, by rw [r1 (by omega)]; exact inv_l h o1 o2⟩)

theorem p_evenings {d : Nat} {w : Wd} {Q : Option MV → Wd → Prop} (h : INV w) (s n : Int) (hQ : ∀ (z : Int) (w1 : Wd), Call (d + 10) mX4_evenings [vR 39, vI s, vI n] w1 (fun r2 w2 => r2 = some (vI z) ∧ INV w2) → Q (some (vI z)) w1) : Call (d + 10) mX3_evenings [vR 0, vI s, vI n] w Q := by
  obtain ⟨a0, a1, t, len, g, hX, hM, hA, hA0, hA1⟩ := id h
  have hv := hX.1
  refine c_evenings (d := d + 5) hv hA (fun c => hQ _ _ (e_evenings (eB w 10) hA (fun _ => ⟨rfl, inv_b h⟩) (fun x => absurd x c))) (fun c w1 o1 => hQ _ _ (e_evenings (eS (by decide) o1) hA (fun x => absurd c x) (fun _ w2 o2 => ⟨rfl, inv_sc h (scX.b9 o1) (scM.e o2)⟩)))

theorem p_part {d : Nat} {w : Wd} {Q : Option MV → Wd → Prop} (h : INV w) (x1 : Int) (hQ : ∀ (z : Int) (w1 : Wd), Call (d + 10) mX4_part [vR 39, vI x1] w1 (fun r2 w2 => r2 = some (vL z) ∧ INV w2) → Q (some (vL z)) w1) : Call (d + 10) mX3_part [vR 0, vI x1] w Q := by
  obtain ⟨a0, a1, t, len, g, hX, hM, hA, hA0, hA1⟩ := id h
  have hv := hX.1
  have e2 := hX.2.2.2.2.2.2.1.trans hM.2.2.2.2.2.1.symm
  have e3 := hX.2.2.2.2.2.2.2.1.trans hM.2.2.2.2.2.2.1.symm
  refine c_part (d := d + 9) (fun c => hQ _ _ (d_part (d := d + 8) (fun _ => ⟨rfl, inv_b h⟩) (fun x => absurd x (by omega)) (fun x => absurd x (by omega)))) (fun c => hQ _ _ (d_part (d := d + 8) (fun x => absurd c (by omega)) (fun _ => ⟨by rw [e2], h⟩) (fun x => absurd x (by omega)))) (fun c => hQ _ _ (d_part (d := d + 8) (fun x => absurd c (by omega)) (fun x => absurd x (by omega)) (fun _ => ⟨by rw [e3], h⟩)))

theorem p_image {d : Nat} {w : Wd} {Q : Option MV → Wd → Prop} (h : INV w) (x1 : Int) (hQ : ∀ (z : Int) (w1 : Wd), Call (d + 10) mX4_image [vR 39, vI x1] w1 (fun r2 w2 => r2 = some (vI z) ∧ INV w2) → Q (some (vI z)) w1) : Call (d + 10) mX3_image [vR 0, vI x1] w Q := by
  obtain ⟨a0, a1, t, len, g, hX, hM, hA, hA0, hA1⟩ := id h
  have hv := hX.1
  refine c_image (d := d + 7) hv hA (fun c => hQ _ _ (d_image (d := d + 8) (fun _ => ⟨rfl, inv_b h⟩) (fun i e1 e2 => absurd c (by omega)))) (fun c w1 v1 k1 o1 => hQ _ _ (d_image (d := d + 8) (fun x => absurd c (by omega)) (fun i e1 e2 w2 u2 k2 o2 => ⟨rfl, ?_⟩))) (fun c w1 v1 k1 o1 => hQ _ _ (d_image (d := d + 8) (fun x => absurd c (by omega)) (fun i e1 e2 w2 u2 k2 o2 => ⟨rfl, ?_⟩)))
  · obtain rfl : i = 0 := by omega
    exact inv_i0 h v1 k1 o1 (fun q hq => by have := u2 q hq; rw [show 127 * 0 + q = q by omega, o1 40 q (by omega) (by omega)] at this; exact this) k2 (fun a b p q => o2 a b (by omega) q)
  · obtain rfl : i = 1 := by omega
    exact inv_i1 h v1 k1 o1 (fun q hq => by have := u2 q hq; rw [show 127 * 1 + q = 127 + q by omega, o1 40 q (by omega) (by omega)] at this; exact this) k2 (fun a b p q => o2 a b (by omega) q)

theorem p_from {d : Nat} {w : Wd} {Q : Option MV → Wd → Prop} (h : INV w) (x1 : Int) (hQ : ∀ (z : Int) (w1 : Wd), Call (d + 10) mX4_from [vR 39, vI x1] w1 (fun r2 w2 => r2 = some (vI z) ∧ INV w2) → Q (some (vI z)) w1) : Call (d + 10) mX3_from [vR 0, vI x1] w Q := by
  obtain ⟨a0, a1, t, len, g, hX, hM, hA, hA0, hA1⟩ := id h
  have hv := hX.1
  have e4 : w 0 4 = w 43 0 := hX.2.2.2.2.1.trans hM.2.2.2.1.symm
  have e5 : w 0 5 = w 43 1 := hX.2.2.2.2.2.1.trans hM.2.2.2.2.1.symm
  have g4 : w 0 4 = g 0 := hX.2.2.2.2.1
  have g5 : w 0 5 = g 1 := hX.2.2.2.2.2.1
  have hn : ∀ i : Nat, cI w 0 11 43 i = w 43 i := fun i => up_id _ _ (by decide)
  refine c_from (d := d + 7) (a0 := a0) (a1 := a1) (fun z => ⟨hX.2.1 (by rw [← g4]; exact z), hA0 (by rw [← g4]; exact z)⟩) (fun z => ⟨hX.2.2.1 (by rw [← g5]; exact z), hA1 (by rw [← g5]; exact z)⟩) (fun c => hQ _ _ (d_from (d := d + 8) (fun _ => ⟨rfl, inv_b h⟩) (fun i x1 x2 => absurd c (by omega)) (fun i x1 x2 => absurd c (by omega)))) (fun c k => hQ _ _ (d_from (d := d + 8) (fun x => absurd c (by omega)) (fun _ _ _ _ => ⟨rfl, inv_n h⟩) (fun i x1 x2 x3 => ?_))) (fun c k => hQ _ _ (d_from (d := d + 8) (fun x => absurd c (by omega)) (fun _ _ _ _ => ⟨rfl, inv_n h⟩) (fun i x1 x2 x3 => ?_))) (fun c k w1 v1 o1 => hQ _ _ (d_from (d := d + 8) (fun x => absurd c (by omega)) (fun i x1 x2 x3 => ?_) (fun i x1 x2 x3 w2 u2 o2 => ⟨rfl, ?_⟩))) (fun c k w1 v1 o1 => hQ _ _ (d_from (d := d + 8) (fun x => absurd c (by omega)) (fun i x1 x2 x3 => ?_) (fun i x1 x2 x3 w2 u2 o2 => ⟨rfl, ?_⟩)))
  · obtain rfl : i = 0 := by omega
    exact absurd ((hn 0).trans (e4.symm.trans k)) x3
  · obtain rfl : i = 1 := by omega
    exact absurd ((hn 1).trans (e5.symm.trans k)) x3
  · obtain rfl : i = 0 := by omega
    rw [o1 43 0 (by omega)] at x3
    exact absurd (e4.trans x3) k
  · obtain rfl : i = 0 := by omega
    have hz : g 0 ≠ 0 := by rw [← g4]; exact k
    exact inv_v h (hA0 hz) v1 o1 (fun q hq => by rw [u2 q hq, o1 42 _ (by omega), show 127 * 0 + q = q by omega]; exact hM.1 hz q hq) o2
  · obtain rfl : i = 1 := by omega
    rw [o1 43 1 (by omega)] at x3
    exact absurd (e5.trans x3) k
  · obtain rfl : i = 1 := by omega
    have hz : g 1 ≠ 0 := by rw [← g5]; exact k
    exact inv_v h (hA1 hz) v1 o1 (fun q hq => by rw [u2 q hq, o1 42 _ (by omega), show 127 * 1 + q = 127 + q by omega]; exact hM.2.1 hz q hq) o2

theorem p_status {d : Nat} {w : Wd} {Q : Option MV → Wd → Prop} (h : INV w) (x1 : Int) (hQ : ∀ (z : Int) (w1 : Wd), Call (d + 10) mX4_status [vR 39, vI x1] w1 (fun r2 w2 => r2 = some (vI z) ∧ INV w2) → Q (some (vI z)) w1) : Call (d + 10) mX3_status [vR 0, vI x1] w Q := by
  obtain ⟨a0, a1, t, len, g, hX, hM, hA, hA0, hA1⟩ := id h
  have hv := hX.1
  refine c_status (d := d + 9) (fun c => hQ _ _ (d_status (d := d + 9) (fun _ => ⟨rfl, inv_b h⟩) (fun x => absurd x c))) (fun c => hQ _ _ (d_status (d := d + 9) (fun x => absurd c x) (fun _ => ⟨?_, h⟩)))
  have hx : x1 = 0 ∨ x1 = 1 ∨ x1 = 2 := by omega
  have e0 := hX.2.2.2.2.2.2.2.2.1.trans hM.2.2.2.2.2.2.2.1.symm
  have e1 := hX.2.2.2.2.2.2.2.2.2.1.trans hM.2.2.2.2.2.2.2.2.1.symm
  have e2 := hX.2.2.2.2.2.2.2.2.2.2.trans hM.2.2.2.2.2.2.2.2.2.symm
  rcases hx with rfl | rfl | rfl
  · exact congrArg (fun z => some (vI z)) e0.symm
  · exact congrArg (fun z => some (vI z)) e1.symm
  · exact congrArg (fun z => some (vI z)) e2.symm

theorem p_count {d : Nat} {w : Wd} {Q : Option MV → Wd → Prop} (h : INV w) (x1 : Int) (hQ : ∀ (z : Int) (w1 : Wd), Call (d + 10) mX4_count [vR 39, vI x1] w1 (fun r2 w2 => r2 = some (vI z) ∧ INV w2) → Q (some (vI z)) w1) : Call (d + 10) mX3_count [vR 0, vI x1] w Q := by
  obtain ⟨a0, a1, t, len, g, hX, hM, hA, hA0, hA1⟩ := id h
  have hv := hX.1
  have el := hX.2.2.2.1.2.1.trans hM.2.2.1.2.1.symm
  refine c_count (d := d + 4) hv hA (fun c => hQ _ _ (e_count (eB w 10) hA (fun _ => ⟨rfl, inv_b h⟩) (fun x => absurd x c))) (fun c => hQ _ _ (e_count rfl hA (fun x => absurd c x) (fun _ => ⟨by rw [el], h⟩)))

theorem p_digest {d : Nat} {w : Wd} {Q : Option MV → Wd → Prop} (h : INV w) (hQ : ∀ (z : Int) (w1 : Wd), Call (d + 10) mX4_digest [vR 39] w1 (fun r2 w2 => r2 = some (vL z) ∧ INV w2) → Q (some (vL z)) w1) : Call (d + 10) mX3_digest [vR 0] w Q := by
  obtain ⟨a0, a1, t, len, g, hX, hM, hA, hA0, hA1⟩ := id h
  have hv := hX.1
  have el := hX.2.2.2.1.2.1.trans hM.2.2.1.2.1.symm
  have e2 := hX.2.2.2.2.2.2.1.trans hM.2.2.2.2.2.1.symm
  have e3 := hX.2.2.2.2.2.2.2.1.trans hM.2.2.2.2.2.2.1.symm
  refine c_digest (d := d + 4) hv hA (hQ _ _ (e_digest rfl hA ⟨by rw [el, e2, e3], h⟩))
