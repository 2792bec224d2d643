/-! a reading by the model -/
def RX (w : Wd) (a : Nat → Int) : Prop := ∀ k, k < 127 → w 41 k = a k
def frM (w w2 : Wd) : Prop := ∀ i k : Nat, i ≠ 41 → ¬ (i = 39 ∧ 9 ≤ k ∧ k ≤ 13) → w2 i k = w i k
def frN (w w2 : Wd) : Prop := ∀ i k : Nat, i ≠ 41 → ¬ (i = 39 ∧ 9 ≤ k ∧ k ≤ 14) → w2 i k = w i k
theorem frM.of {w w2 : Wd} (h : fr39 w w2) : frM w w2 := fun i k _ h2 => h i k h2
theorem frM.tr {w w2 w3 : Wd} (h : frM w w2) (h2 : frM w2 w3) : frM w w3 := fun i k p q => by rw [h2 i k p q]; exact h i k p q
theorem frM.up {w w2 : Wd} (h : frM w w2) (j : Nat) (z : Int) : frM w (up w2 41 j z) := fun i k p q => by rw [up_id _ _ p]; exact h i k p q
theorem frM.r {w w2 : Wd} (e : ∀ i k : Nat, i ≠ 41 → w2 i k = w i k) : frM w w2 := fun i k p _ => e i k p
theorem frN.m {w w2 w3 : Wd} (h : frN w w2) (h2 : frM w2 w3) : frN w w3 := fun i k p q => by rw [h2 i k p (by omega)]; exact h i k p q
theorem TXm.fm {w w2 : Wd} {t : Nat → Int} {len : Nat} (h : TXm w t len) (e : frM w w2) : TXm w2 t len := h.fr (fun k => e 45 k (by omega) (by omega)) (e 39 7 (by decide) (by decide))
theorem TXm.fn {w w2 : Wd} {t : Nat → Int} {len : Nat} (h : TXm w t len) (e : frN w w2) : TXm w2 t len := h.fr (fun k => e 45 k (by omega) (by omega)) (e 39 7 (by decide) (by decide))
theorem TKm.c {w w2 : Wd} {t : Nat → Int} {len p : Nat} (h : TKm w t len p) (e : ∀ k, w2 39 k = w 39 k) : TKm w2 t len p := by
  obtain ⟨h1, h2, h3, h4, h5⟩ := h
  exact ⟨by rw [e]; exact h1, by rw [e]; exact h2, by rw [e]; exact h3, fun z => by rw [e]; exact h4 z, fun z => by rw [e]; exact h5 z⟩
theorem TKm.u {w : Wd} {t : Nat → Int} {len p : Nat} (h : TKm w t len p) (j : Nat) (z : Int) : TKm (up w 41 j z) t len p := h.c (fun k => up_id _ _ (by decide))
theorem RX.f {w w2 : Wd} {a : Nat → Int} (h : RX w a) (e : fr39 w w2) : RX w2 a := fun k hk => by rw [e 41 k (by omega)]; exact h k hk
theorem RX.u {w : Wd} {a : Nat → Int} (h : RX w a) (j : Nat) (z : Int) : RX (up w 41 j z) (ua a j z) := fun k hk => by
  unfold ua
  by_cases e : k = j
  · rw [if_pos e, e, up_same]
  · rw [if_neg e, up_pl _ _ e]; exact h k hk
theorem RX.ok {w : Wd} {a : Nat → Int} (h : RX w a) (hA : AOK a) : AOK (w 41) := hA.cg h
theorem RX.g {w : Wd} {a b : Nat → Int} (h : RX w a) (e : ∀ k, k < 127 → a k = b k) : RX w b := fun k hk => by rw [h k hk]; exact e k hk
def bg0 : Nat → Int := sBegin 0 3 0
theorem bg_ok : AOK bg0 := ok_begin (by decide) (by decide) (by decide)
theorem bg_ua (f m c : Int) : ∀ k, k < 127 → ua (ua (ua bg0 0 f) 1 m) 2 c k = sBegin f m c k := by
  intro k _
  unfold ua bg0 sBegin
  by_cases h2 : k = 2
  · subst h2; rfl
  · rw [if_neg h2]
    by_cases h1 : k = 1
    · subst h1; rfl
    · rw [if_neg h1]
      by_cases h0 : k = 0
      · subst h0; rfl
      · rw [if_neg h0, if_neg h0, if_neg h1, if_neg h2, if_neg h0, if_neg h1, if_neg h2]
theorem nmb_f {t : Nat → Int} {len p i : Nat} (h : ¬ nmb t len p i = true) : nmb t len p i = false := by
  cases hb : nmb t len p i with
  | false => rfl
  | true => exact absurd hb h
/-- the word of a token tells its letters -/
def pkS : Nat → Int
  | 0 => 508508140389
  | 1 => 2003792484
  | 2 => 7370100
  | _ => 1952541541
theorem wd_c {t : Nat → Int} {s k : Nat} (h : ∀ q, q < k → 97 ≤ t (s + q) ∧ t (s + q) ≤ 122) : (k = 0 ∧ wdV t s k = 0) ∨ (k = 1 ∧ wdV t s k = t s) ∨ (k = 2 ∧ wdV t s k = 256 * t s + t (s + 1)) ∨ (k = 3 ∧ wdV t s k = 65536 * t s + 256 * t (s + 1) + t (s + 2)) ∨ (k = 4 ∧ wdV t s k = 16777216 * t s + 65536 * t (s + 1) + 256 * t (s + 2) + t (s + 3)) ∨ (k = 5 ∧ wdV t s k = 4294967296 * t s + 16777216 * t (s + 1) + 65536 * t (s + 2) + 256 * t (s + 3) + t (s + 4)) ∨ (k = 6 ∧ wdV t s k = 1099511627776 * t s + 4294967296 * t (s + 1) + 16777216 * t (s + 2) + 65536 * t (s + 3) + 256 * t (s + 4) + t (s + 5)) ∨ (k = 7 ∧ wdV t s k = 281474976710656 * t s + 1099511627776 * t (s + 1) + 4294967296 * t (s + 2) + 16777216 * t (s + 3) + 65536 * t (s + 4) + 256 * t (s + 5) + t (s + 6)) ∨ (8 ≤ k ∧ wdV t s k = -1) := by
  have e0 : wdV t s 0 = 0 := rfl
  have e1 : wdV t s 1 = 256 * wdV t s 0 + t (s + 0) := rfl
  have e2 : wdV t s 2 = 256 * wdV t s 1 + t (s + 1) := rfl
  have e3 : wdV t s 3 = 256 * wdV t s 2 + t (s + 2) := rfl
  have e4 : wdV t s 4 = 256 * wdV t s 3 + t (s + 3) := rfl
  have e5 : wdV t s 5 = 256 * wdV t s 4 + t (s + 4) := rfl
  have e6 : wdV t s 6 = 256 * wdV t s 5 + t (s + 5) := rfl
  have e7 : wdV t s 7 = 256 * wdV t s 6 + t (s + 6) := rfl
  rw [Nat.add_zero] at e1
  by_cases h8 : 8 ≤ k
  · have e8 : wdV t s k = -1 := by
      obtain ⟨j, rfl⟩ : ∃ j, k = j + 1 := ⟨k - 1, by omega⟩
      show (if j < 7 then 256 * wdV t s j + t (s + j) else -1) = -1
      rw [if_neg (by omega)]
    omega
  · have hk : k = 0 ∨ k = 1 ∨ k = 2 ∨ k = 3 ∨ k = 4 ∨ k = 5 ∨ k = 6 ∨ k = 7 := by omega
    rcases hk with rfl | rfl | rfl | rfl | rfl | rfl | rfl | rfl <;> omega
theorem ch_all : lnS4 0 = 5 ∧ lnS4 1 = 4 ∧ lnS4 2 = 3 ∧ lnS4 3 = 4 := by decide
theorem ch_0 : chS 0 0 = 118 ∧ chS 0 1 = 101 ∧ chS 0 2 = 114 ∧ chS 0 3 = 115 ∧ chS 0 4 = 101 := by decide
theorem ch_1 : chS 1 0 = 119 ∧ chS 1 1 = 111 ∧ chS 1 2 = 114 ∧ chS 1 3 = 100 := by decide
theorem ch_2 : chS 2 0 = 112 ∧ chS 2 1 = 117 ∧ chS 2 2 = 116 := by decide
theorem ch_3 : chS 3 0 = 116 ∧ chS 3 1 = 97 ∧ chS 3 2 = 107 ∧ chS 3 3 = 101 := by decide
theorem lt5 {P : Nat → Prop} (h0 : P 0) (h1 : P 1) (h2 : P 2) (h3 : P 3) (h4 : P 4) : ∀ k, k < 5 → P k := by
  intro k hk
  have : k = 0 ∨ k = 1 ∨ k = 2 ∨ k = 3 ∨ k = 4 := by omega
  rcases this with rfl | rfl | rfl | rfl | rfl <;> assumption
theorem lt4 {P : Nat → Prop} (h0 : P 0) (h1 : P 1) (h2 : P 2) (h3 : P 3) : ∀ k, k < 4 → P k := by
  intro k hk
  have : k = 0 ∨ k = 1 ∨ k = 2 ∨ k = 3 := by omega
  rcases this with rfl | rfl | rfl | rfl <;> assumption
theorem lt3 {P : Nat → Prop} (h0 : P 0) (h1 : P 1) (h2 : P 2) : ∀ k, k < 3 → P k := by
  intro k hk
  have : k = 0 ∨ k = 1 ∨ k = 2 := by omega
  rcases this with rfl | rfl | rfl <;> assumption
theorem tk_in {t : Nat → Int} {len p : Nat} (h : tkK t len p = 1) : ∀ q, q < tkE t len p - tkS t len p → 97 ≤ t (tkS t len p + q) ∧ t (tkS t len p + q) ≤ 122 := by
  have hs : tkS t len p ≠ len := fun z => by have := (tk_end z).2.2.1; omega
  have hb : isLt (t (tkS t len p)) = true := by
    cases hb : isLt (t (tkS t len p)) with
    | true => rfl
    | false =>
      cases hc : isFg (t (tkS t len p)) with
      | true => have := (tk_fig hs hb hc).2.2.1; split at this <;> omega
      | false => have := (tk_oth hs hb hc).2.1; split at this <;> omega
  have e2 := (tk_let hs hb).2.1
  intro q hq
  exact of_decide_eq_true (ruE_in (c := isLt) _ (tkS t len p) rfl (tkS t len p + q) (by omega) (by rw [← e2]; omega))
theorem wd_0 {t : Nat → Int} {s k : Nat} (h : ∀ q, q < k → 97 ≤ t (s + q) ∧ t (s + q) ≤ 122) : wdV t s k = 508508140389 ↔ k = 5 ∧ t s = 118 ∧ t (s + 1) = 101 ∧ t (s + 2) = 114 ∧ t (s + 3) = 115 ∧ t (s + 4) = 101 := by
  have h0 := h 0
  have h1 := h 1
  have h2 := h 2
  have h3 := h 3
  have h4 := h 4
  have h5 := h 5
  have h6 := h 6
  rw [Nat.add_zero] at h0
  have := wd_c h
  constructor
  · intro e; omega
  · intro e; omega
theorem wd_1 {t : Nat → Int} {s k : Nat} (h : ∀ q, q < k → 97 ≤ t (s + q) ∧ t (s + q) ≤ 122) : wdV t s k = 2003792484 ↔ k = 4 ∧ t s = 119 ∧ t (s + 1) = 111 ∧ t (s + 2) = 114 ∧ t (s + 3) = 100 := by
  have h0 := h 0
  have h1 := h 1
  have h2 := h 2
  have h3 := h 3
  have h4 := h 4
  have h5 := h 5
  have h6 := h 6
  rw [Nat.add_zero] at h0
  have := wd_c h
  constructor
  · intro e; omega
  · intro e; omega
theorem wd_2 {t : Nat → Int} {s k : Nat} (h : ∀ q, q < k → 97 ≤ t (s + q) ∧ t (s + q) ≤ 122) : wdV t s k = 7370100 ↔ k = 3 ∧ t s = 112 ∧ t (s + 1) = 117 ∧ t (s + 2) = 116 := by
  have h0 := h 0
  have h1 := h 1
  have h2 := h 2
  have h3 := h 3
  have h4 := h 4
  have h5 := h 5
  have h6 := h 6
  rw [Nat.add_zero] at h0
  have := wd_c h
  constructor
  · intro e; omega
  · intro e; omega
theorem wd_3 {t : Nat → Int} {s k : Nat} (h : ∀ q, q < k → 97 ≤ t (s + q) ∧ t (s + q) ≤ 122) : wdV t s k = 1952541541 ↔ k = 4 ∧ t s = 116 ∧ t (s + 1) = 97 ∧ t (s + 2) = 107 ∧ t (s + 3) = 101 := by
  have h0 := h 0
  have h1 := h 1
  have h2 := h 2
  have h3 := h 3
  have h4 := h 4
  have h5 := h 5
  have h6 := h 6
  rw [Nat.add_zero] at h0
  have := wd_c h
  constructor
  · intro e; omega
  · intro e; omega
theorem nm_wd {t : Nat → Int} {len p i : Nat} (hi : i < 4) (h : tkK t len p = 1) : nmb t len p i = true ↔ wdV t (tkS t len p) (tkE t len p - tkS t len p) = pkS i := by
  have hin := tk_in h
  obtain ⟨l0, l1, l2, l3⟩ := ch_all
  obtain ⟨a0, a1, a2, a3, a4⟩ := ch_0
  obtain ⟨b0, b1, b2, b3⟩ := ch_1
  obtain ⟨c0, c1, c2⟩ := ch_2
  obtain ⟨d0, d1, d2, d3⟩ := ch_3
  have hn : nmb t len p i = true ↔ tkE t len p - tkS t len p = lnS4 i ∧ ∀ k, k < lnS4 i → t (tkS t len p + k) = chS i k := ⟨fun z => (nmb_k z).2, fun z => nmb_t h z.1 z.2⟩
  rw [hn]
  have hi4 : i = 0 ∨ i = 1 ∨ i = 2 ∨ i = 3 := by omega
  rcases hi4 with rfl | rfl | rfl | rfl
  · rw [l0, show pkS 0 = 508508140389 from rfl, wd_0 hin]
    refine and_congr Iff.rfl ⟨fun z => ⟨(z 0 (by decide)).trans a0, (z 1 (by decide)).trans a1, (z 2 (by decide)).trans a2, (z 3 (by decide)).trans a3, (z 4 (by decide)).trans a4⟩, fun z => lt5 (z.1.trans a0.symm) (z.2.1.trans a1.symm) (z.2.2.1.trans a2.symm) (z.2.2.2.1.trans a3.symm) (z.2.2.2.2.trans a4.symm)⟩
  · rw [l1, show pkS 1 = 2003792484 from rfl, wd_1 hin]
    refine and_congr Iff.rfl ⟨fun z => ⟨(z 0 (by decide)).trans b0, (z 1 (by decide)).trans b1, (z 2 (by decide)).trans b2, (z 3 (by decide)).trans b3⟩, fun z => lt4 (z.1.trans b0.symm) (z.2.1.trans b1.symm) (z.2.2.1.trans b2.symm) (z.2.2.2.trans b3.symm)⟩
  · rw [l2, show pkS 2 = 7370100 from rfl, wd_2 hin]
    refine and_congr Iff.rfl ⟨fun z => ⟨(z 0 (by decide)).trans c0, (z 1 (by decide)).trans c1, (z 2 (by decide)).trans c2⟩, fun z => lt3 (z.1.trans c0.symm) (z.2.1.trans c1.symm) (z.2.2.trans c2.symm)⟩
  · rw [l3, show pkS 3 = 1952541541 from rfl, wd_3 hin]
    refine and_congr Iff.rfl ⟨fun z => ⟨(z 0 (by decide)).trans d0, (z 1 (by decide)).trans d1, (z 2 (by decide)).trans d2, (z 3 (by decide)).trans d3⟩, fun z => lt4 (z.1.trans d0.symm) (z.2.1.trans d1.symm) (z.2.2.1.trans d2.symm) (z.2.2.2.trans d3.symm)⟩
/-- an item, by how many there were before it -/
def itX (i : Nat) (t : Nat → Int) (len q : Nat) (a : Nat → Int) : ItR := if i = 0 then itV t len q a else itI t len q a
theorem itX_0 {t : Nat → Int} {len q : Nat} {a : Nat → Int} : itX 0 t len q a = itV t len q a := if_pos rfl
theorem itX_1 {i : Nat} {t : Nat → Int} {len q : Nat} {a : Nat → Int} (h : i ≠ 0) : itX i t len q a = itI t len q a := if_neg h
theorem itV_n {t : Nat → Int} {len q : Nat} {a : Nat → Int} (h : nmb t len q 0 = false) : itV t len q a = (false, q, a) := if_pos h
theorem cc_eq {x c : Int} : cmpL x c = 0 ↔ x = c := by
  unfold cmpL
  constructor
  · intro h
    split at h
    · omega
    · split at h
      · assumption
      · omega
  · intro h
    rw [if_neg (by omega), if_pos h]
theorem itV_a (t : Nat → Int) (len q : Nat) (a b : Nat → Int) : (itV t len q a).1 = (itV t len q b).1 ∧ (itV t len q a).2.1 = (itV t len q b).2.1 ∧ ((itV t len q a).1 = true → (itV t len q a).2.2 = (itV t len q b).2.2) := by
  unfold itV
  split
  · exact ⟨rfl, rfl, fun z => Bool.noConfusion z⟩
  · split
    · exact ⟨rfl, rfl, fun z => Bool.noConfusion z⟩
    · split
      · exact ⟨rfl, rfl, fun _ => rfl⟩
      · exact ⟨rfl, rfl, fun z => Bool.noConfusion z⟩
