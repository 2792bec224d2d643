/-! the world in numbers: objects by their number (0 .. 49 those that the two systems make; 50 a static row; 51 .. 54 four texts, 55 .. 58 their bytes), each place a number.
ids: 0 AcrosticLines; 1, 9, 17, 25 its verses now, spare, imageZero, imageOne (each with seven rows behind it); 33 the text reader, 34 its bytes; 35 the speller, 36 .. 38 its rows; 39 the model, 40 .. 49 its rows -/
abbrev MV : Type := Int ⊕ (Int ⊕ Nat)
abbrev Wd : Type := Nat → Nat → Int
abbrev Geo : Type := (Nat → Nat) × va_G × ClassId × ClassId
abbrev vI (z : Int) : MV := .inl z
abbrev vL (z : Int) : MV := .inr (.inl z)
abbrev vR (i : Nat) : MV := .inr (.inr i)
def rv (G : Geo) : MV → Value
  | .inl z => .int (Int32.ofInt z)
  | .inr (.inl z) => .long (Int64.ofInt z)
  | .inr (.inr i) => .ref (G.1 i)
def okv : MV → Prop
  | .inl z => ri32 z
  | .inr (.inl z) => ri64 z
  | .inr (.inr _) => True
def lgv : MV → Bool
  | .inr (.inl _) => true
  | _ => false
def lgo : Option MV → Bool
  | some v => lgv v
  | none => false
/-- the kind of an object: 0 .. 4 its class; 5 a row of ints, 6 of booleans; 7 the static row -/
def kdT (i : Nat) : Nat := [3, 2,5,5,5,5,5,5,5, 2,5,5,5,5,5,5,5, 2,5,5,5,5,5,5,5, 2,5,5,5,5,5,5,5, 1,5, 0,5,5,5, 4,5,5,5,6,5,5,5,5,6,5, 7].getD i 9
def szT (i : Nat) : Nat := [13, 14,8,8,8,6,18,24,48, 14,8,8,8,6,18,24,48, 14,8,8,8,6,18,24,48, 14,8,8,8,6,18,24,48, 9,150, 5,6,256,32, 19,127,127,254,2,3,150,1792,1792,1000,6, 7].getD i 0
/-- a class's field: 0 int, 1 boolean, 2 long, 3 + o the object o further on -/
def ftc (ci k : Nat) : Nat := (([[4,5,6,0,0],[4,0,0,0,0,0,0,0,0],[0,0,0,0,0,0,0,4,5,6,7,8,9,10],[4,12,20,28,1,1,36,38,2,2,0,0,0],[4,5,6,7,8,2,2,0,9,0,0,0,0,2,0,10,11,12,13]] : List (List Nat)).getD ci []).getD k 3
def tyT (i k : Nat) : Nat := if kdT i = 5 then 0 else if kdT i = 6 then 1 else ftc (kdT i) k
def rngT (t : Nat) (z : Int) : Prop := match t with
  | 0 => ri32 z
  | 1 => 0 ≤ z ∧ z ≤ 1
  | 2 => ri64 z
  | _ => True
def fvT (G : Geo) (t id : Nat) (z : Int) : Value := match t with
  | 0 => .int (Int32.ofInt z)
  | 1 => .int (Int32.ofInt z)
  | 2 => .long (Int64.ofInt z)
  | o + 3 => .ref (G.1 (id + o))
def fldsT (G : Geo) (w : Wd) (id ci n : Nat) : List Value := (List.range n).map (fun k => fvT G (ftc ci k) id (w id k))
def contT (G : Geo) (w : Wd) (id : Nat) : va_E :=
  if kdT id = 5 then .inl (G.2.2.1, szT id, .inl (fun j => Int32.ofInt (w id j)))
  else if kdT id = 6 then .inl (G.2.2.2, szT id, .inl (fun j => Int32.ofInt (w id j)))
  else .inr (kdT id, fldsT G w id (kdT id) (szT id))
def cellsT (G : Geo) (w : Wd) : va_W := (List.range 50).map (fun i => (G.1 i, contT G w i))
def tysT (G : Geo) : List (ClassId × FieldType) := [(G.2.2.1, .int), (G.2.2.2, .boolean)]
def rngW (w : Wd) : Prop := (∀ i k, i < 50 → k < szT i → rngT (tyT i k) (w i k)) ∧ ∀ k, k < 7 → w 50 k = 10 ^ k
def up (w : Wd) (i k : Nat) (z : Int) : Wd := fun a b => if a = i ∧ b = k then z else w a b
theorem up_same (w : Wd) (i k : Nat) (z : Int) : up w i k z i k = z := if_pos ⟨rfl, rfl⟩
theorem up_ne (w : Wd) {i k a b : Nat} (z : Int) (h : ¬ (a = i ∧ b = k)) : up w i k z a b = w a b := if_neg h
theorem up_id (w : Wd) {i k a b : Nat} (z : Int) (h : a ≠ i) : up w i k z a b = w a b := if_neg (fun q => h q.1)
theorem up_pl (w : Wd) {i k a b : Nat} (z : Int) (h : b ≠ k) : up w i k z a b = w a b := if_neg (fun q => h q.2)
theorem kdT_lt {i : Nat} (h : kdT i < 7) : i < 50 := by
  rcases Nat.lt_or_ge i 50 with q | q
  · exact q
  · exfalso
    rcases Nat.lt_or_ge i 51 with q2 | q2
    · have e : i = 50 := by omega
      subst e
      exact absurd h (by decide)
    · have e : kdT i = 9 := by
        unfold kdT
        rw [List.getD_eq_getElem?_getD, List.getElem?_eq_none (by show 51 ≤ i; exact q2)]
        rfl
      omega
theorem cellsT_at (G : Geo) (w : Wd) {i : Nat} (h : i < 50) : (cellsT G w)[i]? = some (G.1 i, contT G w i) := by
  unfold cellsT
  rw [List.getElem?_map, List.getElem?_range h]
  rfl
theorem cellsT_len (G : Geo) (w : Wd) : (cellsT G w).length = 50 := by simp [cellsT]
theorem cellsT_set (G : Geo) {w w' : Wd} {i : Nat} (h : i < 50) (hw : ∀ j, j ≠ i → contT G w' j = contT G w j) : (cellsT G w).set i (G.1 i, contT G w' i) = cellsT G w' := by
  apply List.ext_getElem?
  intro j
  by_cases hj : j = i
  · subst hj
    rw [List.getElem?_set_self (by rw [cellsT_len]; exact h), cellsT_at G w' h]
  · rw [List.getElem?_set_ne (Ne.symm hj)]
    by_cases hl : j < 50
    · rw [cellsT_at G w hl, cellsT_at G w' hl, hw j hj]
    · rw [List.getElem?_eq_none (by rw [cellsT_len]; omega), List.getElem?_eq_none (by rw [cellsT_len]; omega)]
theorem contT_congr (G : Geo) {w w' : Wd} {i : Nat} (h : ∀ k, w' i k = w i k) : contT G w' i = contT G w i := by
  unfold contT fldsT
  simp only [h]
theorem contT_up_ne (G : Geo) (w : Wd) {i k j : Nat} (z : Int) (h : j ≠ i) : contT G (up w i k z) j = contT G w j := contT_congr G (fun b => up_id w z h)
theorem contT_obj (G : Geo) (w : Wd) {i ci : Nat} (hk : kdT i = ci) (hc : ci < 5) : contT G w i = .inr (ci, fldsT G w i ci (szT i)) := by
  unfold contT
  rw [if_neg (by omega), if_neg (by omega), hk]
theorem contT_int (G : Geo) (w : Wd) {i : Nat} (hk : kdT i = 5) : contT G w i = .inl (G.2.2.1, szT i, .inl (fun j => Int32.ofInt (w i j))) := by
  unfold contT
  rw [if_pos hk]
theorem contT_bool (G : Geo) (w : Wd) {i : Nat} (hk : kdT i = 6) : contT G w i = .inl (G.2.2.2, szT i, .inl (fun j => Int32.ofInt (w i j))) := by
  unfold contT
  rw [if_neg (by omega), if_pos hk]
theorem fldsT_at (G : Geo) (w : Wd) {i ci n k : Nat} (h : k < n) : (fldsT G w i ci n)[k]? = some (fvT G (ftc ci k) i (w i k)) := by
  unfold fldsT
  rw [List.getElem?_map, List.getElem?_range h]
  rfl
theorem fldsT_len (G : Geo) (w : Wd) (i ci n : Nat) : (fldsT G w i ci n).length = n := by simp [fldsT]
theorem fldsT_set (G : Geo) (w : Wd) {i ci n k : Nat} (z : Int) : (fldsT G w i ci n).set k (fvT G (ftc ci k) i z) = fldsT G (up w i k z) i ci n := by
  apply List.ext_getElem?
  intro j
  by_cases hj : j = k
  · subst hj
    by_cases hn : j < n
    · rw [List.getElem?_set_self (by rw [fldsT_len]; exact hn), fldsT_at G _ hn, up_same]
    · rw [List.getElem?_eq_none (by rw [List.length_set, fldsT_len]; omega), List.getElem?_eq_none (by rw [fldsT_len]; omega)]
  · rw [List.getElem?_set_ne (Ne.symm hj)]
    by_cases hn : j < n
    · rw [fldsT_at G _ hn, fldsT_at G _ hn, up_pl w z hj]
    · rw [List.getElem?_eq_none (by rw [fldsT_len]; omega), List.getElem?_eq_none (by rw [fldsT_len]; omega)]
theorem rngW_up {w : Wd} {i k : Nat} {z : Int} (h : rngW w) (hi : i < 50) (hz : rngT (tyT i k) z) : rngW (up w i k z) := by
  refine ⟨fun a b ha hb => ?_, fun b hb => ?_⟩
  · by_cases q : a = i ∧ b = k
    · obtain ⟨rfl, rfl⟩ := q
      rw [up_same]
      exact hz
    · rw [up_ne w z q]
      exact h.1 a b ha hb
  · rw [up_id w z (by omega)]
    exact h.2 b hb
/-! what the tables say, as words that go along; and of the rest of the heap -/
def BIG : List Cond := lw_tbl.filter goodWord
theorem BIG_in {w : Cond} (i : Nat) (h : lw_tbl[i]? = some w) (hg : goodWord w = true) : w ∈ BIG := List.mem_filter.mpr ⟨List.mem_of_getElem? h, hg⟩
theorem BIG_good : GoodIn BIG BIG := fun w h => ⟨h, good_of_word (List.mem_filter.mp h).2⟩
def isNest : Cond → Bool
  | .methodLinkNest .. => true
  | _ => false
def nestW : List Cond := lw_tbl.filter isNest
def lenS : List Nat := [5, 4, 3, 4]
def bytS : List (List Int32) := [[118, 101, 114, 115, 101], [119, 111, 114, 100], [112, 117, 116], [116, 97, 107, 101]]
def strW : List (Nat × String × Nat) := [(58, "verse", 0), (39, "word", 1), (48, "put", 2), (53, "take", 3)]
def AG (G : Geo) : Nat → Prop := fun q => ∃ i, i < 50 ∧ G.1 i = q
def GeoOK (G : Geo) : Prop := ∀ i j, i < 50 → j < 50 → G.1 i = G.1 j → i = j
def KU (G : Geo) (U : State) (H : Heap) : Prop :=
  va_Z "AcrosticLines" "POWERS" "[I" (.ref (G.1 50)) (AG G) U H ∧ va_T .int (G.1 50) 7 (fun j => .int (Int32.ofInt (10 ^ j))) (AG G) U H ∧
  (∀ w ∈ nestW, va_Nw w U) ∧ vk_S 4 lenS bytS (fun i => G.1 (51 + i)) (fun i => G.1 (55 + i)) (AG G) U H ∧
  (∀ q ∈ strW, vk_R "AcrosticLines$TextReader" q.1 q.2.1 (G.1 (51 + q.2.2)) U) ∧
  va_Z "java/lang/String" "COMPACT_STRINGS" "Z" (.int 1) (AG G) U H ∧
  va_Zq "jdk/internal/util/Preconditions" "SIOOBE_FORMATTER" "Ljava/util/function/BiFunction;" (AG G) U H
theorem cellsT_D {G : Geo} (h : GeoOK G) (w : Wd) : va_D (AG G) (cellsT G w) := by
  have key : ∀ (k : Nat) (q : Nat × va_E), (cellsT G w)[k]? = some q → k < 50 ∧ q = (G.1 k, contT G w k) := by
    intro k q hk
    have hl : k < 50 := by
      have := (List.getElem?_eq_some_iff.mp hk).1
      rw [cellsT_len] at this
      exact this
    rw [cellsT_at G w hl] at hk
    exact ⟨hl, (Option.some.inj hk).symm⟩
  refine ⟨fun i j p q hi hj hpq => ?_, fun k q hk => ?_⟩
  · obtain ⟨h1, rfl⟩ := key i p hi
    obtain ⟨h2, rfl⟩ := key j q hj
    exact h i j h1 h2 hpq
  · obtain ⟨h1, rfl⟩ := key k q hk
    exact ⟨k, h1, rfl⟩
