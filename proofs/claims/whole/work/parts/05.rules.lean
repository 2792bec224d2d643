theorem md_rL {a b : Int} (ha : ri64 a) (h0 : 0 ≤ a) (hb : 0 < b) : ri64 (a % b) := by
  have h1 : a % b ≤ a := md_le h0 hb
  have h2 : 0 ≤ a % b := Int.emod_nonneg a (Int.ne_of_gt hb)
  unfold ri64 at *; omega
theorem cmpL_r (a b : Int) : ri32 (cmpL a b) := by unfold cmpL ri32; split <;> (try split) <;> omega
theorem lg_oi {a b : Int} (ha : ri64 a) (hb : ri64 b) : lg_cmp (Int64.ofInt a) (Int64.ofInt b) = Int32.ofInt (cmpL a b) := by
  unfold lg_cmp cmpL
  by_cases h1 : a < b
  · have n1 : ¬ Int64.ofInt b < Int64.ofInt a := fun z => by have := (ol_lt hb ha).mp z; omega
    have n2 : ¬ Int64.ofInt a = Int64.ofInt b := fun z => by have := (ol_inj ha hb).mp z; omega
    rw [if_pos h1, if_neg n1, if_neg n2]
    rfl
  · have n1 : ¬ Int64.ofInt a < Int64.ofInt b := fun z => h1 ((ol_lt ha hb).mp z)
    by_cases h2 : a = b
    · subst h2
      rw [if_neg n1, if_pos rfl, if_neg h1, if_pos rfl]
      rfl
    · have n2 : ¬ Int64.ofInt a = Int64.ofInt b := fun z => h2 ((ol_inj ha hb).mp z)
      have n3 : Int64.ofInt b < Int64.ofInt a := (ol_lt hb ha).mpr (by omega)
      rw [if_neg h1, if_neg h2, if_pos n3]
      rfl

/-! the judgement VV: the machine, standing at pc with these locals, this stack, over this world of numbers, comes to its goal; ctxB: what stays fixed; Call: a method, called so, comes back with an answer and a world of which Q holds -/
abbrev Kx : Type := Program × Launch × Env × Room × State × MethodId × Array Value × List Frame × Method × Code × Nat × Nat × (State → Prop) × Geo
def toL (G : Geo) : Nat → List (Option MV) → List (Nat × Value)
  | _, [] => []
  | i, none :: r => toL G (i + 1) r
  | i, some v :: r => (i, rv G v) :: toL G (i + 1) r
def VV (κ : Kx) (pc : Nat) (ls : List (Option MV)) (st : List MV) (w : Wd) : Prop :=
  match κ with
  | (p, l, e, R, s, m, args, below, meth, c, cells, slots, Qs, G) =>
    (∀ v, some v ∈ ls → okv v) → (∀ v, v ∈ st → okv v) → rngW w → ∀ (H : Heap) (locs : List Loc) (rl : Array Slot), va_P G.2.1 vwCl (cellsT G w) H → va_S (AG G) s.heap H locs → lv_has rl c.maxLocals (toL G 0 ls) → W p l e R s m args below meth c H locs cells slots Qs (F0 m pc rl (st.map (rv G)))
def ctxB (κ : Kx) (own : String) (cc : ByteArray) (d : Nat) : Prop :=
  match κ with
  | (p, l, e, R, s, m, args, below, meth, c, cells, slots, Qs, G) =>
    p.tables.exec = Jvm.exec ∧ c.code = cc ∧ s.vm.findClass own = some m.cls ∧ (∀ w ∈ BIG, w.before args s = true) ∧ meth.locks = false ∧ va_K G.2.1 vwCl (tysT G) s ∧ KU G s s.heap ∧ GeoOK G ∧ d ≤ R.frames ∧ 35 * d ≤ R.locals ∧ cells ≤ R.cells ∧ slots ≤ R.slots
def QC (G : Geo) (Q : Option MV → Wd → Prop) : Array Value → State → Outcome → State → Prop := fun _ st o t =>
  (∃ (r : Option MV) (w : Wd), o = .returned (r.map (rv G)) ∧ (∀ v, r = some v → okv v) ∧ Q r w ∧ rngW w ∧ va_P G.2.1 vwCl (cellsT G w) t.heap) ∧ va_F (AG G) st t
def ctxR (κ : Kx) (ret : Option FieldType) (Q : Option MV → Wd → Prop) : Prop :=
  match κ with
  | (p, l, e, R, s, m, args, below, meth, c, cells, slots, Qs, G) => meth.sig.returnType = ret ∧ Qs = MQ below (QC G Q) args s cells slots (AG G)
theorem toL_mem (G : Geo) : ∀ (ls : List (Option MV)) (n : Nat) (q : Nat × Value), q ∈ toL G n ls ↔ ∃ (j : Nat) (v : MV), ls[j]? = some (some v) ∧ q = (n + j, rv G v)
  | [], n, q => by simp [toL]
  | none :: r, n, q => by
    rw [show toL G n (none :: r) = toL G (n + 1) r from rfl, toL_mem G r (n + 1) q]
    constructor
    · rintro ⟨j, v, h1, h2⟩
      exact ⟨j + 1, v, by simpa using h1, by rw [h2]; congr 1; omega⟩
    · rintro ⟨j, v, h1, h2⟩
      cases j with
      | zero => simp at h1
      | succ j => exact ⟨j, v, by simpa using h1, by rw [h2]; congr 1; omega⟩
  | some x :: r, n, q => by
    rw [show toL G n (some x :: r) = (n, rv G x) :: toL G (n + 1) r from rfl, List.mem_cons, toL_mem G r (n + 1) q]
    constructor
    · rintro (h | ⟨j, v, h1, h2⟩)
      · exact ⟨0, x, rfl, h⟩
      · exact ⟨j + 1, v, by simpa using h1, by rw [h2]; congr 1; omega⟩
    · rintro ⟨j, v, h1, h2⟩
      cases j with
      | zero =>
        have : x = v := by simpa using h1
        subst this
        exact Or.inl h2
      | succ j => exact Or.inr ⟨j, v, by simpa using h1, by rw [h2]; congr 1; omega⟩
theorem toL_at {G : Geo} {ls : List (Option MV)} {nL : Nat} {rl : Array Slot} (h : lv_has rl nL (toL G 0 ls)) {i : Nat} {v : MV} (hi : ls[i]? = some (some v)) : rl[i]? = some (.val (rv G v)) := by
  have := h.2.2 (i, rv G v) ((toL_mem G ls 0 _).mpr ⟨i, v, hi, by rw [Nat.zero_add]⟩)
  exact this
theorem lv_mono {ls : Array Slot} {nL : Nat} {l l' : List (Nat × Value)} (h : lv_has ls nL l) (hs : ∀ q, q ∈ l' → q ∈ l) : lv_has ls nL l' := ⟨h.1, h.2.1, fun q hq => h.2.2 q (hs q hq)⟩
theorem rv_cat (G : Geo) (v : MV) : ((rv G v).category == 2) = lgv v := by
  rcases v with z | z | z <;> rfl
theorem rv_cat1 (G : Geo) {v : MV} (h : lgv v = false) : (rv G v).category = 1 := by
  rcases v with z | z | z
  · rfl
  · cases h
  · rfl
theorem rv_cat2 (G : Geo) {v : MV} (h : lgv v = true) : (rv G v).category = 2 := by
  rcases v with z | z | z
  · cases h
  · rfl
  · cases h
theorem ok_c {v : MV} {st : List MV} (hv : okv v) (h : ∀ x, x ∈ st → okv x) : ∀ x, x ∈ v :: st → okv x := by
  intro x hx
  rcases List.mem_cons.mp hx with rfl | hx
  · exact hv
  · exact h x hx
theorem ok_t {v : MV} {st : List MV} (h : ∀ x, x ∈ v :: st → okv x) : ∀ x, x ∈ st → okv x := fun x hx => h x (List.mem_cons_of_mem _ hx)
theorem ok_h {v : MV} {st : List MV} (h : ∀ x, x ∈ v :: st → okv x) : okv v := h v List.mem_cons_self
theorem ok_set {v : MV} {ls : List (Option MV)} {i : Nat} (hv : okv v) (h : ∀ x, some x ∈ ls → okv x) : ∀ x, some x ∈ ls.set i (some v) → okv x := by
  intro x hx
  rcases List.mem_or_eq_of_mem_set hx with q | q
  · exact h x q
  · cases q; exact hv
theorem ok_setN {ls : List (Option MV)} {i : Nat} (h : ∀ x, some x ∈ ls → okv x) : ∀ x, some x ∈ ls.set i none → okv x := by
  intro x hx
  rcases List.mem_or_eq_of_mem_set hx with q | q
  · exact h x q
  · cases q
theorem ok_at {ls : List (Option MV)} {i : Nat} {v : MV} (h : ∀ x, some x ∈ ls → okv x) (hi : ls[i]? = some (some v)) : okv v := h v (List.mem_of_getElem? hi)
theorem st_set1 {G : Geo} {ls : List (Option MV)} {i : Nat} {v : MV} (hlg : ∀ (j : Nat) (x : MV), j + 1 = i → ls[j]? = some (some x) → lgv x = false) : ∀ q, q ∈ toL G 0 (ls.set i (some v)) → q ∈ (i, rv G v) :: (toL G 0 ls).filter (fun q => !(q.1 == i) && !(q.1 + 1 == i && q.2.category == 2)) := by
  intro q hq
  obtain ⟨j, x, h1, rfl⟩ := (toL_mem G _ 0 q).mp hq
  rw [Nat.zero_add]
  by_cases hj : j = i
  · subst hj
    have hl : j < ls.length := by
      have := (List.getElem?_eq_some_iff.mp h1).1
      rwa [List.length_set] at this
    rw [List.getElem?_set_self hl] at h1
    cases h1
    exact List.mem_cons_self
  · rw [List.getElem?_set_ne (Ne.symm hj)] at h1
    refine List.mem_cons_of_mem _ (List.mem_filter.mpr ⟨(toL_mem G ls 0 _).mpr ⟨j, x, h1, by rw [Nat.zero_add]⟩, ?_⟩)
    show (!(j == i) && !(j + 1 == i && (rv G x).category == 2)) = true
    rw [rv_cat]
    by_cases hj2 : j + 1 = i
    · rw [hlg j x hj2 h1]
      simp [hj]
    · simp [hj, hj2]
theorem st_set2 {G : Geo} {ls : List (Option MV)} {i : Nat} {v : MV} (hlg : ∀ (j : Nat) (x : MV), j + 1 = i → ls[j]? = some (some x) → lgv x = false) : ∀ q, q ∈ toL G 0 ((ls.set i (some v)).set (i + 1) none) → q ∈ (i, rv G v) :: (toL G 0 ls).filter (fun q => !(q.1 == i) && (!(q.1 == i + 1) && !(q.1 + 1 == i && q.2.category == 2))) := by
  intro q hq
  obtain ⟨j, x, h1, rfl⟩ := (toL_mem G _ 0 q).mp hq
  rw [Nat.zero_add]
  by_cases hj3 : j = i + 1
  · subst hj3
    exfalso
    have hl : i + 1 < (ls.set i (some v)).length := by
      have := (List.getElem?_eq_some_iff.mp h1).1
      rwa [List.length_set] at this
    rw [List.getElem?_set_self hl] at h1
    cases h1
  · rw [List.getElem?_set_ne (Ne.symm hj3)] at h1
    by_cases hj : j = i
    · subst hj
      have hl : j < ls.length := by
        have := (List.getElem?_eq_some_iff.mp h1).1
        rwa [List.length_set] at this
      rw [List.getElem?_set_self hl] at h1
      cases h1
      exact List.mem_cons_self
    · rw [List.getElem?_set_ne (Ne.symm hj)] at h1
      refine List.mem_cons_of_mem _ (List.mem_filter.mpr ⟨(toL_mem G ls 0 _).mpr ⟨j, x, h1, by rw [Nat.zero_add]⟩, ?_⟩)
      show (!(j == i) && (!(j == i + 1) && !(j + 1 == i && (rv G x).category == 2))) = true
      rw [rv_cat]
      by_cases hj2 : j + 1 = i
      · rw [hlg j x hj2 h1]
        simp [hj, hj3]
      · simp [hj, hj2, hj3]
/-- what a walk may know at any time: its numbers are in their ranges -/
theorem v_ok {κ : Kx} {pc : Nat} {ls : List (Option MV)} {st : List MV} {w : Wd} (k : (∀ v, some v ∈ ls → okv v) → (∀ v, v ∈ st → okv v) → rngW w → VV κ pc ls st w) : VV κ pc ls st w := by
  obtain ⟨p, l, e, R, s, m, args, below, meth, c, cells, slots, Qs, G⟩ := κ
  intro hL hS hW
  exact k hL hS hW hL hS hW
/-- a world that is the same by its places -/
theorem v_eq {κ : Kx} {pc : Nat} {ls ls2 : List (Option MV)} {st st2 : List MV} {w w2 : Wd} (h1 : ls = ls2) (h2 : st = st2) (h3 : w = w2) (k : VV κ pc ls2 st2 w2) : VV κ pc ls st w := by subst h1; subst h2; subst h3; exact k
section RULES
variable {κ : Kx} {own : String} {cc : ByteArray} {d pc : Nat} {ls : List (Option MV)} {st : List MV} {w : Wd}
theorem v_iconst (h : ctxB κ own cc d) {n : Int} (hd : decode cc pc = .ok (.iconst n, 1)) (hr : ri32 n) (k : VV κ (pc + 1) ls (.inl n :: st) w) : VV κ pc ls st w := by
  obtain ⟨p, l, e, R, s, m, args, below, meth, c, cells, slots, Qs, G⟩ := κ
  obtain ⟨hx, hb, hown, hts, hlk, hK, hKU, hG, hfr, hlo, hce, hsl⟩ := h
  intro hL hS hW H locs rl hP hSS hl
  refine lv_iconst hx hb hd rfl ?_
  exact k hL (ok_c hr hS) hW H locs rl hP hSS hl
theorem v_bipush (h : ctxB κ own cc d) {n : Int} (hd : decode cc pc = .ok (.bipush n, 2)) (hr : (-128 ≤ n ∧ n < 128)) (k : VV κ (pc + 2) ls (.inl n :: st) w) : VV κ pc ls st w := by
  obtain ⟨p, l, e, R, s, m, args, below, meth, c, cells, slots, Qs, G⟩ := κ
  obtain ⟨hx, hb, hown, hts, hlk, hK, hKU, hG, hfr, hlo, hce, hsl⟩ := h
  intro hL hS hW H locs rl hP hSS hl
  have e : (Int8.ofInt n).toInt32 = Int32.ofInt n := by
    apply Int32.toInt_inj.mp
    rw [Int8.toInt_toInt32, Int8.toInt_ofInt, oi_id (by unfold ri32; omega), Int.bmod_def]
    show (if n % 256 < (256 + 1) / 2 then n % 256 else n % 256 - 256) = n
    split <;> omega
  refine lv_bipush hx hb hd e ?_
  exact k hL (ok_c (show ri32 n by unfold ri32; omega) hS) hW H locs rl hP hSS hl
theorem v_sipush (h : ctxB κ own cc d) {n : Int} (hd : decode cc pc = .ok (.sipush n, 3)) (hr : (-32768 ≤ n ∧ n < 32768)) (k : VV κ (pc + 3) ls (.inl n :: st) w) : VV κ pc ls st w := by
  obtain ⟨p, l, e, R, s, m, args, below, meth, c, cells, slots, Qs, G⟩ := κ
  obtain ⟨hx, hb, hown, hts, hlk, hK, hKU, hG, hfr, hlo, hce, hsl⟩ := h
  intro hL hS hW H locs rl hP hSS hl
  have e : (Int16.ofInt n).toInt32 = Int32.ofInt n := by
    apply Int32.toInt_inj.mp
    rw [Int16.toInt_toInt32, Int16.toInt_ofInt, oi_id (by unfold ri32; omega), Int.bmod_def]
    show (if n % 65536 < (65536 + 1) / 2 then n % 65536 else n % 65536 - 65536) = n
    split <;> omega
  refine lv_sipush hx hb hd e ?_
  exact k hL (ok_c (show ri32 n by unfold ri32; omega) hS) hW H locs rl hP hSS hl
theorem v_lconst (h : ctxB κ own cc d) {n : Fin 2} {z : Int} (hd : decode cc pc = .ok (.lconst n, 1)) (hz : z = ((n : Nat) : Int)) (k : VV κ (pc + 1) ls (.inr (.inl z) :: st) w) : VV κ pc ls st w := by
  obtain ⟨p, l, e, R, s, m, args, below, meth, c, cells, slots, Qs, G⟩ := κ
  obtain ⟨hx, hb, hown, hts, hlk, hK, hKU, hG, hfr, hlo, hce, hsl⟩ := h
  intro hL hS hW H locs rl hP hSS hl
  subst hz
  refine lv_lconst (v := Int64.ofInt ((n : Nat) : Int)) hx hb hd rfl ?_
  exact k hL (ok_c (show ri64 _ by unfold ri64; omega) hS) hW H locs rl hP hSS hl
theorem v_ldc (h : ctxB κ own cc d) {idx : Nat} {n : Int} {v : Int32} (hd : decode cc pc = .ok (.ldc idx, 2)) (hc : Cond.constant own idx v ∈ BIG) (hv : v = Int32.ofInt n) (hr : ri32 n) (k : VV κ (pc + 2) ls (.inl n :: st) w) : VV κ pc ls st w := by
  obtain ⟨p, l, e, R, s, m, args, below, meth, c, cells, slots, Qs, G⟩ := κ
  obtain ⟨hx, hb, hown, hts, hlk, hK, hKU, hG, hfr, hlo, hce, hsl⟩ := h
  intro hL hS hW H locs rl hP hSS hl
  subst hv
  refine lv_ldc hx hb hown (hts _ hc) hd ?_
  exact k hL (ok_c hr hS) hW H locs rl hP hSS hl
theorem v_ldcw (h : ctxB κ own cc d) {idx : Nat} {n : Int} {v : Int32} (hd : decode cc pc = .ok (.ldc_w idx, 3)) (hc : Cond.constant own idx v ∈ BIG) (hv : v = Int32.ofInt n) (hr : ri32 n) (k : VV κ (pc + 3) ls (.inl n :: st) w) : VV κ pc ls st w := by
  obtain ⟨p, l, e, R, s, m, args, below, meth, c, cells, slots, Qs, G⟩ := κ
  obtain ⟨hx, hb, hown, hts, hlk, hK, hKU, hG, hfr, hlo, hce, hsl⟩ := h
  intro hL hS hW H locs rl hP hSS hl
  subst hv
  refine lv_ldcw hx hb hown (hts _ hc) hd ?_
  exact k hL (ok_c hr hS) hW H locs rl hP hSS hl
theorem v_ldc2 (h : ctxB κ own cc d) {idx : Nat} {n : Int} {v : Int64} (hd : decode cc pc = .ok (.ldc2_w idx, 3)) (hc : Cond.constantLong own idx v ∈ BIG) (hv : v = Int64.ofInt n) (hr : ri64 n) (k : VV κ (pc + 3) ls (.inr (.inl n) :: st) w) : VV κ pc ls st w := by
  obtain ⟨p, l, e, R, s, m, args, below, meth, c, cells, slots, Qs, G⟩ := κ
  obtain ⟨hx, hb, hown, hts, hlk, hK, hKU, hG, hfr, hlo, hce, hsl⟩ := h
  intro hL hS hW H locs rl hP hSS hl
  subst hv
  refine lv_ldc2 hx hb hown (hts _ hc) hd ?_
  exact k hL (ok_c hr hS) hW H locs rl hP hSS hl
theorem v_ldcS (h : ctxB κ own cc d) {idx i : Nat} {tx : String} (ho : own = "AcrosticLines$TextReader") (hd : decode cc pc = .ok (.ldc idx, 2)) (hq : (idx, tx, i) ∈ strW) (k : VV κ (pc + 2) ls (.inr (.inr (51 + i)) :: st) w) : VV κ pc ls st w := by
  obtain ⟨p, l, e, R, s, m, args, below, meth, c, cells, slots, Qs, G⟩ := κ
  obtain ⟨hx, hb, hown, hts, hlk, hK, hKU, hG, hfr, hlo, hce, hsl⟩ := h
  intro hL hS hW H locs rl hP hSS hl
  subst ho
  refine va_ldcS hx hb hown (hKU.2.2.2.2.1 _ hq) hd ?_
  exact k hL (ok_c (show okv (.inr (.inr (51 + i))) from trivial) hS) hW H locs rl hP hSS hl
theorem v_iload (h : ctxB κ own cc d) {i : Nat} {z : Int} (hd : decode cc pc = .ok (.iload i, 2)) (hi : ls[i]? = some (some (.inl z))) (k : VV κ (pc + 2) ls ((.inl z) :: st) w) : VV κ pc ls st w := by
  obtain ⟨p, l, e, R, s, m, args, below, meth, c, cells, slots, Qs, G⟩ := κ
  obtain ⟨hx, hb, hown, hts, hlk, hK, hKU, hG, hfr, hlo, hce, hsl⟩ := h
  intro hL hS hW H locs rl hP hSS hl
  refine lv_iload hx hb hd (toL_at hl hi) ?_
  exact k hL (ok_c (ok_at hL hi) hS) hW H locs rl hP hSS hl
theorem v_iload_n (h : ctxB κ own cc d) {i : Fin 4} {z : Int} (hd : decode cc pc = .ok (.iload_n i, 1)) (hi : ls[(i : Nat)]? = some (some (.inl z))) (k : VV κ (pc + 1) ls ((.inl z) :: st) w) : VV κ pc ls st w := by
  obtain ⟨p, l, e, R, s, m, args, below, meth, c, cells, slots, Qs, G⟩ := κ
  obtain ⟨hx, hb, hown, hts, hlk, hK, hKU, hG, hfr, hlo, hce, hsl⟩ := h
  intro hL hS hW H locs rl hP hSS hl
  refine lv_iload_n hx hb hd rfl (toL_at hl hi) ?_
  exact k hL (ok_c (ok_at hL hi) hS) hW H locs rl hP hSS hl
theorem v_lload (h : ctxB κ own cc d) {i : Nat} {z : Int} (hd : decode cc pc = .ok (.lload i, 2)) (hi : ls[i]? = some (some (.inr (.inl z)))) (k : VV κ (pc + 2) ls ((.inr (.inl z)) :: st) w) : VV κ pc ls st w := by
  obtain ⟨p, l, e, R, s, m, args, below, meth, c, cells, slots, Qs, G⟩ := κ
  obtain ⟨hx, hb, hown, hts, hlk, hK, hKU, hG, hfr, hlo, hce, hsl⟩ := h
  intro hL hS hW H locs rl hP hSS hl
  refine lv_lload hx hb hd (toL_at hl hi) ?_
  exact k hL (ok_c (ok_at hL hi) hS) hW H locs rl hP hSS hl
theorem v_lload_n (h : ctxB κ own cc d) {i : Fin 4} {z : Int} (hd : decode cc pc = .ok (.lload_n i, 1)) (hi : ls[(i : Nat)]? = some (some (.inr (.inl z)))) (k : VV κ (pc + 1) ls ((.inr (.inl z)) :: st) w) : VV κ pc ls st w := by
  obtain ⟨p, l, e, R, s, m, args, below, meth, c, cells, slots, Qs, G⟩ := κ
  obtain ⟨hx, hb, hown, hts, hlk, hK, hKU, hG, hfr, hlo, hce, hsl⟩ := h
  intro hL hS hW H locs rl hP hSS hl
  refine lv_lload_n hx hb hd rfl (toL_at hl hi) ?_
  exact k hL (ok_c (ok_at hL hi) hS) hW H locs rl hP hSS hl
theorem v_aload (h : ctxB κ own cc d) {i : Nat} {z : Nat} (hd : decode cc pc = .ok (.aload i, 2)) (hi : ls[i]? = some (some (.inr (.inr z)))) (k : VV κ (pc + 2) ls ((.inr (.inr z)) :: st) w) : VV κ pc ls st w := by
  obtain ⟨p, l, e, R, s, m, args, below, meth, c, cells, slots, Qs, G⟩ := κ
  obtain ⟨hx, hb, hown, hts, hlk, hK, hKU, hG, hfr, hlo, hce, hsl⟩ := h
  intro hL hS hW H locs rl hP hSS hl
  refine lv_aload hx hb hd (toL_at hl hi) ?_
  exact k hL (ok_c (ok_at hL hi) hS) hW H locs rl hP hSS hl
theorem v_aload_n (h : ctxB κ own cc d) {i : Fin 4} {z : Nat} (hd : decode cc pc = .ok (.aload_n i, 1)) (hi : ls[(i : Nat)]? = some (some (.inr (.inr z)))) (k : VV κ (pc + 1) ls ((.inr (.inr z)) :: st) w) : VV κ pc ls st w := by
  obtain ⟨p, l, e, R, s, m, args, below, meth, c, cells, slots, Qs, G⟩ := κ
  obtain ⟨hx, hb, hown, hts, hlk, hK, hKU, hG, hfr, hlo, hce, hsl⟩ := h
  intro hL hS hW H locs rl hP hSS hl
  refine lv_aload_n hx hb hd rfl (toL_at hl hi) ?_
  exact k hL (ok_c (ok_at hL hi) hS) hW H locs rl hP hSS hl
theorem v_istG (h : ctxB κ own cc d) {i : Nat} {z : Int} (hd : decode cc pc = .ok (.istore i, 2)) (hi : i < ls.length) (hn : ∀ κ2 : Kx, κ2 = κ → ls.length ≤ κ2.2.2.2.2.2.2.2.2.2.1.maxLocals) (hlg : ∀ (j : Nat) (x : MV), j + 1 = i → ls[j]? = some (some x) → lgv x = false) (k : VV κ (pc + 2) (ls.set i (some (.inl z))) st w) : VV κ pc ls (.inl z :: st) w := by
  obtain ⟨p, l, e, R, s, m, args, below, meth, c, cells, slots, Qs, G⟩ := κ
  obtain ⟨hx, hb, hown, hts, hlk, hK, hKU, hG, hfr, hlo, hce, hsl⟩ := h
  intro hL hS hW H locs rl hP hSS hl
  have hn : ls.length ≤ c.maxLocals := hn _ rfl
  refine lv_istore hx hb hd hl (by omega) rfl (fun rl2 hl2 => ?_)
  exact k (ok_set (ok_h hS) hL) (ok_t hS) hW H locs rl2 hP hSS (lv_mono hl2 (st_set1 hlg))
theorem v_istG_n (h : ctxB κ own cc d) {i : Fin 4} {z : Int} (hd : decode cc pc = .ok (.istore_n i, 1)) (hi : (i : Nat) < ls.length) (hn : ∀ κ2 : Kx, κ2 = κ → ls.length ≤ κ2.2.2.2.2.2.2.2.2.2.1.maxLocals) (hlg : ∀ (j : Nat) (x : MV), j + 1 = (i : Nat) → ls[j]? = some (some x) → lgv x = false) (k : VV κ (pc + 1) (ls.set (i : Nat) (some (.inl z))) st w) : VV κ pc ls (.inl z :: st) w := by
  obtain ⟨p, l, e, R, s, m, args, below, meth, c, cells, slots, Qs, G⟩ := κ
  obtain ⟨hx, hb, hown, hts, hlk, hK, hKU, hG, hfr, hlo, hce, hsl⟩ := h
  intro hL hS hW H locs rl hP hSS hl
  have hn : ls.length ≤ c.maxLocals := hn _ rfl
  refine lv_istore_n hx hb hd rfl hl (by omega) rfl (fun rl2 hl2 => ?_)
  exact k (ok_set (ok_h hS) hL) (ok_t hS) hW H locs rl2 hP hSS (lv_mono hl2 (st_set1 hlg))
theorem v_lstG (h : ctxB κ own cc d) {i : Nat} {z : Int} (hd : decode cc pc = .ok (.lstore i, 2)) (hi : i + 1 < ls.length) (hn : ∀ κ2 : Kx, κ2 = κ → ls.length ≤ κ2.2.2.2.2.2.2.2.2.2.1.maxLocals) (hlg : ∀ (j : Nat) (x : MV), j + 1 = i → ls[j]? = some (some x) → lgv x = false) (k : VV κ (pc + 2) ((ls.set i (some (.inr (.inl z)))).set (i + 1) none) st w) : VV κ pc ls (.inr (.inl z) :: st) w := by
  obtain ⟨p, l, e, R, s, m, args, below, meth, c, cells, slots, Qs, G⟩ := κ
  obtain ⟨hx, hb, hown, hts, hlk, hK, hKU, hG, hfr, hlo, hce, hsl⟩ := h
  intro hL hS hW H locs rl hP hSS hl
  have hn : ls.length ≤ c.maxLocals := hn _ rfl
  refine lv_lstore hx hb hd hl (by omega) rfl (fun rl2 hl2 => ?_)
  exact k (ok_setN (ok_set (ok_h hS) hL)) (ok_t hS) hW H locs rl2 hP hSS (lv_mono hl2 (st_set2 hlg))
theorem v_lstG_n (h : ctxB κ own cc d) {i : Fin 4} {z : Int} (hd : decode cc pc = .ok (.lstore_n i, 1)) (hi : (i : Nat) + 1 < ls.length) (hn : ∀ κ2 : Kx, κ2 = κ → ls.length ≤ κ2.2.2.2.2.2.2.2.2.2.1.maxLocals) (hlg : ∀ (j : Nat) (x : MV), j + 1 = (i : Nat) → ls[j]? = some (some x) → lgv x = false) (k : VV κ (pc + 1) ((ls.set (i : Nat) (some (.inr (.inl z)))).set ((i : Nat) + 1) none) st w) : VV κ pc ls (.inr (.inl z) :: st) w := by
  obtain ⟨p, l, e, R, s, m, args, below, meth, c, cells, slots, Qs, G⟩ := κ
  obtain ⟨hx, hb, hown, hts, hlk, hK, hKU, hG, hfr, hlo, hce, hsl⟩ := h
  intro hL hS hW H locs rl hP hSS hl
  have hn : ls.length ≤ c.maxLocals := hn _ rfl
  refine lv_lstore_n hx hb hd rfl hl (by omega) rfl (fun rl2 hl2 => ?_)
  exact k (ok_setN (ok_set (ok_h hS) hL)) (ok_t hS) hW H locs rl2 hP hSS (lv_mono hl2 (st_set2 hlg))
theorem v_iincG (h : ctxB κ own cc d) {i : Nat} {n z z2 : Int} (hd : decode cc pc = .ok (.iinc i n, 3)) (hi : ls[i]? = some (some (.inl z))) (hn : ∀ κ2 : Kx, κ2 = κ → ls.length ≤ κ2.2.2.2.2.2.2.2.2.2.1.maxLocals) (hlg : ∀ (j : Nat) (x : MV), j + 1 = i → ls[j]? = some (some x) → lgv x = false) (hz : z2 = wr (z + n)) (k : VV κ (pc + 3) (ls.set i (some (.inl z2))) st w) : VV κ pc ls st w := by
  obtain ⟨p, l, e, R, s, m, args, below, meth, c, cells, slots, Qs, G⟩ := κ
  obtain ⟨hx, hb, hown, hts, hlk, hK, hKU, hG, hfr, hlo, hce, hsl⟩ := h
  intro hL hS hW H locs rl hP hSS hl
  have hn : ls.length ≤ c.maxLocals := hn _ rfl
  have hlt : i < ls.length := (List.getElem?_eq_some_iff.mp hi).1
  subst hz
  obtain ⟨q, hq⟩ := List.getElem?_of_mem ((toL_mem G ls 0 (i, rv G (.inl z))).mpr ⟨i, .inl z, hi, by rw [Nat.zero_add]⟩)
  refine lv_iinc (v := Int32.ofInt (wr (z + n))) hx hb hd hl hq (by rw [oi_wr, Int32.ofInt_add]) (by omega) rfl (fun rl2 hl2 => ?_)
  exact k (ok_set (ri_wr _) hL) hS hW H locs rl2 hP hSS (lv_mono hl2 (st_set1 (v := .inl (wr (z + n))) hlg))
theorem v_iadd (h : ctxB κ own cc d) {a b : Int} (hd : decode cc pc = .ok (.iadd, 1)) (k : VV κ (pc + 1) ls ((.inl (wr (b + a))) :: st) w) : VV κ pc ls ((.inl a) :: (.inl b) :: st) w := by
  obtain ⟨p, l, e, R, s, m, args, below, meth, c, cells, slots, Qs, G⟩ := κ
  obtain ⟨hx, hb, hown, hts, hlk, hK, hKU, hG, hfr, hlo, hce, hsl⟩ := h
  intro hL hS hW H locs rl hP hSS hl
  have ra := ok_h hS
  have rb := ok_h (ok_t hS)
  refine lv_iadd hx hb hd  ?_
  rw [oi_add]
  exact k hL (ok_c (ri_wr _) (ok_t (ok_t hS))) hW H locs rl hP hSS hl
theorem v_isub (h : ctxB κ own cc d) {a b : Int} (hd : decode cc pc = .ok (.isub, 1)) (k : VV κ (pc + 1) ls ((.inl (wr (b - a))) :: st) w) : VV κ pc ls ((.inl a) :: (.inl b) :: st) w := by
  obtain ⟨p, l, e, R, s, m, args, below, meth, c, cells, slots, Qs, G⟩ := κ
  obtain ⟨hx, hb, hown, hts, hlk, hK, hKU, hG, hfr, hlo, hce, hsl⟩ := h
  intro hL hS hW H locs rl hP hSS hl
  have ra := ok_h hS
  have rb := ok_h (ok_t hS)
  refine lv_isub hx hb hd  ?_
  rw [oi_sub]
  exact k hL (ok_c (ri_wr _) (ok_t (ok_t hS))) hW H locs rl hP hSS hl
theorem v_imul (h : ctxB κ own cc d) {a b : Int} (hd : decode cc pc = .ok (.imul, 1)) (k : VV κ (pc + 1) ls ((.inl (wr (b * a))) :: st) w) : VV κ pc ls ((.inl a) :: (.inl b) :: st) w := by
  obtain ⟨p, l, e, R, s, m, args, below, meth, c, cells, slots, Qs, G⟩ := κ
  obtain ⟨hx, hb, hown, hts, hlk, hK, hKU, hG, hfr, hlo, hce, hsl⟩ := h
  intro hL hS hW H locs rl hP hSS hl
  have ra := ok_h hS
  have rb := ok_h (ok_t hS)
  refine lv_imul hx hb hd  ?_
  rw [oi_mul]
  exact k hL (ok_c (ri_wr _) (ok_t (ok_t hS))) hW H locs rl hP hSS hl
theorem v_iand (h : ctxB κ own cc d) {a b : Int} (hd : decode cc pc = .ok (.iand, 1)) (k : VV κ (pc + 1) ls ((.inl (bAnd b a)) :: st) w) : VV κ pc ls ((.inl a) :: (.inl b) :: st) w := by
  obtain ⟨p, l, e, R, s, m, args, below, meth, c, cells, slots, Qs, G⟩ := κ
  obtain ⟨hx, hb, hown, hts, hlk, hK, hKU, hG, hfr, hlo, hce, hsl⟩ := h
  intro hL hS hW H locs rl hP hSS hl
  have ra := ok_h hS
  have rb := ok_h (ok_t hS)
  refine lv_iand hx hb hd  ?_
  rw [show Int32.ofInt b &&& Int32.ofInt a = Int32.ofInt (bAnd b a) from (oi_of _).symm]
  exact k hL (ok_c (ri_toInt _) (ok_t (ok_t hS))) hW H locs rl hP hSS hl
theorem v_ior (h : ctxB κ own cc d) {a b : Int} (hd : decode cc pc = .ok (.ior, 1)) (k : VV κ (pc + 1) ls ((.inl (bOr b a)) :: st) w) : VV κ pc ls ((.inl a) :: (.inl b) :: st) w := by
  obtain ⟨p, l, e, R, s, m, args, below, meth, c, cells, slots, Qs, G⟩ := κ
  obtain ⟨hx, hb, hown, hts, hlk, hK, hKU, hG, hfr, hlo, hce, hsl⟩ := h
  intro hL hS hW H locs rl hP hSS hl
  have ra := ok_h hS
  have rb := ok_h (ok_t hS)
  refine lv_ior hx hb hd  ?_
  rw [show Int32.ofInt b ||| Int32.ofInt a = Int32.ofInt (bOr b a) from (oi_of _).symm]
  exact k hL (ok_c (ri_toInt _) (ok_t (ok_t hS))) hW H locs rl hP hSS hl
theorem v_ixor (h : ctxB κ own cc d) {a b : Int} (hd : decode cc pc = .ok (.ixor, 1)) (k : VV κ (pc + 1) ls ((.inl (bXor b a)) :: st) w) : VV κ pc ls ((.inl a) :: (.inl b) :: st) w := by
  obtain ⟨p, l, e, R, s, m, args, below, meth, c, cells, slots, Qs, G⟩ := κ
  obtain ⟨hx, hb, hown, hts, hlk, hK, hKU, hG, hfr, hlo, hce, hsl⟩ := h
  intro hL hS hW H locs rl hP hSS hl
  have ra := ok_h hS
  have rb := ok_h (ok_t hS)
  refine lv_ixor hx hb hd  ?_
  rw [show Int32.ofInt b ^^^ Int32.ofInt a = Int32.ofInt (bXor b a) from (oi_of _).symm]
  exact k hL (ok_c (ri_toInt _) (ok_t (ok_t hS))) hW H locs rl hP hSS hl
theorem v_ishl (h : ctxB κ own cc d) {a b : Int} (hd : decode cc pc = .ok (.ishl, 1)) (k : VV κ (pc + 1) ls ((.inl (bShl b a)) :: st) w) : VV κ pc ls ((.inl a) :: (.inl b) :: st) w := by
  obtain ⟨p, l, e, R, s, m, args, below, meth, c, cells, slots, Qs, G⟩ := κ
  obtain ⟨hx, hb, hown, hts, hlk, hK, hKU, hG, hfr, hlo, hce, hsl⟩ := h
  intro hL hS hW H locs rl hP hSS hl
  have ra := ok_h hS
  have rb := ok_h (ok_t hS)
  refine lv_ishl hx hb hd  ?_
  rw [show Int32.ofInt b <<< (Int32.ofInt a &&& 31) = Int32.ofInt (bShl b a) from (oi_of _).symm]
  exact k hL (ok_c (ri_toInt _) (ok_t (ok_t hS))) hW H locs rl hP hSS hl
theorem v_ishr (h : ctxB κ own cc d) {a b : Int} (hd : decode cc pc = .ok (.ishr, 1)) (k : VV κ (pc + 1) ls ((.inl (bShr b a)) :: st) w) : VV κ pc ls ((.inl a) :: (.inl b) :: st) w := by
  obtain ⟨p, l, e, R, s, m, args, below, meth, c, cells, slots, Qs, G⟩ := κ
  obtain ⟨hx, hb, hown, hts, hlk, hK, hKU, hG, hfr, hlo, hce, hsl⟩ := h
  intro hL hS hW H locs rl hP hSS hl
  have ra := ok_h hS
  have rb := ok_h (ok_t hS)
  refine lv_ishr hx hb hd  ?_
  rw [show Int32.ofInt b >>> (Int32.ofInt a &&& 31) = Int32.ofInt (bShr b a) from (oi_of _).symm]
  exact k hL (ok_c (ri_toInt _) (ok_t (ok_t hS))) hW H locs rl hP hSS hl
theorem v_iushr (h : ctxB κ own cc d) {a b : Int} (hd : decode cc pc = .ok (.iushr, 1)) (k : VV κ (pc + 1) ls ((.inl (bUsh b a)) :: st) w) : VV κ pc ls ((.inl a) :: (.inl b) :: st) w := by
  obtain ⟨p, l, e, R, s, m, args, below, meth, c, cells, slots, Qs, G⟩ := κ
  obtain ⟨hx, hb, hown, hts, hlk, hK, hKU, hG, hfr, hlo, hce, hsl⟩ := h
  intro hL hS hW H locs rl hP hSS hl
  refine lv_iushr (v := Int32.ofInt (bUsh b a)) hx hb hd (oi_of _).symm ?_
  exact k hL (ok_c (ri_toInt _) (ok_t (ok_t hS))) hW H locs rl hP hSS hl
theorem v_idiv (h : ctxB κ own cc d) {a b : Int} (hne : a ≠ 0) (hd : decode cc pc = .ok (.idiv, 1)) (k : VV κ (pc + 1) ls ((.inl (wr (b.tdiv a))) :: st) w) : VV κ pc ls ((.inl a) :: (.inl b) :: st) w := by
  obtain ⟨p, l, e, R, s, m, args, below, meth, c, cells, slots, Qs, G⟩ := κ
  obtain ⟨hx, hb, hown, hts, hlk, hK, hKU, hG, hfr, hlo, hce, hsl⟩ := h
  intro hL hS hW H locs rl hP hSS hl
  have ra := ok_h hS
  have rb := ok_h (ok_t hS)
  refine lv_idiv hx hb hd (fun q => hne ((oi_inj (b := 0) ra (by unfold ri32; omega)).mp (q.trans oi_0.symm))) ?_
  rw [oi_div rb ra]
  exact k hL (ok_c (ri_wr _) (ok_t (ok_t hS))) hW H locs rl hP hSS hl
theorem v_idiv_n (h : ctxB κ own cc d) {a b : Int} (h0 : 0 ≤ b) (h1 : 0 < a) (hd : decode cc pc = .ok (.idiv, 1)) (k : VV κ (pc + 1) ls ((.inl (b / a)) :: st) w) : VV κ pc ls ((.inl a) :: (.inl b) :: st) w := by
  obtain ⟨p, l, e, R, s, m, args, below, meth, c, cells, slots, Qs, G⟩ := κ
  obtain ⟨hx, hb, hown, hts, hlk, hK, hKU, hG, hfr, hlo, hce, hsl⟩ := h
  intro hL hS hW H locs rl hP hSS hl
  have ra := ok_h hS
  have rb := ok_h (ok_t hS)
  have hne : a ≠ 0 := by omega
  refine lv_idiv hx hb hd (fun q => hne ((oi_inj (b := 0) ra (by unfold ri32; omega)).mp (q.trans oi_0.symm))) ?_
  rw [oi_divN rb ra h0 h1]
  exact k hL (ok_c (dv_r rb h0 h1) (ok_t (ok_t hS))) hW H locs rl hP hSS hl
theorem v_irem (h : ctxB κ own cc d) {a b : Int} (hne : a ≠ 0) (hd : decode cc pc = .ok (.irem, 1)) (k : VV κ (pc + 1) ls ((.inl (wr (b.tmod a))) :: st) w) : VV κ pc ls ((.inl a) :: (.inl b) :: st) w := by
  obtain ⟨p, l, e, R, s, m, args, below, meth, c, cells, slots, Qs, G⟩ := κ
  obtain ⟨hx, hb, hown, hts, hlk, hK, hKU, hG, hfr, hlo, hce, hsl⟩ := h
  intro hL hS hW H locs rl hP hSS hl
  have ra := ok_h hS
  have rb := ok_h (ok_t hS)
  refine lv_irem hx hb hd (fun q => hne ((oi_inj (b := 0) ra (by unfold ri32; omega)).mp (q.trans oi_0.symm))) ?_
  rw [oi_modG rb ra hne]
  exact k hL (ok_c (ri_wr _) (ok_t (ok_t hS))) hW H locs rl hP hSS hl
theorem v_irem_n (h : ctxB κ own cc d) {a b : Int} (h0 : 0 ≤ b) (h1 : 0 < a) (hd : decode cc pc = .ok (.irem, 1)) (k : VV κ (pc + 1) ls ((.inl (b % a)) :: st) w) : VV κ pc ls ((.inl a) :: (.inl b) :: st) w := by
  obtain ⟨p, l, e, R, s, m, args, below, meth, c, cells, slots, Qs, G⟩ := κ
  obtain ⟨hx, hb, hown, hts, hlk, hK, hKU, hG, hfr, hlo, hce, hsl⟩ := h
  intro hL hS hW H locs rl hP hSS hl
  have ra := ok_h hS
  have rb := ok_h (ok_t hS)
  have hne : a ≠ 0 := by omega
  refine lv_irem hx hb hd (fun q => hne ((oi_inj (b := 0) ra (by unfold ri32; omega)).mp (q.trans oi_0.symm))) ?_
  rw [oi_modN rb ra h0 h1]
  exact k hL (ok_c (md_r rb h0 h1) (ok_t (ok_t hS))) hW H locs rl hP hSS hl
theorem v_ladd (h : ctxB κ own cc d) {a b : Int} (hd : decode cc pc = .ok (.ladd, 1)) (k : VV κ (pc + 1) ls ((.inr (.inl (wrL (b + a)))) :: st) w) : VV κ pc ls ((.inr (.inl a)) :: (.inr (.inl b)) :: st) w := by
  obtain ⟨p, l, e, R, s, m, args, below, meth, c, cells, slots, Qs, G⟩ := κ
  obtain ⟨hx, hb, hown, hts, hlk, hK, hKU, hG, hfr, hlo, hce, hsl⟩ := h
  intro hL hS hW H locs rl hP hSS hl
  have ra := ok_h hS
  have rb := ok_h (ok_t hS)
  refine lv_ladd hx hb hd  ?_
  rw [ol_add]
  exact k hL (ok_c (ri_wrL _) (ok_t (ok_t hS))) hW H locs rl hP hSS hl
theorem v_lmul (h : ctxB κ own cc d) {a b : Int} (hd : decode cc pc = .ok (.lmul, 1)) (k : VV κ (pc + 1) ls ((.inr (.inl (wrL (b * a)))) :: st) w) : VV κ pc ls ((.inr (.inl a)) :: (.inr (.inl b)) :: st) w := by
  obtain ⟨p, l, e, R, s, m, args, below, meth, c, cells, slots, Qs, G⟩ := κ
  obtain ⟨hx, hb, hown, hts, hlk, hK, hKU, hG, hfr, hlo, hce, hsl⟩ := h
  intro hL hS hW H locs rl hP hSS hl
  have ra := ok_h hS
  have rb := ok_h (ok_t hS)
  refine lv_lmul hx hb hd  ?_
  rw [ol_mul]
  exact k hL (ok_c (ri_wrL _) (ok_t (ok_t hS))) hW H locs rl hP hSS hl
theorem v_ldiv_n (h : ctxB κ own cc d) {a b : Int} (h0 : 0 ≤ b) (h1 : 0 < a) (hd : decode cc pc = .ok (.ldiv, 1)) (k : VV κ (pc + 1) ls ((.inr (.inl (b / a))) :: st) w) : VV κ pc ls ((.inr (.inl a)) :: (.inr (.inl b)) :: st) w := by
  obtain ⟨p, l, e, R, s, m, args, below, meth, c, cells, slots, Qs, G⟩ := κ
  obtain ⟨hx, hb, hown, hts, hlk, hK, hKU, hG, hfr, hlo, hce, hsl⟩ := h
  intro hL hS hW H locs rl hP hSS hl
  have ra := ok_h hS
  have rb := ok_h (ok_t hS)
  have hne : a ≠ 0 := by omega
  refine lv_ldiv hx hb hd (fun q => hne ((ol_inj (b := 0) ra (by unfold ri64; omega)).mp (q.trans (show (0 : Int64) = Int64.ofInt 0 from rfl)))) ?_
  rw [ol_divN rb ra h0 h1]
  exact k hL (ok_c (dv_rL rb h0 h1) (ok_t (ok_t hS))) hW H locs rl hP hSS hl
theorem v_lrem_n (h : ctxB κ own cc d) {a b : Int} (h0 : 0 ≤ b) (h1 : 0 < a) (hd : decode cc pc = .ok (.lrem, 1)) (k : VV κ (pc + 1) ls ((.inr (.inl (b % a))) :: st) w) : VV κ pc ls ((.inr (.inl a)) :: (.inr (.inl b)) :: st) w := by
  obtain ⟨p, l, e, R, s, m, args, below, meth, c, cells, slots, Qs, G⟩ := κ
  obtain ⟨hx, hb, hown, hts, hlk, hK, hKU, hG, hfr, hlo, hce, hsl⟩ := h
  intro hL hS hW H locs rl hP hSS hl
  have ra := ok_h hS
  have rb := ok_h (ok_t hS)
  have hne : a ≠ 0 := by omega
  refine lv_lrem hx hb hd (fun q => hne ((ol_inj (b := 0) ra (by unfold ri64; omega)).mp (q.trans (show (0 : Int64) = Int64.ofInt 0 from rfl)))) ?_
  rw [ol_modN rb ra h0 h1]
  exact k hL (ok_c (md_rL rb h0 h1) (ok_t (ok_t hS))) hW H locs rl hP hSS hl
theorem v_ldiv (h : ctxB κ own cc d) {a b : Int} (hne : a ≠ 0) (hd : decode cc pc = .ok (.ldiv, 1)) (k : VV κ (pc + 1) ls ((.inr (.inl (wrL (b.tdiv a)))) :: st) w) : VV κ pc ls ((.inr (.inl a)) :: (.inr (.inl b)) :: st) w := by
  obtain ⟨p, l, e, R, s, m, args, below, meth, c, cells, slots, Qs, G⟩ := κ
  obtain ⟨hx, hb, hown, hts, hlk, hK, hKU, hG, hfr, hlo, hce, hsl⟩ := h
  intro hL hS hW H locs rl hP hSS hl
  have ra := ok_h hS
  have rb := ok_h (ok_t hS)
  refine lv_ldiv hx hb hd (fun q => hne ((ol_inj (b := 0) ra (by unfold ri64; omega)).mp (q.trans (show (0 : Int64) = Int64.ofInt 0 from rfl)))) ?_
  rw [ol_div rb ra]
  exact k hL (ok_c (ri_wrL _) (ok_t (ok_t hS))) hW H locs rl hP hSS hl
theorem v_lrem (h : ctxB κ own cc d) {a b : Int} (hne : a ≠ 0) (hd : decode cc pc = .ok (.lrem, 1)) (k : VV κ (pc + 1) ls ((.inr (.inl (wrL (b.tmod a)))) :: st) w) : VV κ pc ls ((.inr (.inl a)) :: (.inr (.inl b)) :: st) w := by
  obtain ⟨p, l, e, R, s, m, args, below, meth, c, cells, slots, Qs, G⟩ := κ
  obtain ⟨hx, hb, hown, hts, hlk, hK, hKU, hG, hfr, hlo, hce, hsl⟩ := h
  intro hL hS hW H locs rl hP hSS hl
  have ra := ok_h hS
  have rb := ok_h (ok_t hS)
  refine lv_lrem hx hb hd (fun q => hne ((ol_inj (b := 0) ra (by unfold ri64; omega)).mp (q.trans (show (0 : Int64) = Int64.ofInt 0 from rfl)))) ?_
  rw [ol_modG rb ra hne]
  exact k hL (ok_c (ri_wrL _) (ok_t (ok_t hS))) hW H locs rl hP hSS hl
theorem v_lcmp (h : ctxB κ own cc d) {a b : Int} (hd : decode cc pc = .ok (.lcmp, 1)) (k : VV κ (pc + 1) ls ((.inl (cmpL b a)) :: st) w) : VV κ pc ls ((.inr (.inl a)) :: (.inr (.inl b)) :: st) w := by
  obtain ⟨p, l, e, R, s, m, args, below, meth, c, cells, slots, Qs, G⟩ := κ
  obtain ⟨hx, hb, hown, hts, hlk, hK, hKU, hG, hfr, hlo, hce, hsl⟩ := h
  intro hL hS hW H locs rl hP hSS hl
  have ra := ok_h hS
  have rb := ok_h (ok_t hS)
  refine W.lcmp hx hb hd ?_
  rw [show lg_cmp (Int64.ofInt b) (Int64.ofInt a) = Int32.ofInt (cmpL b a) from lg_oi rb ra]
  exact k hL (ok_c (cmpL_r b a) (ok_t (ok_t hS))) hW H locs rl hP hSS hl
theorem v_i2l (h : ctxB κ own cc d) {a : Int} (hd : decode cc pc = .ok (.i2l, 1)) (k : VV κ (pc + 1) ls ((.inr (.inl a)) :: st) w) : VV κ pc ls ((.inl a) :: st) w := by
  obtain ⟨p, l, e, R, s, m, args, below, meth, c, cells, slots, Qs, G⟩ := κ
  obtain ⟨hx, hb, hown, hts, hlk, hK, hKU, hG, hfr, hlo, hce, hsl⟩ := h
  intro hL hS hW H locs rl hP hSS hl
  have ra : ri32 a := ok_h hS
  refine lv_i2l (v := Int64.ofInt a) hx hb hd (oi_il ra) ?_
  exact k hL (ok_c (show ri64 a by unfold ri32 at ra; unfold ri64; omega) (ok_t hS)) hW H locs rl hP hSS hl
theorem v_l2i (h : ctxB κ own cc d) {a : Int} (hd : decode cc pc = .ok (.l2i, 1)) (k : VV κ (pc + 1) ls ((.inl (wr a)) :: st) w) : VV κ pc ls ((.inr (.inl a)) :: st) w := by
  obtain ⟨p, l, e, R, s, m, args, below, meth, c, cells, slots, Qs, G⟩ := κ
  obtain ⟨hx, hb, hown, hts, hlk, hK, hKU, hG, hfr, hlo, hce, hsl⟩ := h
  intro hL hS hW H locs rl hP hSS hl
  refine lv_l2i (v := Int32.ofInt (wr a)) hx hb hd (ol_li a) ?_
  exact k hL (ok_c (ri_wr _) (ok_t hS)) hW H locs rl hP hSS hl
theorem v_dup (h : ctxB κ own cc d) {v : MV} (hd : decode cc pc = .ok (.dup, 1)) (hv : lgv v = false) (k : VV κ (pc + 1) ls (v :: v :: st) w) : VV κ pc ls (v :: st) w := by
  obtain ⟨p, l, e, R, s, m, args, below, meth, c, cells, slots, Qs, G⟩ := κ
  obtain ⟨hx, hb, hown, hts, hlk, hK, hKU, hG, hfr, hlo, hce, hsl⟩ := h
  intro hL hS hW H locs rl hP hSS hl
  refine lv_dup hx hb hd (rv_cat1 G hv) ?_
  exact k hL (ok_c (ok_h hS) hS) hW H locs rl hP hSS hl
theorem v_pop (h : ctxB κ own cc d) {v : MV} (hd : decode cc pc = .ok (.pop, 1)) (hv : lgv v = false) (k : VV κ (pc + 1) ls st w) : VV κ pc ls (v :: st) w := by
  obtain ⟨p, l, e, R, s, m, args, below, meth, c, cells, slots, Qs, G⟩ := κ
  obtain ⟨hx, hb, hown, hts, hlk, hK, hKU, hG, hfr, hlo, hce, hsl⟩ := h
  intro hL hS hW H locs rl hP hSS hl
  refine lv_pop hx hb hd (rv_cat1 G hv) ?_
  exact k hL (ok_t hS) hW H locs rl hP hSS hl
theorem v_dup2 (h : ctxB κ own cc d) {v u : MV} (hd : decode cc pc = .ok (.dup2, 1)) (hv : lgv v = false) (hu : lgv u = false) (k : VV κ (pc + 1) ls (v :: u :: v :: u :: st) w) : VV κ pc ls (v :: u :: st) w := by
  obtain ⟨p, l, e, R, s, m, args, below, meth, c, cells, slots, Qs, G⟩ := κ
  obtain ⟨hx, hb, hown, hts, hlk, hK, hKU, hG, hfr, hlo, hce, hsl⟩ := h
  intro hL hS hW H locs rl hP hSS hl
  refine lv_dup2_11 hx hb hd (rv_cat1 G hv) (rv_cat1 G hu) ?_
  exact k hL (ok_c (ok_h hS) (ok_c (ok_h (ok_t hS)) hS)) hW H locs rl hP hSS hl
theorem v_dup2L (h : ctxB κ own cc d) {z : Int} (hd : decode cc pc = .ok (.dup2, 1)) (k : VV κ (pc + 1) ls (.inr (.inl z) :: .inr (.inl z) :: st) w) : VV κ pc ls (.inr (.inl z) :: st) w := by
  obtain ⟨p, l, e, R, s, m, args, below, meth, c, cells, slots, Qs, G⟩ := κ
  obtain ⟨hx, hb, hown, hts, hlk, hK, hKU, hG, hfr, hlo, hce, hsl⟩ := h
  intro hL hS hW H locs rl hP hSS hl
  refine lv_dup2_2 hx hb hd rfl ?_
  exact k hL (ok_c (ok_h hS) hS) hW H locs rl hP hSS hl
theorem v_if_eq (h : ctxB κ own cc d) {a : Int} {off : Int} {tgt : Nat} (hd : decode cc pc = .ok (.ifCond .eq off, 3)) (ht : (pc : Int) + off = (tgt : Int)) (kt : a = 0 → VV κ tgt ls st w) (kf : ¬ (a = 0) → VV κ (pc + 3) ls st w) : VV κ pc ls ((.inl a) :: st) w := by
  obtain ⟨p, l, e, R, s, m, args, below, meth, c, cells, slots, Qs, G⟩ := κ
  obtain ⟨hx, hb, hown, hts, hlk, hK, hKU, hG, hfr, hlo, hce, hsl⟩ := h
  intro hL hS hW H locs rl hP hSS hl
  have ra : ri32 a := ok_h hS
  have r0 : ri32 0 := by unfold ri32; omega
  refine lv_if_eq hx hb hd ht (fun q => ?_) (fun q => ?_)
  · exact kt ((oi_inj ra r0).mp (q.trans oi_0.symm)) hL (ok_t hS) hW H locs rl hP hSS hl
  · exact kf (fun z => q (((oi_inj ra r0).mpr z).trans oi_0)) hL (ok_t hS) hW H locs rl hP hSS hl
theorem v_ic_eq (h : ctxB κ own cc d) {a b : Int} {off : Int} {tgt : Nat} (hd : decode cc pc = .ok (.if_icmp .eq off, 3)) (ht : (pc : Int) + off = (tgt : Int)) (kt : b = a → VV κ tgt ls st w) (kf : ¬ (b = a) → VV κ (pc + 3) ls st w) : VV κ pc ls ((.inl a) :: (.inl b) :: st) w := by
  obtain ⟨p, l, e, R, s, m, args, below, meth, c, cells, slots, Qs, G⟩ := κ
  obtain ⟨hx, hb, hown, hts, hlk, hK, hKU, hG, hfr, hlo, hce, hsl⟩ := h
  intro hL hS hW H locs rl hP hSS hl
  have ra : ri32 a := ok_h hS
  have rb : ri32 b := ok_h (ok_t hS)
  refine lv_icmp_eq hx hb hd ht (fun q => ?_) (fun q => ?_)
  · exact kt ((oi_inj rb ra).mp q) hL (ok_t (ok_t hS)) hW H locs rl hP hSS hl
  · exact kf (fun z => q ((oi_inj rb ra).mpr z)) hL (ok_t (ok_t hS)) hW H locs rl hP hSS hl
theorem v_if_ne (h : ctxB κ own cc d) {a : Int} {off : Int} {tgt : Nat} (hd : decode cc pc = .ok (.ifCond .ne off, 3)) (ht : (pc : Int) + off = (tgt : Int)) (kt : ¬ a = 0 → VV κ tgt ls st w) (kf : a = 0 → VV κ (pc + 3) ls st w) : VV κ pc ls ((.inl a) :: st) w := by
  obtain ⟨p, l, e, R, s, m, args, below, meth, c, cells, slots, Qs, G⟩ := κ
  obtain ⟨hx, hb, hown, hts, hlk, hK, hKU, hG, hfr, hlo, hce, hsl⟩ := h
  intro hL hS hW H locs rl hP hSS hl
  have ra : ri32 a := ok_h hS
  have r0 : ri32 0 := by unfold ri32; omega
  refine lv_if_ne hx hb hd ht (fun q => ?_) (fun q => ?_)
  · exact kt (fun z => q (((oi_inj ra r0).mpr z).trans oi_0)) hL (ok_t hS) hW H locs rl hP hSS hl
  · exact kf ((oi_inj ra r0).mp (q.trans oi_0.symm)) hL (ok_t hS) hW H locs rl hP hSS hl
theorem v_ic_ne (h : ctxB κ own cc d) {a b : Int} {off : Int} {tgt : Nat} (hd : decode cc pc = .ok (.if_icmp .ne off, 3)) (ht : (pc : Int) + off = (tgt : Int)) (kt : ¬ b = a → VV κ tgt ls st w) (kf : b = a → VV κ (pc + 3) ls st w) : VV κ pc ls ((.inl a) :: (.inl b) :: st) w := by
  obtain ⟨p, l, e, R, s, m, args, below, meth, c, cells, slots, Qs, G⟩ := κ
  obtain ⟨hx, hb, hown, hts, hlk, hK, hKU, hG, hfr, hlo, hce, hsl⟩ := h
  intro hL hS hW H locs rl hP hSS hl
  have ra : ri32 a := ok_h hS
  have rb : ri32 b := ok_h (ok_t hS)
  refine lv_icmp_ne hx hb hd ht (fun q => ?_) (fun q => ?_)
  · exact kt (fun z => q ((oi_inj rb ra).mpr z)) hL (ok_t (ok_t hS)) hW H locs rl hP hSS hl
  · exact kf ((oi_inj rb ra).mp q) hL (ok_t (ok_t hS)) hW H locs rl hP hSS hl
theorem v_if_lt (h : ctxB κ own cc d) {a : Int} {off : Int} {tgt : Nat} (hd : decode cc pc = .ok (.ifCond .lt off, 3)) (ht : (pc : Int) + off = (tgt : Int)) (kt : a < 0 → VV κ tgt ls st w) (kf : ¬ (a < 0) → VV κ (pc + 3) ls st w) : VV κ pc ls ((.inl a) :: st) w := by
  obtain ⟨p, l, e, R, s, m, args, below, meth, c, cells, slots, Qs, G⟩ := κ
  obtain ⟨hx, hb, hown, hts, hlk, hK, hKU, hG, hfr, hlo, hce, hsl⟩ := h
  intro hL hS hW H locs rl hP hSS hl
  have ra : ri32 a := ok_h hS
  have r0 : ri32 0 := by unfold ri32; omega
  refine lv_if_lt hx hb hd ht (fun q => ?_) (fun q => ?_)
  · exact kt ((oi_lt ra r0).mp q) hL (ok_t hS) hW H locs rl hP hSS hl
  · exact kf (fun z => q ((oi_lt ra r0).mpr z)) hL (ok_t hS) hW H locs rl hP hSS hl
theorem v_ic_lt (h : ctxB κ own cc d) {a b : Int} {off : Int} {tgt : Nat} (hd : decode cc pc = .ok (.if_icmp .lt off, 3)) (ht : (pc : Int) + off = (tgt : Int)) (kt : b < a → VV κ tgt ls st w) (kf : ¬ (b < a) → VV κ (pc + 3) ls st w) : VV κ pc ls ((.inl a) :: (.inl b) :: st) w := by
  obtain ⟨p, l, e, R, s, m, args, below, meth, c, cells, slots, Qs, G⟩ := κ
  obtain ⟨hx, hb, hown, hts, hlk, hK, hKU, hG, hfr, hlo, hce, hsl⟩ := h
  intro hL hS hW H locs rl hP hSS hl
  have ra : ri32 a := ok_h hS
  have rb : ri32 b := ok_h (ok_t hS)
  refine lv_icmp_lt hx hb hd ht (fun q => ?_) (fun q => ?_)
  · exact kt ((oi_lt rb ra).mp q) hL (ok_t (ok_t hS)) hW H locs rl hP hSS hl
  · exact kf (fun z => q ((oi_lt rb ra).mpr z)) hL (ok_t (ok_t hS)) hW H locs rl hP hSS hl
theorem v_if_ge (h : ctxB κ own cc d) {a : Int} {off : Int} {tgt : Nat} (hd : decode cc pc = .ok (.ifCond .ge off, 3)) (ht : (pc : Int) + off = (tgt : Int)) (kt : 0 ≤ a → VV κ tgt ls st w) (kf : ¬ (0 ≤ a) → VV κ (pc + 3) ls st w) : VV κ pc ls ((.inl a) :: st) w := by
  obtain ⟨p, l, e, R, s, m, args, below, meth, c, cells, slots, Qs, G⟩ := κ
  obtain ⟨hx, hb, hown, hts, hlk, hK, hKU, hG, hfr, hlo, hce, hsl⟩ := h
  intro hL hS hW H locs rl hP hSS hl
  have ra : ri32 a := ok_h hS
  have r0 : ri32 0 := by unfold ri32; omega
  refine lv_if_ge hx hb hd ht (fun q => ?_) (fun q => ?_)
  · exact kt ((oi_le r0 ra).mp q) hL (ok_t hS) hW H locs rl hP hSS hl
  · exact kf (fun z => q ((oi_le r0 ra).mpr z)) hL (ok_t hS) hW H locs rl hP hSS hl
theorem v_ic_ge (h : ctxB κ own cc d) {a b : Int} {off : Int} {tgt : Nat} (hd : decode cc pc = .ok (.if_icmp .ge off, 3)) (ht : (pc : Int) + off = (tgt : Int)) (kt : a ≤ b → VV κ tgt ls st w) (kf : ¬ (a ≤ b) → VV κ (pc + 3) ls st w) : VV κ pc ls ((.inl a) :: (.inl b) :: st) w := by
  obtain ⟨p, l, e, R, s, m, args, below, meth, c, cells, slots, Qs, G⟩ := κ
  obtain ⟨hx, hb, hown, hts, hlk, hK, hKU, hG, hfr, hlo, hce, hsl⟩ := h
  intro hL hS hW H locs rl hP hSS hl
  have ra : ri32 a := ok_h hS
  have rb : ri32 b := ok_h (ok_t hS)
  refine lv_icmp_ge hx hb hd ht (fun q => ?_) (fun q => ?_)
  · exact kt ((oi_le ra rb).mp q) hL (ok_t (ok_t hS)) hW H locs rl hP hSS hl
  · exact kf (fun z => q ((oi_le ra rb).mpr z)) hL (ok_t (ok_t hS)) hW H locs rl hP hSS hl
theorem v_if_gt (h : ctxB κ own cc d) {a : Int} {off : Int} {tgt : Nat} (hd : decode cc pc = .ok (.ifCond .gt off, 3)) (ht : (pc : Int) + off = (tgt : Int)) (kt : 0 < a → VV κ tgt ls st w) (kf : ¬ (0 < a) → VV κ (pc + 3) ls st w) : VV κ pc ls ((.inl a) :: st) w := by
  obtain ⟨p, l, e, R, s, m, args, below, meth, c, cells, slots, Qs, G⟩ := κ
  obtain ⟨hx, hb, hown, hts, hlk, hK, hKU, hG, hfr, hlo, hce, hsl⟩ := h
  intro hL hS hW H locs rl hP hSS hl
  have ra : ri32 a := ok_h hS
  have r0 : ri32 0 := by unfold ri32; omega
  refine lv_if_gt hx hb hd ht (fun q => ?_) (fun q => ?_)
  · exact kt ((oi_lt r0 ra).mp q) hL (ok_t hS) hW H locs rl hP hSS hl
  · exact kf (fun z => q ((oi_lt r0 ra).mpr z)) hL (ok_t hS) hW H locs rl hP hSS hl
theorem v_ic_gt (h : ctxB κ own cc d) {a b : Int} {off : Int} {tgt : Nat} (hd : decode cc pc = .ok (.if_icmp .gt off, 3)) (ht : (pc : Int) + off = (tgt : Int)) (kt : a < b → VV κ tgt ls st w) (kf : ¬ (a < b) → VV κ (pc + 3) ls st w) : VV κ pc ls ((.inl a) :: (.inl b) :: st) w := by
  obtain ⟨p, l, e, R, s, m, args, below, meth, c, cells, slots, Qs, G⟩ := κ
  obtain ⟨hx, hb, hown, hts, hlk, hK, hKU, hG, hfr, hlo, hce, hsl⟩ := h
  intro hL hS hW H locs rl hP hSS hl
  have ra : ri32 a := ok_h hS
  have rb : ri32 b := ok_h (ok_t hS)
  refine lv_icmp_gt hx hb hd ht (fun q => ?_) (fun q => ?_)
  · exact kt ((oi_lt ra rb).mp q) hL (ok_t (ok_t hS)) hW H locs rl hP hSS hl
  · exact kf (fun z => q ((oi_lt ra rb).mpr z)) hL (ok_t (ok_t hS)) hW H locs rl hP hSS hl
theorem v_if_le (h : ctxB κ own cc d) {a : Int} {off : Int} {tgt : Nat} (hd : decode cc pc = .ok (.ifCond .le off, 3)) (ht : (pc : Int) + off = (tgt : Int)) (kt : a ≤ 0 → VV κ tgt ls st w) (kf : ¬ (a ≤ 0) → VV κ (pc + 3) ls st w) : VV κ pc ls ((.inl a) :: st) w := by
  obtain ⟨p, l, e, R, s, m, args, below, meth, c, cells, slots, Qs, G⟩ := κ
  obtain ⟨hx, hb, hown, hts, hlk, hK, hKU, hG, hfr, hlo, hce, hsl⟩ := h
  intro hL hS hW H locs rl hP hSS hl
  have ra : ri32 a := ok_h hS
  have r0 : ri32 0 := by unfold ri32; omega
  refine lv_if_le hx hb hd ht (fun q => ?_) (fun q => ?_)
  · exact kt ((oi_le ra r0).mp q) hL (ok_t hS) hW H locs rl hP hSS hl
  · exact kf (fun z => q ((oi_le ra r0).mpr z)) hL (ok_t hS) hW H locs rl hP hSS hl
theorem v_ic_le (h : ctxB κ own cc d) {a b : Int} {off : Int} {tgt : Nat} (hd : decode cc pc = .ok (.if_icmp .le off, 3)) (ht : (pc : Int) + off = (tgt : Int)) (kt : b ≤ a → VV κ tgt ls st w) (kf : ¬ (b ≤ a) → VV κ (pc + 3) ls st w) : VV κ pc ls ((.inl a) :: (.inl b) :: st) w := by
  obtain ⟨p, l, e, R, s, m, args, below, meth, c, cells, slots, Qs, G⟩ := κ
  obtain ⟨hx, hb, hown, hts, hlk, hK, hKU, hG, hfr, hlo, hce, hsl⟩ := h
  intro hL hS hW H locs rl hP hSS hl
  have ra : ri32 a := ok_h hS
  have rb : ri32 b := ok_h (ok_t hS)
  refine lv_icmp_le hx hb hd ht (fun q => ?_) (fun q => ?_)
  · exact kt ((oi_le rb ra).mp q) hL (ok_t (ok_t hS)) hW H locs rl hP hSS hl
  · exact kf (fun z => q ((oi_le rb ra).mpr z)) hL (ok_t (ok_t hS)) hW H locs rl hP hSS hl
theorem v_goto (h : ctxB κ own cc d) {off : Int} {tgt : Nat} (hd : decode cc pc = .ok (.goto off, 3)) (ht : (pc : Int) + off = (tgt : Int)) (k : VV κ tgt ls st w) : VV κ pc ls st w := by
  obtain ⟨p, l, e, R, s, m, args, below, meth, c, cells, slots, Qs, G⟩ := κ
  obtain ⟨hx, hb, hown, hts, hlk, hK, hKU, hG, hfr, hlo, hce, hsl⟩ := h
  intro hL hS hW H locs rl hP hSS hl
  refine lv_goto hx hb hd ht ?_
  exact k hL hS hW H locs rl hP hSS hl
theorem v_tsOut (h : ctxB κ own cc d) {a dflt lo hi : Int} {offs : Array Int} {len tgt : Nat} (hd : decode cc pc = .ok (.tableswitch dflt lo hi offs, len)) (hr : a < lo ∨ hi < a) (ht : (pc : Int) + dflt = (tgt : Int)) (k : VV κ tgt ls st w) : VV κ pc ls ((.inl a) :: st) w := by
  obtain ⟨p, l, e, R, s, m, args, below, meth, c, cells, slots, Qs, G⟩ := κ
  obtain ⟨hx, hb, hown, hts, hlk, hK, hKU, hG, hfr, hlo, hce, hsl⟩ := h
  intro hL hS hW H locs rl hP hSS hl
  have ra : ri32 a := ok_h hS
  refine lv_tableOut hx hb hd (by rw [oi_id ra]; exact hr) ht ?_
  exact k hL (ok_t hS) hW H locs rl hP hSS hl
theorem v_tsIn (h : ctxB κ own cc d) {a dflt lo hi : Int} {offs : Array Int} {off : Int} {len tgt : Nat} (hd : decode cc pc = .ok (.tableswitch dflt lo hi offs, len)) (h1 : lo ≤ a) (h2 : a ≤ hi) (ho : offs[(a - lo).toNat]? = some off) (ht : (pc : Int) + off = (tgt : Int)) (k : VV κ tgt ls st w) : VV κ pc ls ((.inl a) :: st) w := by
  obtain ⟨p, l, e, R, s, m, args, below, meth, c, cells, slots, Qs, G⟩ := κ
  obtain ⟨hx, hb, hown, hts, hlk, hK, hKU, hG, hfr, hlo, hce, hsl⟩ := h
  intro hL hS hW H locs rl hP hSS hl
  have ra : ri32 a := ok_h hS
  refine lv_tableIn hx hb hd (by rw [oi_id ra]; omega) (by rw [oi_id ra]; omega) (by rw [oi_id ra]; exact ho) ht ?_
  exact k hL (ok_t hS) hW H locs rl hP hSS hl
end RULES
