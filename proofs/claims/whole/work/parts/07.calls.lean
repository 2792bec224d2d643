
abbrev MD : Type := MethodName × ByteArray × Nat × Option FieldType
def WSm (μ : MD) : List Cond := .code μ.1 μ.2.1 μ.2.2.1 μ.2.2.2 :: BIG
def rmD (d : Nat) : Room := { frames := d, cells := 0, slots := 0, locals := 35 * d }
def PreU (G : Geo) (w : Wd) (U : State) : Prop := va_P G.2.1 vwCl (cellsT G w) U.heap ∧ va_K G.2.1 vwCl (tysT G) U ∧ KU G U U.heap
def Call (d : Nat) (μ : MD) (as : List MV) (w : Wd) (Q : Option MV → Wd → Prop) : Prop :=
  (∀ v, v ∈ as → okv v) → rngW w → ∀ (l : Launch) (G : Geo), GeoOK G → Met l μ.1 (WSm μ) (rmD d) (va_Pc (as.map (rv G)) (PreU G w)) (QC G Q) 0 0 (AG G)
theorem KU_moved {G : Geo} {u U : State} {H : Heap} (hvm : u.vm = U.vm) (h : KU G u H) : KU G U H := by
  have ha : u.vm.Alike U.vm := by rw [hvm]; exact Vm.Alike.refl _
  obtain ⟨h1, h2, h3, h4, h5, h6, h7⟩ := h
  refine ⟨h1.moved ha, h2.moved ha, fun w hw => ?_, h4.moved ha, fun q hq => (h5 q hq).same hvm.symm, h6.moved ha, h7.moved ha⟩
  have hn := (List.mem_filter.mp hw).2
  have h0 := h3 w hw
  cases w <;> first | exact h0.same rfl hvm | exact absurd hn Bool.false_ne_true
theorem KU_warm {G : Geo} {s U : State} {H : Heap} (hWm : s.WarmedH U.vm) (h : KU G s H) : KU G U H := by
  have ha : s.vm.Alike U.vm := hWm.alike
  obtain ⟨h1, h2, h3, h4, h5, h6, h7⟩ := h
  refine ⟨h1.moved ha, h2.moved ha, fun w hw => ?_, h4.moved ha, fun q hq => (h5 q hq).warm hWm, h6.moved ha, h7.moved ha⟩
  have hn := (List.mem_filter.mp hw).2
  have h0 := h3 w hw
  cases w <;> first | exact h0.warmM hWm | exact absurd hn Bool.false_ne_true
theorem KU_kept {G : Geo} {U : State} {H H1 : Heap} (h : KU G U H) (hq : ∀ a : Nat, a < H.size → ¬ AG G a → H1[a]? = H[a]?) : KU G U H1 := by
  obtain ⟨h1, h2, h3, h4, h5, h6, h7⟩ := h
  exact ⟨h1.kept hq, h2.kept hq, h3, h4.kept hq, h5, h6.kept hq, h7.kept hq⟩
theorem Pre_blind {G : Geo} {w : Wd} {as : List Value} : FrameBlind (va_Pc as (PreU G w)) := by
  intro a U g mk h
  obtain ⟨h0, h1, h2, h3⟩ := h
  exact ⟨h0, h1, va_K.moved (u := U) (U := U.calling g mk a) (Vm.Alike.refl U.vm) h2, KU_moved (u := U) (U := U.calling g mk a) rfl h3⟩
theorem Pre_at {G : Geo} {w : Wd} {s U : State} {H : Heap} {locs : List Loc} (hP : va_P G.2.1 vwCl (cellsT G w) H) (hK : va_K G.2.1 vwCl (tysT G) s) (hKU : KU G s s.heap) (hSS : va_S (AG G) s.heap H locs) (hU : U.heap = H) (hWm : s.WarmedH U.vm) : PreU G w U :=
  ⟨by rw [hU]; exact hP, va_K.moved hWm.alike hK, by rw [hU]; exact KU_warm hWm (KU_kept hKU hSS.2.1)⟩
theorem run_on {p : Program} {l : Launch} {e : Env} {R : Room} {s : State} {m : MethodId} {args : Array Value} {below : List Frame} {meth : Method} {c : Code} {H : Heap} {locs : List Loc} {cells slots : Nat} {Qs : State → Prop} {G : Geo} {pc : Nat} {rl : Array Slot} {rest st0 : List Value} {a : Array Value} {Q : Option MV → Wd → Prop}
    (hr : va_Run p l e R s m args below meth c H locs cells slots 0 0 (F0 m pc rl st0) rest (QC G Q a) (AG G)) (hS : va_S (AG G) s.heap H locs)
    (kk : ∀ (r : Option MV) (w : Wd) (H1 : Heap) (locs1 : List Loc), (∀ v, r = some v → okv v) → Q r w → rngW w → va_P G.2.1 vwCl (cellsT G w) H1 → va_S (AG G) s.heap H1 locs1 → W p l e R s m args below meth c H1 locs1 cells slots Qs (F0 m (pc + 3) rl ((r.map (rv G)).toList ++ rest))) :
    W p l e R s m args below meth c H locs cells slots Qs (F0 m pc rl st0) := by
  intro T hT X
  obtain ⟨v, st₀, t, T', L, h0, X', hL, e1, e2, ⟨⟨r, w, hv, hok, hq, hw, hp⟩, hz, hk⟩, st⟩ := hr T hT X
  cases hv
  rw [h0] at hz hk
  obtain ⟨t2, a1, b1⟩ := kk r w T'.heap (locs ++ L) hok hq hw (by rw [e1]; exact hp)
    ⟨Nat.le_trans hS.1 (by rw [e1]; exact hz), fun q h1 h2 => by rw [e1, hk q (Nat.lt_of_lt_of_le h1 hS.1) h2]; exact hS.2.1 q h1 h2, fun q hq => by
      rcases List.mem_append.mp hq with h | h
      · exact hS.2.2 q h
      · exact hL q h⟩ T' rfl X'
  exact ⟨t2, st t2 a1, b1⟩
def pushR : Option MV → List MV → List MV
  | none, st => st
  | some v, st => v :: st
theorem pushR_map (G : Geo) (r : Option MV) (st : List MV) : (pushR r st).map (rv G) = (r.map (rv G)).toList ++ st.map (rv G) := by cases r <;> rfl
theorem pushR_ok {r : Option MV} {st : List MV} (h1 : ∀ v, r = some v → okv v) (h2 : ∀ v, v ∈ st → okv v) : ∀ v, v ∈ pushR r st → okv v := by
  cases r with
  | none => exact h2
  | some v => exact ok_c (h1 v rfl) h2
def wtS (st : List MV) : Nat := (st.map (fun v => if lgv v then 2 else 1)).sum
theorem wtS_rv (G : Geo) (st : List MV) : ((st.map (rv G)).map fun v => v.category).sum = wtS st := by
  unfold wtS
  rw [List.map_map]
  congr 1
  apply List.map_congr_left
  intro v _
  show (rv G v).category = _
  by_cases h : lgv v = true
  · rw [rv_cat2 G h, if_pos h]
  · rw [rv_cat1 G (by simpa using h), if_neg h]
/-- what a call needs of the tables -/
def cOK (μ : MD) (n : Nat) : Prop := Cond.code μ.1 μ.2.1 μ.2.2.1 μ.2.2.2 ∈ BIG ∧ Cond.initialized μ.1.cls ∈ BIG ∧ (μ.1.cls ≠ "java/lang/invoke/MethodHandle" ∧ μ.1.cls ≠ "java/lang/invoke/VarHandle" ∧ (parseMethodDescriptor μ.1.desc).map (fun d => d.parameters.length) = some n) ∧ μ.2.2.1 ≤ 16
def Sta (own : String) (idx : Nat) (μ : MD) (n : Nat) : Prop := Cond.methodLink own idx μ.1 ∈ BIG ∧ Cond.static μ.1 ∈ BIG ∧ cOK μ n
def StaN (own : String) (idx : Nat) (μ : MD) (host : String) (n : Nat) : Prop := Cond.methodLinkNest own idx μ.1 host ∈ nestW ∧ Cond.static μ.1 ∈ BIG ∧ cOK μ n
def Vir (own : String) (idx : Nat) (μ : MD) (ci n : Nat) : Prop := Cond.methodLink own idx μ.1 ∈ BIG ∧ Cond.instanceMethod μ.1 ∈ BIG ∧ Cond.selects μ.1.cls μ.1 μ.1 ∈ BIG ∧ (vwCl[ci]?).map (fun q => q.1) = some μ.1.cls ∧ cOK μ n
theorem WSm_good {μ : MD} {n : Nat} (h : cOK μ n) : GoodIn BIG (WSm μ) := by
  intro w hw
  rcases List.mem_cons.mp hw with rfl | hw
  · exact BIG_good _ h.1
  · exact BIG_good w hw
theorem v_staG {κ : Kx} {own : String} {cc : ByteArray} {d pc : Nat} {ls : List (Option MV)} {st : List MV} {w : Wd} (h : ctxB κ own cc (d + 1)) (hlen : ∀ κ2 : Kx, κ2 = κ → ls.length ≤ κ2.2.2.2.2.2.2.2.2.2.1.maxLocals) {idx n : Nat} {μ : MD} {as : List MV} (hm : Sta own idx μ n) (hd : decode cc pc = .ok (.invokestatic idx, 3)) (hn : as.length = n) (hwt : wtS st ≤ 8) (hc : Call d μ as w (fun r w' => VV κ (pc + 3) ls (pushR r st) w')) : VV κ pc ls (as.reverse ++ st) w := by
  obtain ⟨p, l, e, R, s, m, args, below, meth, c, cells, slots, Qs, G⟩ := κ
  obtain ⟨hx, hb, hown, hts, hlk, hK, hKU, hG, hfr, hlo, hce, hsl⟩ := h
  intro hL hS hW H locs rl hP hSS hl
  obtain ⟨h1, h2, h3⟩ := hm
  have hM := hc (fun v hv => hS v (List.mem_append_left _ (List.mem_reverse.mpr hv))) hW l G hG
  have hG' : GoodIn BIG (va_wsS own idx μ.1 (WSm μ)) := by
    intro w hw
    rcases List.mem_append.mp hw with hw | hw
    · simp only [List.mem_cons, List.not_mem_nil, or_false] at hw
      rcases hw with rfl | rfl | rfl
      · exact BIG_good _ h1
      · exact BIG_good _ h2
      · exact BIG_good _ h3.2.1
    · exact WSm_good h3 w hw
  refine run_on (va_runS (As := as.map (rv G)) (rest := st.map (rv G)) ⟨hx, hb, rfl, hown, hts⟩ hM (va_cwS n hts hG' rfl rfl rfl h3.2.2.1 ⟨hfr, by have := h3.2.2.2; show 8 + (μ.2.2.1 + 11) + 35 * d ≤ R.locals; omega⟩) ⟨Pre_blind, fun U hU hWm => ⟨rfl, Pre_at hP hK hKU hSS hU hWm⟩⟩ rfl (by rw [List.length_map]; exact hn) hl.1 (by rw [List.map_append, List.map_reverse]) (lv_room (by rw [wtS_rv]; exact hwt)) hd ⟨hce, hsl⟩) hSS (fun r w1 H1 locs1 hok hq hw1 hP1 hS1 => ?_)
  rw [← pushR_map]
  exact hq hL (pushR_ok hok (fun v hv => hS v (List.mem_append_right _ hv))) hw1 H1 locs1 rl hP1 hS1 hl
theorem v_stnG {κ : Kx} {own : String} {cc : ByteArray} {d pc : Nat} {ls : List (Option MV)} {st : List MV} {w : Wd} (h : ctxB κ own cc (d + 1)) (hlen : ∀ κ2 : Kx, κ2 = κ → ls.length ≤ κ2.2.2.2.2.2.2.2.2.2.1.maxLocals) {idx n : Nat} {μ : MD} {host : String} {as : List MV} (hm : StaN own idx μ host n) (hd : decode cc pc = .ok (.invokestatic idx, 3)) (hn : as.length = n) (hwt : wtS st ≤ 8) (hc : Call d μ as w (fun r w' => VV κ (pc + 3) ls (pushR r st) w')) : VV κ pc ls (as.reverse ++ st) w := by
  obtain ⟨p, l, e, R, s, m, args, below, meth, c, cells, slots, Qs, G⟩ := κ
  obtain ⟨hx, hb, hown, hts, hlk, hK, hKU, hG, hfr, hlo, hce, hsl⟩ := h
  intro hL hS hW H locs rl hP hSS hl
  obtain ⟨h1, h2, h3⟩ := hm
  have hM := hc (fun v hv => hS v (List.mem_append_left _ (List.mem_reverse.mpr hv))) hW l G hG
  refine run_on (va_runSN (As := as.map (rv G)) (rest := st.map (rv G)) ⟨hx, hb, rfl, hown, hts⟩ hM ⟨va_cnB n hts (WSm_good h3) rfl rfl rfl (hKU.2.2.1 _ h1) (hts _ h3.2.1) h3.2.2.1 ⟨hfr, by have := h3.2.2.2; show 8 + (μ.2.2.1 + 11) + 35 * d ≤ R.locals; omega⟩, hts _ h2, trivial⟩ ⟨Pre_blind, fun U hU hWm => ⟨rfl, Pre_at hP hK hKU hSS hU hWm⟩⟩ rfl (by rw [List.length_map]; exact hn) hl.1 (by rw [List.map_append, List.map_reverse]) (lv_room (by rw [wtS_rv]; exact hwt)) hd ⟨hce, hsl⟩) hSS (fun r w1 H1 locs1 hok hq hw1 hP1 hS1 => ?_)
  rw [← pushR_map]
  exact hq hL (pushR_ok hok (fun v hv => hS v (List.mem_append_right _ hv))) hw1 H1 locs1 rl hP1 hS1 hl
theorem v_virG {κ : Kx} {own : String} {cc : ByteArray} {d pc : Nat} {ls : List (Option MV)} {st : List MV} {w : Wd} (h : ctxB κ own cc (d + 1)) (hlen : ∀ κ2 : Kx, κ2 = κ → ls.length ≤ κ2.2.2.2.2.2.2.2.2.2.1.maxLocals) {idx n ci i : Nat} {μ : MD} {as : List MV} (hm : Vir own idx μ ci n) (hk : kdT i = ci) (hd : decode cc pc = .ok (.invokevirtual idx, 3)) (hn : as.length = n) (hwt : wtS st ≤ 8) (hc : Call d μ (.inr (.inr i) :: as) w (fun r w' => VV κ (pc + 3) ls (pushR r st) w')) : VV κ pc ls (as.reverse ++ .inr (.inr i) :: st) w := by
  obtain ⟨p, l, e, R, s, m, args, below, meth, c, cells, slots, Qs, G⟩ := κ
  obtain ⟨hx, hb, hown, hts, hlk, hK, hKU, hG, hfr, hlo, hce, hsl⟩ := h
  intro hL hS hW H locs rl hP hSS hl
  obtain ⟨h1, h2, h2b, h4, h3⟩ := hm
  have hM := hc (fun v hv => by
    rcases List.mem_cons.mp hv with rfl | hv
    · exact trivial
    · exact hS v (List.mem_append_left _ (List.mem_reverse.mpr hv))) hW l G hG
  have hG' : GoodIn BIG (wsV own idx μ.1.cls μ.1 (WSm μ)) := by
    intro w hw
    rcases List.mem_append.mp hw with hw | hw
    · simp only [List.mem_cons, List.not_mem_nil, or_false] at hw
      rcases hw with rfl | rfl | rfl | rfl
      · exact BIG_good _ h1
      · exact BIG_good _ h2
      · exact BIG_good _ h2b
      · exact BIG_good _ h3.2.1
    · exact WSm_good h3 w hw
  obtain ⟨q, hq, hq1⟩ : ∃ q, vwCl[ci]? = some q ∧ q.1 = μ.1.cls := by
    cases hz : vwCl[ci]? with
    | none => rw [hz] at h4; cases h4
    | some q => rw [hz] at h4; exact ⟨q, rfl, Option.some.inj h4⟩
  have hc5 := vwCl_lt hq
  have hi : i < 50 := kdT_lt (by omega)
  have hrc := va_recv hK hP hq ((cellsT_at G w hi).trans (by rw [contT_obj G w hk hc5]))
  rw [hq1] at hrc
  refine run_on (va_runV (As := as.map (rv G)) (rest := st.map (rv G)) ⟨hx, hb, rfl, hown, hts⟩ hM (cwV n hts hG' rfl rfl rfl ⟨rfl, h3.2.2.1⟩ ⟨hfr, by have := h3.2.2.2; show 8 + (μ.2.2.1 + 11) + 35 * d ≤ R.locals; omega⟩) ⟨Pre_blind, hrc, fun U hU hWm => ⟨rfl, Pre_at hP hK hKU hSS hU hWm⟩⟩ rfl (by rw [List.length_map]; exact hn) hl.1 (by rw [List.map_append, List.map_reverse]; rfl) (lv_room (by rw [wtS_rv]; exact hwt)) hd ⟨hce, hsl⟩) hSS (fun r w1 H1 locs1 hok hq hw1 hP1 hS1 => ?_)
  rw [← pushR_map]
  exact hq hL (pushR_ok hok (fun v hv => hS v (List.mem_append_right _ (List.mem_cons_of_mem _ hv)))) hw1 H1 locs1 rl hP1 hS1 hl
/-! ends -/
theorem v_iret {κ : Kx} {own : String} {cc : ByteArray} {d pc : Nat} {ls : List (Option MV)} {w : Wd} {z : Int} {Q : Option MV → Wd → Prop} (h : ctxB κ own cc d) (hr : ctxR κ (some .int) Q) (hd : decode cc pc = .ok (.ireturn, 1)) (hq : Q (some (.inl z)) w) : VV κ pc ls [.inl z] w := by
  obtain ⟨p, l, e, R, s, m, args, below, meth, c, cells, slots, Qs, G⟩ := κ
  obtain ⟨hx, hb, hown, hts, hlk, hK, hKU, hG, hfr, hlo, hce, hsl⟩ := h
  intro hL hS hW H locs rl hP hSS hl
  obtain ⟨hret, hQs⟩ := hr
  subst hQs
  exact W.iret hx hb hret (fun t ht hWm => ⟨⟨some (.inl z), w, rfl, fun v hv => by cases hv; exact ok_h hS, hq, hW, by rw [ht]; exact hP⟩, hSS.F ht⟩) hSS.2.2 hd hlk
theorem v_lret {κ : Kx} {own : String} {cc : ByteArray} {d pc : Nat} {ls : List (Option MV)} {w : Wd} {z : Int} {Q : Option MV → Wd → Prop} (h : ctxB κ own cc d) (hr : ctxR κ (some .long) Q) (hd : decode cc pc = .ok (.lreturn, 1)) (hq : Q (some (.inr (.inl z))) w) : VV κ pc ls [.inr (.inl z)] w := by
  obtain ⟨p, l, e, R, s, m, args, below, meth, c, cells, slots, Qs, G⟩ := κ
  obtain ⟨hx, hb, hown, hts, hlk, hK, hKU, hG, hfr, hlo, hce, hsl⟩ := h
  intro hL hS hW H locs rl hP hSS hl
  obtain ⟨hret, hQs⟩ := hr
  subst hQs
  exact W.lret hx hb hret (fun t ht hWm => ⟨⟨some (.inr (.inl z)), w, rfl, fun v hv => by cases hv; exact ok_h hS, hq, hW, by rw [ht]; exact hP⟩, hSS.F ht⟩) hSS.2.2 hd hlk
theorem v_zret {κ : Kx} {own : String} {cc : ByteArray} {d pc : Nat} {ls : List (Option MV)} {w : Wd} {z : Int} {Q : Option MV → Wd → Prop} (h : ctxB κ own cc d) (hr : ctxR κ (some .boolean) Q) (hd : decode cc pc = .ok (.ireturn, 1)) (hz : 0 ≤ z ∧ z ≤ 1) (hq : Q (some (.inl z)) w) : VV κ pc ls [.inl z] w := by
  obtain ⟨p, l, e, R, s, m, args, below, meth, c, cells, slots, Qs, G⟩ := κ
  obtain ⟨hx, hb, hown, hts, hlk, hK, hKU, hG, hfr, hlo, hce, hsl⟩ := h
  intro hL hS hW H locs rl hP hSS hl
  obtain ⟨hret, hQs⟩ := hr
  subst hQs
  exact W.zret hx hb hret (nb_ok hz.1 hz.2).1 (fun t ht hWm => ⟨⟨some (.inl z), w, rfl, fun v hv => by cases hv; exact ok_h hS, hq, hW, by rw [ht]; exact hP⟩, hSS.F ht⟩) hSS.2.2 hd hlk
theorem v_vret {κ : Kx} {own : String} {cc : ByteArray} {d pc : Nat} {ls : List (Option MV)} {w : Wd} {Q : Option MV → Wd → Prop} (h : ctxB κ own cc d) (hr : ctxR κ none Q) (hd : decode cc pc = .ok (.return_, 1)) (hq : Q none w) : VV κ pc ls [] w := by
  obtain ⟨p, l, e, R, s, m, args, below, meth, c, cells, slots, Qs, G⟩ := κ
  obtain ⟨hx, hb, hown, hts, hlk, hK, hKU, hG, hfr, hlo, hce, hsl⟩ := h
  intro hL hS hW H locs rl hP hSS hl
  obtain ⟨hret, hQs⟩ := hr
  subst hQs
  exact W.vret hx hb hret (fun t ht hWm => ⟨⟨none, w, rfl, fun v hv => (by cases hv), hq, hW, by rw [ht]; exact hP⟩, hSS.F ht⟩) hSS.2.2 hd hlk

/-! a method's walk from its entry -/
def entL : List MV → List (Option MV)
  | [] => []
  | v :: r => if lgv v then some v :: none :: entL r else some v :: entL r
def padL (n : Nat) (l : List (Option MV)) : List (Option MV) := l ++ List.replicate (n - l.length) none
theorem entL_mem (G : Geo) : ∀ (as : List MV) (n : Nat) (q : Nat × Value), q ∈ toL G n (entL as) → q ∈ lv_args n (as.map (rv G))
  | [], n, q, h => by simp [entL, toL] at h
  | v :: r, n, q, h => by
    by_cases hv : lgv v = true
    · rw [show entL (v :: r) = some v :: none :: entL r by simp [entL, hv]] at h
      rw [show toL G n (some v :: none :: entL r) = (n, rv G v) :: toL G (n + 1 + 1) (entL r) from rfl] at h
      show q ∈ (n, rv G v) :: lv_args (if (rv G v).category = 2 then n + 2 else n + 1) (r.map (rv G))
      rw [if_pos (rv_cat2 G hv)]
      rcases List.mem_cons.mp h with h | h
      · exact List.mem_cons.mpr (Or.inl h)
      · exact List.mem_cons_of_mem _ (entL_mem G r (n + 2) q h)
    · have hv' : lgv v = false := by simpa using hv
      rw [show entL (v :: r) = some v :: entL r by simp [entL, hv']] at h
      rw [show toL G n (some v :: entL r) = (n, rv G v) :: toL G (n + 1) (entL r) from rfl] at h
      show q ∈ (n, rv G v) :: lv_args (if (rv G v).category = 2 then n + 2 else n + 1) (r.map (rv G))
      rw [if_neg (by rw [rv_cat1 G hv']; omega)]
      rcases List.mem_cons.mp h with h | h
      · exact List.mem_cons.mpr (Or.inl h)
      · exact List.mem_cons_of_mem _ (entL_mem G r (n + 1) q h)
theorem toL_app (G : Geo) (a : List (Option MV)) (k : Nat) (n : Nat) (q : Nat × Value) (h : q ∈ toL G n (a ++ List.replicate k none)) : q ∈ toL G n a := by
  obtain ⟨j, v, h1, h2⟩ := (toL_mem G _ n q).mp h
  refine (toL_mem G a n q).mpr ⟨j, v, ?_, h2⟩
  rcases Nat.lt_or_ge j a.length with hj | hj
  · rwa [List.getElem?_append_left hj] at h1
  · rw [List.getElem?_append_right hj] at h1
    have := List.mem_of_getElem? h1
    have := List.eq_of_mem_replicate this
    cases this
theorem entL_ok {as : List MV} (h : ∀ v, v ∈ as → okv v) : ∀ v, some v ∈ entL as → okv v := by
  induction as with
  | nil => intro v hv; simp [entL] at hv
  | cons a r ih =>
    intro v hv
    have ih := ih (fun x hx => h x (List.mem_cons_of_mem _ hx))
    by_cases ha : lgv a = true
    · rw [show entL (a :: r) = some a :: none :: entL r by simp [entL, ha]] at hv
      simp only [List.mem_cons, Option.some.injEq, reduceCtorEq, false_or] at hv
      rcases hv with rfl | hv
      · exact h _ List.mem_cons_self
      · exact ih v hv
    · rw [show entL (a :: r) = some a :: entL r by simp [entL, ha]] at hv
      simp only [List.mem_cons, Option.some.injEq] at hv
      rcases hv with rfl | hv
      · exact h _ List.mem_cons_self
      · exact ih v hv
theorem Met_ofWF {l : Launch} {y : MethodName} {ws ws' : List Cond} {rm : Room} {Pc : Array Value → State → Prop} {Qc : Array Value → State → Outcome → State → Prop} {mc ms : Nat} {free : Addr → Prop} {cc : ByteArray} {maxL : Nat} {ret : Option FieldType}
    (hy : plainFor y = true) (hw : ws = Cond.code y cc maxL ret :: ws')
    (body : ∀ p e s m args below meth c s₁, BodyLoose p l y (headSpec ws rm) cc maxL ret e s m args below meth c s₁ → c.maxLocals = maxL → Pc args s →
      W p l e (headSpec ws rm).room s m args below meth c s.heap [] 0 0 (MQ below Qc args s mc ms free) (entryFrame m args maxL)) : Met l y ws rm Pc Qc mc ms free := by
  refine MetFree.of_bodySF (code := cc) (maxLocals := maxL) (ret := ret) hy ?_ ?_
  · intro args s m h hn
    obtain ⟨meth, c, h1, h2, h3, h4, h5, h6, -, -⟩ := Cond.code_spec hn (atoms_spec (ws := ws) h _ (by rw [hw]; exact List.mem_cons_self))
    exact ⟨meth, c, h1, h2, h3, h4, h5, h6⟩
  · intro p e s m args below meth c s₁ B hml hP _
    have hh0 : s₁.heap = s.heap := by rw [B.state]; rfl
    obtain ⟨t, a1, o, b1, b2, b3⟩ := body p e s m args below meth c s₁ B hml hP s₁ hh0 (Stand.of_body B)
    exact ⟨t, o, a1, b1, b2, ⟨b3.1, b3.2⟩⟩
theorem entL_len (G : Geo) (as : List MV) : (lg_sl (as.map (rv G))).length = (entL as).length := by
  induction as with
  | nil => rfl
  | cons a r ih =>
    have h1 : lg_sl ((a :: r).map (rv G)) = (if (rv G a).category = 2 then [Slot.val (rv G a), Slot.second] else [Slot.val (rv G a)]) ++ lg_sl (r.map (rv G)) := rfl
    rw [h1, List.length_append, ih]
    by_cases ha : lgv a = true
    · rw [if_pos (rv_cat2 G ha), show entL (a :: r) = some a :: none :: entL r by simp [entL, ha]]
      simp only [List.length_cons, List.length_nil]
      omega
    · have ha' : lgv a = false := by simpa using ha
      rw [if_neg (by rw [rv_cat1 G ha']; omega), show entL (a :: r) = some a :: entL r by simp [entL, ha']]
      simp only [List.length_cons, List.length_nil]
      omega
theorem call_in {d : Nat} {as : List MV} {w : Wd} {Q : Option MV → Wd → Prop} {y : MethodName} {cc : ByteArray} {maxL : Nat} {ret : Option FieldType} {ls : List (Option MV)} (hy : plainFor y = true) (hls : padL maxL (entL as) = ls) (hlen : (entL as).length ≤ maxL)
    (body : ∀ κ : Kx, ctxB κ y.cls cc d → ctxR κ ret Q → (∀ κ2 : Kx, κ2 = κ → ls.length ≤ κ2.2.2.2.2.2.2.2.2.2.1.maxLocals) → VV κ 0 ls [] w) : Call d (y, cc, maxL, ret) as w Q := by
  intro has hW l G hG
  refine Met_ofWF (cc := cc) (maxL := maxL) (ret := ret) hy rfl ?_
  intro p e s m args below meth c s₁ B hml hv
  obtain ⟨rfl, hP, hK, hKU⟩ := hv
  have hts : ∀ w ∈ BIG, w.before _ s = true := fun w hw => atoms_spec (ws := WSm (y, cc, maxL, ret)) B.pre w (List.mem_cons_of_mem _ hw)
  have hown : s.vm.findClass y.cls = some m.cls := findClass_of_methodNamed B.named
  have hlsl := entL_len G as
  have hle : (lg_sl (as.map (rv G))).length ≤ maxL := by rw [hlsl]; exact hlen
  have hl := lv_entry (as.map (rv G)) (n := maxL) hle
  rw [lg_entry_eq]
  generalize (lg_sl (as.map (rv G)) ++ List.replicate (maxL - (lg_sl (as.map (rv G))).length) Slot.unset).toArray = rl at hl ⊢
  have hll : ls.length = maxL := by rw [← hls]; unfold padL; rw [List.length_append, List.length_replicate]; omega
  refine body (p, l, e, rmD d, s, m, _, below, meth, c, 0, 0, _, G) ⟨B.exec, B.bytes, hown, hts, B.notSynchronized, hK, hKU, hG, Nat.le_refl _, Nat.le_refl _, Nat.zero_le _, Nat.zero_le _⟩ ⟨B.returns, rfl⟩ (fun κ2 h2 => by rw [h2]; show ls.length ≤ c.maxLocals; omega) ?_ (fun v hv => by cases hv) hW s.heap [] rl hP va_S.rf ?_
  · intro v hv
    rw [← hls] at hv
    rcases List.mem_append.mp hv with hv | hv
    · exact entL_ok has v hv
    · have := List.eq_of_mem_replicate hv
      cases this
  · rw [hml]
    refine lv_mono hl (fun q hq => ?_)
    rw [← hls] at hq
    exact entL_mem G as 0 q (toL_app G _ _ 0 q hq)
