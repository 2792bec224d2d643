/-! texts -/
def lnS4 (i : Nat) : Nat := lenS.getD i 0
def chS (i k : Nat) : Int := ((bytS.getD i []).getD k 0).toInt
theorem chS_r : ∀ i, i < 4 → ∀ k, k < lnS4 i → 97 ≤ chS i k ∧ chS i k ≤ 122 := by decide +kernel
theorem chS_255 : ∀ i, i < 4 → ∀ k, k < lnS4 i → bAnd (chS i k) 255 = chS i k := by decide +kernel
theorem lnS4_r : ∀ i, i < 4 → 3 ≤ lnS4 i ∧ lnS4 i ≤ 5 := by decide
theorem i2c_n : ∀ n : Nat, n < 128 → ((Int32.ofInt (n : Int)).toUInt32 % 65536).toInt32 = Int32.ofInt (n : Int) := by decide +kernel
theorem nar_c : ∀ n : Nat, n < 128 → narrow .char (.int (Int32.ofInt (n : Int))) = .int (Int32.ofInt (n : Int)) := by
  intro n hn
  have h := i2c_n n hn
  show Value.int _ = Value.int _
  exact congrArg Value.int h
section STR
variable {κ : Kx} {own : String} {cc : ByteArray} {d pc : Nat} {ls : List (Option MV)} {st : List MV} {w : Wd}
theorem v_sval (h : ctxB κ own cc d) {idx i : Nat} (hi : i < 4) (hd : decode cc pc = .ok (.getfield idx, 3)) (hlink : Cond.fieldLink own idx "java/lang/String" "value" "[B" ∈ BIG) (kk : VV κ (pc + 3) ls (.inr (.inr (55 + i)) :: st) w) : VV κ pc ls (.inr (.inr (51 + i)) :: st) w := by
  obtain ⟨p, l, e, R, s, m, args, below, meth, c, cells, slots, Qs, G⟩ := κ
  obtain ⟨hx, hb, hown, hts, hlk, hK, hKU, hG, hfr, hlo, hce, hsl⟩ := h
  intro hL hS hW H locs rl hP hSS hl
  refine vk_getf hx hb (hKU.2.2.2.1.1 i hi).2.2.1 hSS hown (hts _ hlink) (fun _ h9 => h9) hd ?_
  exact kk hL (ok_c (show okv (.inr (.inr (55 + i))) from trivial) (ok_t hS)) hW H locs rl hP hSS hl
theorem v_scod (h : ctxB κ own cc d) {idx i : Nat} (hi : i < 4) (hd : decode cc pc = .ok (.getfield idx, 3)) (hlink : Cond.fieldLink own idx "java/lang/String" "coder" "B" ∈ BIG) (kk : VV κ (pc + 3) ls (.inl 0 :: st) w) : VV κ pc ls (.inr (.inr (51 + i)) :: st) w := by
  obtain ⟨p, l, e, R, s, m, args, below, meth, c, cells, slots, Qs, G⟩ := κ
  obtain ⟨hx, hb, hown, hts, hlk, hK, hKU, hG, hfr, hlo, hce, hsl⟩ := h
  intro hL hS hW H locs rl hP hSS hl
  refine vk_getf hx hb (hKU.2.2.2.1.1 i hi).2.1 hSS hown (hts _ hlink) (fun _ h9 => h9) hd ?_
  exact kk hL (ok_c (show ri32 0 by unfold ri32; omega) (ok_t hS)) hW H locs rl hP hSS hl
theorem v_slen (h : ctxB κ own cc d) {i : Nat} (hi : i < 4) (hd : decode cc pc = .ok (.arraylength, 1)) (kk : VV κ (pc + 1) ls (.inl (lnS4 i : Int) :: st) w) : VV κ pc ls (.inr (.inr (55 + i)) :: st) w := by
  obtain ⟨p, l, e, R, s, m, args, below, meth, c, cells, slots, Qs, G⟩ := κ
  obtain ⟨hx, hb, hown, hts, hlk, hK, hKU, hG, hfr, hlo, hce, hsl⟩ := h
  intro hL hS hW H locs rl hP hSS hl
  have hr := lnS4_r i hi
  refine va_tlen (v := Int32.ofInt (lnS4 i : Int)) hx hb (hKU.2.2.2.1.1 i hi).2.2.2 hSS rfl hd ?_
  exact kk hL (ok_c (show ri32 (lnS4 i : Int) by unfold ri32; omega) (ok_t hS)) hW H locs rl hP hSS hl
theorem v_sbal (h : ctxB κ own cc d) {i j : Nat} (hi : i < 4) (hj : j < lnS4 i) (hd : decode cc pc = .ok (.baload, 1)) (kk : VV κ (pc + 1) ls (.inl (chS i j) :: st) w) : VV κ pc ls (.inl (j : Int) :: .inr (.inr (55 + i)) :: st) w := by
  obtain ⟨p, l, e, R, s, m, args, below, meth, c, cells, slots, Qs, G⟩ := κ
  obtain ⟨hx, hb, hown, hts, hlk, hK, hKU, hG, hfr, hlo, hce, hsl⟩ := h
  intro hL hS hW H locs rl hP hSS hl
  have hr := lnS4_r i hi
  have hc := chS_r i hi j hj
  have hj32 : ri32 (j : Int) := by unfold ri32; omega
  refine va_tb (v := .int (Int32.ofInt (chS i j))) hx hb (hKU.2.2.2.1.1 i hi).2.2.2 hSS (oi_in hj32 (by omega) (by show (j : Int) < (lnS4 i : Int); omega)) ?_ hd ?_
  · rw [oi_clamp hj32]
    show Value.int _ = Value.int (Int32.ofInt ((bytS.getD i []).getD j 0).toInt)
    rw [oi_of]
    rfl
  · exact kk hL (ok_c (show ri32 (chS i j) by unfold ri32; omega) (ok_t (ok_t hS))) hW H locs rl hP hSS hl
theorem v_getsC (h : ctxB κ own cc d) {idx : Nat} (hd : decode cc pc = .ok (.getstatic idx, 3)) (hlink : Cond.fieldLink own idx "java/lang/String" "COMPACT_STRINGS" "Z" ∈ BIG) (kk : VV κ (pc + 3) ls (.inl 1 :: st) w) : VV κ pc ls st w := by
  obtain ⟨p, l, e, R, s, m, args, below, meth, c, cells, slots, Qs, G⟩ := κ
  obtain ⟨hx, hb, hown, hts, hlk, hK, hKU, hG, hfr, hlo, hce, hsl⟩ := h
  intro hL hS hW H locs rl hP hSS hl
  refine va_gets hx hb hKU.2.2.2.2.2.1 hSS hown (hts _ hlink) (fun _ h9 => h9) hd ?_
  exact kk hL (ok_c (show ri32 1 by unfold ri32; omega) hS) hW H locs rl hP hSS hl
theorem v_i2c (h : ctxB κ own cc d) {n : Nat} (hn : n < 128) (hd : decode cc pc = .ok (.i2c, 1)) (kk : VV κ (pc + 1) ls (.inl (n : Int) :: st) w) : VV κ pc ls (.inl (n : Int) :: st) w := by
  obtain ⟨p, l, e, R, s, m, args, below, meth, c, cells, slots, Qs, G⟩ := κ
  obtain ⟨hx, hb, hown, hts, hlk, hK, hKU, hG, hfr, hlo, hce, hsl⟩ := h
  intro hL hS hW H locs rl hP hSS hl
  refine lv_i2c (v := Int32.ofInt (n : Int)) hx hb hd (i2c_n n hn) ?_
  exact kk hL hS hW H locs rl hP hSS hl
theorem v_nret {Q : Option MV → Wd → Prop} {n : Nat} {ty : FieldType} (h : ctxB κ own cc d) (hr : ctxR κ (some ty) Q) (hd : decode cc pc = .ok (.ireturn, 1)) (hn : narrow ty (.int (Int32.ofInt (n : Int))) = .int (Int32.ofInt (n : Int))) (hq : Q (some (.inl (n : Int))) w) : VV κ pc ls [.inl (n : Int)] w := by
  obtain ⟨p, l, e, R, s, m, args, below, meth, c, cells, slots, Qs, G⟩ := κ
  obtain ⟨hx, hb, hown, hts, hlk, hK, hKU, hG, hfr, hlo, hce, hsl⟩ := h
  intro hL hS hW H locs rl hP hSS hl
  obtain ⟨hret, hQs⟩ := hr
  subst hQs
  exact W.zret hx hb hret hn (fun t ht hWm => ⟨⟨some (.inl (n : Int)), w, rfl, fun v hv => by cases hv; exact ok_h hS, hq, hW, by rw [ht]; exact hP⟩, hSS.F ht⟩) hSS.2.2 hd hlk
end STR
def VirS (own : String) (idx : Nat) (μ : MD) (n : Nat) : Prop := Cond.methodLink own idx μ.1 ∈ BIG ∧ Cond.instanceMethod μ.1 ∈ BIG ∧ Cond.selects μ.1.cls μ.1 μ.1 ∈ BIG ∧ μ.1.cls = "java/lang/String" ∧ cOK μ n
theorem v_virS {κ : Kx} {own : String} {cc : ByteArray} {d pc : Nat} {ls : List (Option MV)} {st : List MV} {w : Wd} (h : ctxB κ own cc (d + 1)) {idx n i : Nat} {μ : MD} {as : List MV} (hm : VirS own idx μ n) (hi : i < 4) (hd : decode cc pc = .ok (.invokevirtual idx, 3)) (hn : as.length = n) (hwt : wtS st ≤ 8) (hc : Call d μ (.inr (.inr (51 + i)) :: as) w (fun r w' => VV κ (pc + 3) ls (pushR r st) w')) : VV κ pc ls (as.reverse ++ .inr (.inr (51 + i)) :: st) w := by
  obtain ⟨p, l, e, R, s, m, args, below, meth, c, cells, slots, Qs, G⟩ := κ
  obtain ⟨hx, hb, hown, hts, hlk, hK, hKU, hG, hfr, hlo, hce, hsl⟩ := h
  intro hL hS hW H locs rl hP hSS hl
  obtain ⟨h1, h2, h2b, h4, h3⟩ := hm
  have hM := hc (fun v hv => by
    rcases List.mem_cons.mp hv with rfl | hv
    · exact trivial
    · exact hS v (List.mem_append_left _ (List.mem_reverse.mpr hv))) hW l G hG
  have hG' : GoodIn BIG (wsV own idx μ.1.cls μ.1 (WSm μ)) := by
    intro w hw
    rcases List.mem_append.mp hw with hw | hw
    · simp only [List.mem_cons, List.not_mem_nil, or_false] at hw
      rcases hw with rfl | rfl | rfl | rfl
      · exact BIG_good _ h1
      · exact BIG_good _ h2
      · exact BIG_good _ h2b
      · exact BIG_good _ h3.2.1
    · exact WSm_good h3 w hw
  have hrc := vk_recv hKU.2.2.2.1 hi hSS
  rw [← h4] at hrc
  refine run_on (va_runV (As := as.map (rv G)) (rest := st.map (rv G)) ⟨hx, hb, rfl, hown, hts⟩ hM (cwV n hts hG' rfl rfl rfl ⟨rfl, h3.2.2.1⟩ ⟨hfr, by have := h3.2.2.2; show 8 + (μ.2.2.1 + 11) + 35 * d ≤ R.locals; omega⟩) ⟨Pre_blind, hrc, fun U hU hWm => ⟨rfl, Pre_at hP hK hKU hSS hU hWm⟩⟩ rfl (by rw [List.length_map]; exact hn) hl.1 (by rw [List.map_append, List.map_reverse]; rfl) (lv_room (by rw [wtS_rv]; exact hwt)) hd ⟨hce, hsl⟩) hSS (fun r w1 H1 locs1 hok hq hw1 hP1 hS1 => ?_)
  rw [← pushR_map]
  exact hq hL (pushR_ok hok (fun v hv => hS v (List.mem_append_right _ (List.mem_cons_of_mem _ hv)))) hw1 H1 locs1 rl hP1 hS1 hl
/-- Preconditions.checkIndex, whatever its third argument -/
theorem met_chk {d : Nat} {w : Wd} {Q : Option MV → Wd → Prop} {k n : Int} {v : Value} (hv : (v.category == 2) = false) (hk : 0 ≤ k ∧ k < n) (hk32 : ri32 k) (hn32 : ri32 n) (hW : rngW w) (hQ : Q (some (.inl k)) w) (l : Launch) (G : Geo) (hG : GeoOK G) : Met l yJ3_checkIndex_8e157 (WSm mJ3_checkIndex_8e157) (rmD d) (va_Pc [.int (Int32.ofInt k), .int (Int32.ofInt n), v] (PreU G w)) (QC G Q) 0 0 (AG G) := by
  refine Met_ofWF (cc := cJ3_checkIndex_8e157) (maxL := 3) (ret := some .int) (by decide +kernel) rfl ?_
  intro p e s m args below meth c s₁ B hml hv9
  obtain ⟨rfl, hP, hK, hKU⟩ := hv9
  have hts : ∀ w ∈ BIG, w.before _ s = true := fun w hw => atoms_spec (ws := WSm mJ3_checkIndex_8e157) B.pre w (List.mem_cons_of_mem _ hw)
  have hown : s.vm.findClass RJ3 = some m.cls := findClass_of_methodNamed B.named
  have hl := lv_entry [.int (Int32.ofInt k), .int (Int32.ofInt n), v] (n := 3) (by
    show ((lg_sl [v]).length + 2 ≤ 3)
    have : lg_sl [v] = (if v.category = 2 then [Slot.val v, Slot.second] else [Slot.val v]) := by simp [lg_sl]
    rw [this, if_neg (by simpa using hv)]
    exact Nat.le_refl _)
  rw [lg_entry_eq]
  generalize (lg_sl [.int (Int32.ofInt k), .int (Int32.ofInt n), v] ++ List.replicate (3 - (lg_sl [.int (Int32.ofInt k), .int (Int32.ofInt n), v]).length) Slot.unset).toArray = rl at hl ⊢
  have body : ∀ κ : Kx, ctxB κ RJ3 cJ3_checkIndex_8e157 d → ctxR κ (some .int) Q → VV κ 0 [some (vI k), some (vI n), none] [] w := by
    intro κ hC hR
    refine w_il0 hC dJ3_checkIndex_8e157_0 ?_
    refine v_if_lt (tgt := 9) hC dJ3_checkIndex_8e157_1 rfl (fun h => absurd h (by omega)) (fun _ => ?_)
    refine w_il0 hC dJ3_checkIndex_8e157_4 ?_
    refine w_il1 hC dJ3_checkIndex_8e157_5 ?_
    refine v_ic_lt (tgt := 16) hC dJ3_checkIndex_8e157_6 rfl (fun _ => ?_) (fun h => absurd hk.2 h)
    refine w_il0 hC dJ3_checkIndex_8e157_16 ?_
    exact v_iret hC hR dJ3_checkIndex_8e157_17 hQ
  refine body (p, l, e, rmD d, s, m, _, below, meth, c, 0, 0, _, G) ⟨B.exec, B.bytes, hown, hts, B.notSynchronized, hK, hKU, hG, Nat.le_refl _, Nat.le_refl _, Nat.zero_le _, Nat.zero_le _⟩ ⟨B.returns, rfl⟩ ?_ (fun v hv => by cases hv) hW s.heap [] rl hP va_S.rf ?_
  · intro v hv
    simp only [List.mem_cons, Option.some.injEq, reduceCtorEq, List.not_mem_nil, or_false] at hv
    rcases hv with rfl | rfl
    · exact hk32
    · exact hn32
  · rw [hml]
    refine lv_mono hl (fun q hq => ?_)
    have hq : q ∈ [(0, rv G (vI k)), (1, rv G (vI n))] := hq
    show q ∈ (0, Value.int (Int32.ofInt k)) :: lv_args 1 [.int (Int32.ofInt n), v]
    rcases List.mem_cons.mp hq with h | h
    · exact List.mem_cons.mpr (Or.inl h)
    · exact List.mem_cons_of_mem _ (List.mem_cons.mpr (Or.inl (List.mem_singleton.mp h)))
theorem gs_J0_1053 : Cond.fieldLink RJ0 1053 "jdk/internal/util/Preconditions" "SIOOBE_FORMATTER" "Ljava/util/function/BiFunction;" ∈ BIG := BIG_in 379 (by decide +kernel) (by decide +kernel)
theorem gs_J0_38 : Cond.fieldLink RJ0 38 "java/lang/String" "COMPACT_STRINGS" "Z" ∈ BIG := BIG_in 363 (by decide +kernel) (by decide +kernel)
theorem fl_J0_9 : Cond.fieldLink RJ0 9 "java/lang/String" "value" "[B" ∈ BIG := BIG_in 1229 (by decide +kernel) (by decide +kernel)
theorem fl_J0_15 : Cond.fieldLink RJ0 15 "java/lang/String" "coder" "B" ∈ BIG := BIG_in 1230 (by decide +kernel) (by decide +kernel)
/-- getstatic of the formatter, and the call that is given it -/
theorem v_chk {κ : Kx} {d : Nat} {ls : List (Option MV)} {st : List MV} {w : Wd} {k n : Int} (h : ctxB κ RJ0 cJ0_checkIndex_df160 (d + 1)) (hlen : ∀ κ2 : Kx, κ2 = κ → ls.length ≤ κ2.2.2.2.2.2.2.2.2.2.1.maxLocals) (hwt : wtS st ≤ 8) (hk : 0 ≤ k ∧ k < n) (kk : VV κ 8 ls (.inl k :: st) w) : VV κ 2 ls (.inl n :: .inl k :: st) w := by
  obtain ⟨p, l, e, R, s, m, args, below, meth, c, cells, slots, Qs, G⟩ := κ
  obtain ⟨hx, hb, hown, hts, hlk, hK, hKU, hG, hfr, hlo, hce, hsl⟩ := h
  intro hL hS hW H locs rl hP hSS hl
  have hn32 : ri32 n := ok_h hS
  have hk32 : ri32 k := ok_h (ok_t hS)
  obtain ⟨h1, h2, h3⟩ := st_J0_1059
  have hG' : GoodIn BIG (va_wsS RJ0 1059 mJ3_checkIndex_8e157.1 (WSm mJ3_checkIndex_8e157)) := by
    intro w hw
    rcases List.mem_append.mp hw with hw | hw
    · simp only [List.mem_cons, List.not_mem_nil, or_false] at hw
      rcases hw with rfl | rfl | rfl
      · exact BIG_good _ h1
      · exact BIG_good _ h2
      · exact BIG_good _ h3.2.1
    · exact WSm_good h3 w hw
  have key : ∀ v : Value, (v.category == 2) = false → va_Z "jdk/internal/util/Preconditions" "SIOOBE_FORMATTER" "Ljava/util/function/BiFunction;" v (AG G) s s.heap → W p l e R s m args below meth c H locs cells slots Qs (F0 m 2 rl ((.inl n :: .inl k :: st : List MV).map (rv G))) := by
    intro v hv hZ
    refine va_gets hx hb hZ hSS hown (hts _ gs_J0_1053) (fun _ h9 => h9) dJ0_checkIndex_df160_2 ?_
    have hM := met_chk (d := d) (w := w) (Q := fun r w' => VV (p, l, e, R, s, m, args, below, meth, c, cells, slots, Qs, G) 8 ls (pushR r st) w') hv hk hk32 hn32 hW kk l G hG
    refine run_on (va_runS (As := [.int (Int32.ofInt k), .int (Int32.ofInt n), v]) (rest := st.map (rv G)) ⟨hx, hb, rfl, hown, hts⟩ hM (va_cwS 3 hts hG' rfl rfl rfl h3.2.2.1 ⟨hfr, by have := h3.2.2.2; show 8 + (3 + 11) + 35 * d ≤ R.locals; omega⟩) ⟨Pre_blind, fun U hU hWm => ⟨rfl, Pre_at hP hK hKU hSS hU hWm⟩⟩ rfl rfl hl.1 rfl (lv_room (by rw [wtS_rv]; exact hwt)) dJ0_checkIndex_df160_5 ⟨hce, hsl⟩) hSS (fun r w1 H1 locs1 hok hq hw1 hP1 hS1 => ?_)
    rw [← pushR_map]
    exact hq hL (pushR_ok hok (fun v hv => hS v (List.mem_cons_of_mem _ (List.mem_cons_of_mem _ hv)))) hw1 H1 locs1 rl hP1 hS1 hl
  rcases hKU.2.2.2.2.2.2 with hZ | ⟨t, hZ⟩
  · exact key .null rfl hZ
  · exact key (.ref t) rfl hZ

theorem vs_J0_335 : VirS RJ0 335 (yJ0_coder_7d493, cJ0_coder_7d493, 1, some .byte) 0 := ⟨BIG_in 359 (by decide +kernel) (by decide +kernel), BIG_in 360 (by decide +kernel) (by decide +kernel), BIG_in 361 (by decide +kernel) (by decide +kernel), rfl, BIG_in 362 (by decide +kernel) (by decide +kernel), BIG_in 64 (by decide +kernel) (by decide +kernel), by decide +kernel, by decide⟩
theorem vs_J0_492 : VirS RJ0 492 mJ0_isLatin1_aae02 0 := ⟨BIG_in 369 (by decide +kernel) (by decide +kernel), BIG_in 370 (by decide +kernel) (by decide +kernel), BIG_in 371 (by decide +kernel) (by decide +kernel), rfl, ok_J0_isLatin1_aae02⟩
theorem vs_X1_108 : VirS RX1 108 mJ0_length_8abf5 0 := ⟨BIG_in 355 (by decide +kernel) (by decide +kernel), BIG_in 356 (by decide +kernel) (by decide +kernel), BIG_in 357 (by decide +kernel) (by decide +kernel), rfl, ok_J0_length_8abf5⟩
theorem vs_X1_117 : VirS RX1 117 mJ0_charAt_5068e 1 := ⟨BIG_in 365 (by decide +kernel) (by decide +kernel), BIG_in 366 (by decide +kernel) (by decide +kernel), BIG_in 367 (by decide +kernel) (by decide +kernel), rfl, ok_J0_charAt_5068e⟩
theorem c_coder {d : Nat} {w : Wd} {Q : Option MV → Wd → Prop} {i : Nat} (hi : i < 4) (hQ : Q (some (.inl 0)) w) : Call d (yJ0_coder_7d493, cJ0_coder_7d493, 1, some .byte) [vR (51 + i)] w Q := by
  refine call_in (ls := [some (vR (51 + i))]) (by decide +kernel) rfl (Nat.le_of_ble_eq_true rfl) (fun κ hC hR hN => ?_)
  refine v_getsC hC dJ0_coder_7d493_0 gs_J0_38 ?_
  refine v_if_eq (tgt := 13) hC dJ0_coder_7d493_3 rfl (fun h => absurd h (by decide)) (fun _ => ?_)
  refine w_al0 hC dJ0_coder_7d493_6 ?_
  refine v_scod hC hi dJ0_coder_7d493_7 fl_J0_15 ?_
  refine v_goto (tgt := 14) hC dJ0_coder_7d493_10 rfl ?_
  exact v_nret (n := 0) hC hR dJ0_coder_7d493_14 rfl hQ
theorem c_isLatin1 {d : Nat} {w : Wd} {Q : Option MV → Wd → Prop} {i : Nat} (hi : i < 4) (hQ : Q (some (.inl 1)) w) : Call d mJ0_isLatin1_aae02 [vR (51 + i)] w Q := by
  refine call_in (ls := [some (vR (51 + i))]) (by decide +kernel) rfl (Nat.le_of_ble_eq_true rfl) (fun κ hC hR hN => ?_)
  refine v_getsC hC dJ0_isLatin1_aae02_0 gs_J0_38 ?_
  refine v_if_eq (tgt := 17) hC dJ0_isLatin1_aae02_3 rfl (fun h => absurd h (by decide)) (fun _ => ?_)
  refine w_al0 hC dJ0_isLatin1_aae02_6 ?_
  refine v_scod hC hi dJ0_isLatin1_aae02_7 fl_J0_15 ?_
  refine v_if_ne (tgt := 17) hC dJ0_isLatin1_aae02_10 rfl (fun h => absurd rfl h) (fun _ => ?_)
  refine w_ic hC dJ0_isLatin1_aae02_13 rfl ?_
  refine v_goto (tgt := 18) hC dJ0_isLatin1_aae02_14 rfl ?_
  exact v_zret hC hR dJ0_isLatin1_aae02_18 (by decide) hQ
theorem c_slen {d : Nat} {w : Wd} {Q : Option MV → Wd → Prop} {i : Nat} (hi : i < 4) (hQ : Q (some (.inl (lnS4 i : Int))) w) : Call (d + 1) mJ0_length_8abf5 [vR (51 + i)] w Q := by
  refine call_in (ls := [some (vR (51 + i))]) (by decide +kernel) rfl (Nat.le_of_ble_eq_true rfl) (fun κ hC hR hN => ?_)
  have hr := lnS4_r i hi
  refine w_al0 hC dJ0_length_8abf5_0 ?_
  refine v_sval hC hi dJ0_length_8abf5_1 fl_J0_9 ?_
  refine v_slen hC hi dJ0_length_8abf5_4 ?_
  refine w_al0 hC dJ0_length_8abf5_5 ?_
  refine v_virS (as := []) (d := d) hC vs_J0_335 hi dJ0_length_8abf5_6 rfl (by show 1 ≤ 8; decide) (c_coder hi ?_)
  refine v_ishr hC dJ0_length_8abf5_9 ?_
  rw [show bShr (lnS4 i : Int) 0 = (lnS4 i : Int) by rw [show (0 : Int) = ((0 : Nat) : Int) from rfl, bShr_n (by omega) (by decide)]; simp]
  exact v_iret hC hR dJ0_length_8abf5_10 hQ
theorem c_chk2 {d : Nat} {w : Wd} {Q : Option MV → Wd → Prop} {k n : Int} (hk : 0 ≤ k ∧ k < n) (hQ : Q none w) : Call (d + 1) mJ0_checkIndex_df160 [vI k, vI n] w Q := by
  refine call_in (ls := [some (vI k), some (vI n)]) (by decide +kernel) rfl (Nat.le_of_ble_eq_true rfl) (fun κ hC hR hN => ?_)
  refine w_il0 hC dJ0_checkIndex_df160_0 ?_
  refine w_il1 hC dJ0_checkIndex_df160_1 ?_
  refine v_chk hC hN (by decide) hk ?_
  refine v_pop hC dJ0_checkIndex_df160_8 rfl ?_
  exact v_vret hC hR dJ0_checkIndex_df160_9 hQ
theorem c_latAt {d : Nat} {w : Wd} {Q : Option MV → Wd → Prop} {i k : Nat} (hi : i < 4) (hk : k < lnS4 i) (hQ : Q (some (.inl (chS i k))) w) : Call (d + 2) mJ1_charAt_3b067 [vR (55 + i), vI (k : Int)] w Q := by
  refine call_in (ls := [some (vR (55 + i)), some (vI (k : Int))]) (by decide +kernel) rfl (Nat.le_of_ble_eq_true rfl) (fun κ hC hR hN => ?_)
  have hC : ctxB κ RJ1 cJ1_charAt_3b067 (d + 2) := hC
  have hN : mlx κ 2 := hN
  have hr := chS_r i hi k hk
  obtain ⟨n, hn⟩ := Int.eq_ofNat_of_zero_le (show 0 ≤ chS i k by omega)
  refine w_il1 hC dJ1_charAt_3b067_0 ?_
  refine w_al0 hC dJ1_charAt_3b067_1 ?_
  refine v_slen hC hi dJ1_charAt_3b067_2 ?_
  refine w_st2 hC st_J1_9 dJ1_charAt_3b067_3 rfl hN (c_chk2 ⟨by omega, by omega⟩ ?_)
  refine w_al0 hC dJ1_charAt_3b067_6 ?_
  refine w_il1 hC dJ1_charAt_3b067_7 ?_
  refine v_sbal hC hi hk dJ1_charAt_3b067_8 ?_
  refine v_sipush hC dJ1_charAt_3b067_9 (by decide) ?_
  refine v_iand hC dJ1_charAt_3b067_12 ?_
  rw [chS_255 i hi k hk, hn]
  refine v_i2c hC (by omega) dJ1_charAt_3b067_13 ?_
  rw [hn] at hQ
  exact v_nret hC hR dJ1_charAt_3b067_14 (nar_c n (by omega)) hQ
theorem c_charAt {d : Nat} {w : Wd} {Q : Option MV → Wd → Prop} {i k : Nat} (hi : i < 4) (hk : k < lnS4 i) (hQ : Q (some (.inl (chS i k))) w) : Call (d + 3) mJ0_charAt_5068e [vR (51 + i), vI (k : Int)] w Q := by
  refine call_in (ls := [some (vR (51 + i)), some (vI (k : Int))]) (by decide +kernel) rfl (Nat.le_of_ble_eq_true rfl) (fun κ hC hR hN => ?_)
  have hC : ctxB κ RJ0 cJ0_charAt_5068e (d + 3) := hC
  have hN : mlx κ 2 := hN
  have hr := chS_r i hi k hk
  obtain ⟨n, hn⟩ := Int.eq_ofNat_of_zero_le (show 0 ≤ chS i k by omega)
  refine w_al0 hC dJ0_charAt_5068e_0 ?_
  refine v_virS (as := []) (d := d + 2) hC vs_J0_492 hi dJ0_charAt_5068e_1 rfl (by decide) (c_isLatin1 hi ?_)
  refine v_if_eq (tgt := 16) hC dJ0_charAt_5068e_4 rfl (fun h => absurd h (by decide)) (fun _ => ?_)
  refine w_al0 hC dJ0_charAt_5068e_7 ?_
  refine v_sval hC hi dJ0_charAt_5068e_8 fl_J0_9 ?_
  refine w_il1 hC dJ0_charAt_5068e_11 ?_
  refine w_st2 hC st_J0_495 dJ0_charAt_5068e_12 rfl hN (c_latAt hi hk ?_)
  rw [hn]
  rw [hn] at hQ
  exact v_nret hC hR dJ0_charAt_5068e_15 (nar_c n (by omega)) hQ
