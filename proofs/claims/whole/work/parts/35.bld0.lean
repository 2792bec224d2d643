/-! the constructors: rows that they make, methods that they call, over worlds that grow -/
def tyS (cI cZ : ClassId) : List (ClassId × FieldType) := [(cI, .int), (cZ, .boolean)]
theorem arrV_ext {c : ClassId} {n : Nat} {f g : Nat → Value} (h : ∀ j, j < n → g j = f j) : arrV c n g = arrV c n f := by
  unfold arrV
  congr 1
  congr 1
  funext j
  exact h j.val j.isLt
theorem va_P_one {D : va_G} {cl : List vw_C} {h0 n : Nat} {cI : ClassId} {f g : Nat → Int32} {H : Heap} (h : va_P D cl [(h0, .inl (cI, n, .inl f))] H) (e : ∀ j, j < n → g j = f j) : va_P D cl [(h0, .inl (cI, n, .inl g))] H := by
  intro k q hq
  match k, hq with
  | 0, hq =>
    cases hq
    have h1 := h 0 _ rfl
    show H[h0]? = some (vp_cell cI (n, .inl g))
    rw [vp_cell_i, arrV_ext (f := fun j => Value.int (f j)) (fun j hj => by rw [e j hj])]
    exact h1
  | k + 1, hq => simp at hq
theorem va_D_one {A : Nat → Prop} {h0 : Nat} {x y : va_E} (h : va_D A [(h0, x)]) : va_D A [(h0, y)] := by
  refine ⟨fun i j p q hi hj _ => ?_, fun k q hq => ?_⟩
  · have h1 := (List.getElem?_eq_some_iff.mp hi).1
    have h2 := (List.getElem?_eq_some_iff.mp hj).1
    simp at h1 h2
    omega
  · match k, hq with
    | 0, hq => cases hq; exact h.2 0 (h0, x) rfl
    | k + 1, hq => simp at hq
theorem sta_good {own : String} {idx n : Nat} {μ : MD} (hm : Sta own idx μ n) : GoodIn BIG (va_wsS own idx μ.1 (WSm μ)) := by
  intro w hw
  rcases List.mem_append.mp hw with hw | hw
  · simp only [List.mem_cons, List.not_mem_nil, or_false] at hw
    rcases hw with rfl | rfl | rfl
    · exact BIG_good _ hm.1
    · exact BIG_good _ hm.2.1
    · exact BIG_good _ hm.2.2.2.1
  · exact WSm_good hm.2.2 w hw
section BLD
variable {p : Program} {l : Launch} {e : Env} {R : Room} {s : State} {m : MethodId} {args : Array Value} {below : List Frame} {meth : Method} {c : Code} {H : Heap} {locs : List Loc} {cells slots : Nat} {Q : State → Prop} {cc : ByteArray} {pc : Nat} {ls : Array Slot} {rest : List Value} {A : Nat → Prop} {H0 : Heap} {ws : va_W} {D : va_G} {cl : List vw_C} {cI cZ : ClassId}
theorem b_newI (hexec : p.tables.exec = Jvm.exec) (hb : c.code = cc) (harr : (Cond.arrayClass .int).before args s = true) (hK : va_K D cl (tyS cI cZ) s) (hP : va_P D cl ws H) (hD : va_D A ws) (hS : va_S A H0 H locs) (hA : ∀ q, H0.size ≤ q → A q) {n : Int32} (N : Nat) (hn : ¬ n < 0) (hN : n.toNatClampNeg = N) (hbytes : N * 4 ≤ 536870912) (hcells : cells + 1 ≤ R.cells) (hslots : slots + N ≤ R.slots) (hdg : decode cc pc = .ok (.newarray .int, 2))
    (kk : ∀ (q : Nat) (H1 : Heap), va_P D cl (ws ++ [(q, .inl (cI, N, .inl (fun _ => 0)))]) H1 → va_D A (ws ++ [(q, .inl (cI, N, .inl (fun _ => 0)))]) → va_S A H0 H1 locs → W p l e R s m args below meth c H1 locs (cells + 1) (slots + N) Q (F0 m (pc + 2) ls (.ref q :: rest))) : W p l e R s m args below meth c H locs cells slots Q (F0 m pc ls (.int n :: rest)) := by
  refine va_newa (atype := .int) (ty := .int) (a0 := (N, .inl (fun _ => 0))) hexec hb harr rfl hK hP hD hS hA (fun _ => rfl) hn hN hbytes hcells hslots hdg (fun q cA H1 hK1 hP1 hD1 hS1 => ?_)
  have e : cA = cI := by
    have h1 : s.vm.findClass ("[" ++ FieldType.int.toString) = some cA := (hK1.2 2 (cA, .int) rfl).2
    have h2 : s.vm.findClass ("[" ++ FieldType.int.toString) = some cI := (hK.2 0 (cI, .int) rfl).2
    exact Option.some.inj (h1.symm.trans h2)
  subst e
  exact kk q H1 hP1 hD1 hS1
theorem b_newZ (hexec : p.tables.exec = Jvm.exec) (hb : c.code = cc) (harr : (Cond.arrayClass .boolean).before args s = true) (hK : va_K D cl (tyS cI cZ) s) (hP : va_P D cl ws H) (hD : va_D A ws) (hS : va_S A H0 H locs) (hA : ∀ q, H0.size ≤ q → A q) {n : Int32} (N : Nat) (hn : ¬ n < 0) (hN : n.toNatClampNeg = N) (hbytes : N * 1 ≤ 536870912) (hcells : cells + 1 ≤ R.cells) (hslots : slots + N ≤ R.slots) (hdg : decode cc pc = .ok (.newarray .boolean, 2))
    (kk : ∀ (q : Nat) (H1 : Heap), va_P D cl (ws ++ [(q, .inl (cZ, N, .inl (fun _ => 0)))]) H1 → va_D A (ws ++ [(q, .inl (cZ, N, .inl (fun _ => 0)))]) → va_S A H0 H1 locs → W p l e R s m args below meth c H1 locs (cells + 1) (slots + N) Q (F0 m (pc + 2) ls (.ref q :: rest))) : W p l e R s m args below meth c H locs cells slots Q (F0 m pc ls (.int n :: rest)) := by
  refine va_newa (atype := .boolean) (ty := .boolean) (a0 := (N, .inl (fun _ => 0))) hexec hb harr rfl hK hP hD hS hA (fun _ => rfl) hn hN hbytes hcells hslots hdg (fun q cA H1 hK1 hP1 hD1 hS1 => ?_)
  have e : cA = cZ := by
    have h1 : s.vm.findClass ("[" ++ FieldType.boolean.toString) = some cA := (hK1.2 2 (cA, .boolean) rfl).2
    have h2 : s.vm.findClass ("[" ++ FieldType.boolean.toString) = some cZ := (hK.2 1 (cZ, .boolean) rfl).2
    exact Option.some.inj (h1.symm.trans h2)
  subst e
  exact kk q H1 hP1 hD1 hS1
end BLD
theorem nI_cl {i : Nat} (h : i < 2 ^ 31) : (nI i).toNatClampNeg = i := by
  rw [nI_oi, oi_clamp (by unfold ri32; omega)]
  rfl
section FILL
variable {p : Program} {l : Launch} {e : Env} {R : Room} {s : State} {m : MethodId} {args : Array Value} {below : List Frame} {meth : Method} {c : Code} {cells slots : Nat} {Q : State → Prop} {A : Nat → Prop} {D : va_G} {cI cZ : ClassId}
theorem fill_loop {h0 n : Nat} {v : Int32} (hx : p.tables.exec = Jvm.exec) (hb : c.code = cJ7_fill_53178) (hK : va_K D vwCl (tyS cI cZ) s) (hn : n < 2 ^ 31)
    (hend : ∀ (H : Heap) (locs : List Loc) (ls : Array Slot) (g : Nat → Int32), va_P D vwCl [(h0, .inl (cI, n, .inl g))] H → va_D A [(h0, .inl (cI, n, .inl g))] → va_S A s.heap H locs → (∀ j, j < n → g j = v) → W p l e R s m args below meth c H locs cells slots Q (F0 m 20 ls [])) :
    ∀ (K i : Nat) (g : Nat → Int32), n - i < K → i ≤ n → (∀ j, j < i → g j = v) → ∀ (H : Heap) (locs : List Loc) (ls : Array Slot), va_P D vwCl [(h0, .inl (cI, n, .inl g))] H → va_D A [(h0, .inl (cI, n, .inl g))] → va_S A s.heap H locs → lv_has ls 4 [(2, .int (nI i)), (0, .ref h0), (1, .int v), (3, .int (nI n))] → W p l e R s m args below meth c H locs cells slots Q (F0 m 5 ls []) := by
  intro K
  induction K with
  | zero => intros; omega
  | succ K ih =>
    intro i g hKi hi hg H locs ls hP hD hS hl
    refine lv_iload_n hx hb dJ7_fill_53178_5 rfl (lv_at hl 0 rfl) ?_
    refine lv_iload_n hx hb dJ7_fill_53178_6 rfl (lv_at hl 3 rfl) ?_
    refine lv_icmp_ge (tgt := 20) hx hb dJ7_fill_53178_7 (by decide) (fun c1 => ?_) (fun c1 => ?_)
    · have := (nI_leI (a := n) (b := i) hn (by omega)).mp c1
      exact hend H locs ls g hP hD hS (fun j hj => hg j (by omega))
    · have hin : i < n := by
        rcases Nat.lt_or_ge i n with q | q
        · exact q
        · exact absurd ((nI_leI (a := n) (b := i) hn (by omega)).mpr q) c1
      refine lv_aload_n hx hb dJ7_fill_53178_10 rfl (lv_at hl 1 rfl) ?_
      refine lv_iload_n hx hb dJ7_fill_53178_11 rfl (lv_at hl 0 rfl) ?_
      refine lv_iload_n hx hb dJ7_fill_53178_12 rfl (lv_at hl 2 rfl) ?_
      refine va_iast hx hb hK hP hD hS 0 0 rfl rfl (vp_in_nI hin hn) dJ7_fill_53178_13 (fun H locs hP hD hS => ?_)
      have hP : va_P D vwCl [(h0, .inl (cI, n, .inl (upd g (nI i).toNatClampNeg v)))] H := hP
      have hD : va_D A [(h0, .inl (cI, n, .inl (upd g (nI i).toNatClampNeg v)))] := hD
      rw [nI_cl (by omega)] at hP hD
      refine lv_iinc (v := nI (i + 1)) (lv' := [(2, .int (nI (i + 1))), (0, .ref h0), (1, .int v), (3, .int (nI n))]) hx hb dJ7_fill_53178_14 hl (k := 0) rfl (nI_1 i) (by decide) rfl (fun ls hl => ?_)
      refine lv_goto (tgt := 5) hx hb dJ7_fill_53178_17 (by decide) ?_
      refine ih (i + 1) (upd g i v) (by omega) (by omega) (fun j hj => ?_) H locs ls hP hD hS hl
      unfold upd
      by_cases z : j = i
      · rw [if_pos z]
      · rw [if_neg z]; exact hg j (by omega)
end FILL
theorem k_fill (l : Launch) (D : va_G) (cI cZ : ClassId) (h0 sz n : Nat) (f : Nat → Int32) (v : Int32) (hn : n < 2 ^ 31) : Met l mJ7_fill_53178.1 (WSm mJ7_fill_53178) (rmD 1) (va_Pc [.ref h0, .int v] (fun U => U.heap.size = sz ∧ va_P D vwCl [(h0, .inl (cI, n, .inl f))] U.heap ∧ va_K D vwCl (tyS cI cZ) U ∧ va_D (fun _ => True) [(h0, .inl (cI, n, .inl f))])) (va_Qv (fun (_ : Unit) => True) (fun _ U => va_P D vwCl [(h0, .inl (cI, n, .inl (fun _ => v)))] U.heap ∧ va_D (va_A [(h0, .inl (cI, n, .inl f))] sz) [(h0, .inl (cI, n, .inl (fun _ => v)))]) (va_A [(h0, .inl (cI, n, .inl f))] sz)) 0 0 (va_A [(h0, .inl (cI, n, .inl f))] sz) := by
  refine Met_ofWF (cc := cJ7_fill_53178) (maxL := 4) (ret := none) (by decide +kernel) rfl ?_
  intro p e s m args below meth c s₁ B hml hv
  obtain ⟨rfl, hsz, hP, hK, hD0⟩ := hv
  have hx := B.exec
  have hb := B.bytes
  have hr := B.returns
  have hlocks := B.notSynchronized
  subst hsz
  have hD := hD0.self (sz := s.heap.size)
  generalize hAe : va_A [(h0, .inl (cI, n, .inl f))] s.heap.size = A at hD ⊢
  have hS : va_S A s.heap s.heap [] := va_S.rf
  have hl := lv_entry ([.ref h0, .int v]) (n := 4) (Nat.le_of_ble_eq_true rfl)
  rw [lg_entry_eq]
  generalize (lg_sl ([.ref h0, .int v]) ++ List.replicate (4 - (lg_sl ([.ref h0, .int v])).length) Slot.unset).toArray = ls at hl ⊢
  have hl : lv_has ls 4 [(0, .ref h0), (1, .int v)] := hl
  refine lv_iconst (v := nI 0) hx hb dJ7_fill_53178_0 rfl ?_
  refine lv_istore_n (lv' := [(2, .int (nI 0)), (0, .ref h0), (1, .int v)]) hx hb dJ7_fill_53178_1 rfl hl (by decide) rfl (fun ls hl => ?_)
  refine lv_aload_n hx hb dJ7_fill_53178_2 rfl (lv_at hl 1 rfl) ?_
  refine va_alen (v := nI n) hx hb hK hP 0 0 rfl rfl rfl dJ7_fill_53178_3 ?_
  refine lv_istore_n (lv' := [(3, .int (nI n)), (2, .int (nI 0)), (0, .ref h0), (1, .int v)]) hx hb dJ7_fill_53178_4 rfl hl (by decide) rfl (fun ls hl => ?_)
  refine fill_loop (v := v) hx hb hK hn (fun H locs ls g hP hD hS hg => ?_) (n + 1) 0 f (by omega) (Nat.zero_le n) (fun j hj => absurd hj (Nat.not_lt_zero j)) s.heap [] ls hP hD hS (lv_mono hl (fun q hq => ?_))
  · exact W.vret hx hb hr (fun t ht hW => ⟨⟨(), rfl, trivial, by rw [ht]; exact va_P_one hP (fun j hj => (hg j hj).symm), va_D_one hD⟩, hS.F ht⟩) hS.2.2 dJ7_fill_53178_20 hlocks
  · simp only [List.mem_cons, List.not_mem_nil, or_false] at hq ⊢
    rcases hq with h | h | h | h
    · exact Or.inr (Or.inl h)
    · exact Or.inr (Or.inr (Or.inl h))
    · exact Or.inr (Or.inr (Or.inr h))
    · exact Or.inl h
theorem k_in (l : Launch) (v a b : Int32) : Met l mX4_in.1 (WSm mX4_in) (rmD 1) (va_Pc [.int v, .int a, .int b] (fun _ => True)) (va_Qi (fun r (_ : Unit) => (r = 1 ∧ a ≤ v ∧ v ≤ b) ∨ (r = 0 ∧ ¬ (a ≤ v ∧ v ≤ b))) (fun _ _ => True) (fun _ => False)) 0 0 (fun _ => False) := by
  refine Met_ofWF (cc := cX4_in) (maxL := 3) (ret := some .boolean) (by decide +kernel) rfl ?_
  intro p e s m args below meth c s₁ B hml hv
  obtain ⟨rfl, -⟩ := hv
  have hx := B.exec
  have hb := B.bytes
  have hr := B.returns
  have hlocks := B.notSynchronized
  have hS : va_S (fun _ => False) s.heap s.heap [] := va_S.rf
  have hl := lv_entry ([.int v, .int a, .int b]) (n := 3) (Nat.le_of_ble_eq_true rfl)
  rw [lg_entry_eq]
  generalize (lg_sl ([.int v, .int a, .int b]) ++ List.replicate (3 - (lg_sl ([.int v, .int a, .int b])).length) Slot.unset).toArray = ls at hl ⊢
  have hl : lv_has ls 3 [(0, .int v), (1, .int a), (2, .int b)] := hl
  refine lv_iload_n hx hb dX4_in_0 rfl (lv_at hl 0 rfl) ?_
  refine lv_iload_n hx hb dX4_in_1 rfl (lv_at hl 1 rfl) ?_
  refine lv_icmp_lt (tgt := 14) hx hb dX4_in_2 (by decide) (fun c1 => ?_) (fun c1 => ?_)
  · refine lv_iconst (v := 0) hx hb dX4_in_14 rfl ?_
    exact W.zret hx hb hr (by decide +kernel) (fun t ht hW => ⟨⟨0, (), rfl, Or.inr ⟨rfl, fun z => absurd c1 (Int32.not_lt.mpr z.1)⟩, trivial⟩, hS.F ht⟩) hS.2.2 dX4_in_15 hlocks
  · refine lv_iload_n hx hb dX4_in_5 rfl (lv_at hl 0 rfl) ?_
    refine lv_iload_n hx hb dX4_in_6 rfl (lv_at hl 2 rfl) ?_
    refine lv_icmp_gt (tgt := 14) hx hb dX4_in_7 (by decide) (fun c2 => ?_) (fun c2 => ?_)
    · refine lv_iconst (v := 0) hx hb dX4_in_14 rfl ?_
      exact W.zret hx hb hr (by decide +kernel) (fun t ht hW => ⟨⟨0, (), rfl, Or.inr ⟨rfl, fun z => absurd c2 (Int32.not_lt.mpr z.2)⟩, trivial⟩, hS.F ht⟩) hS.2.2 dX4_in_15 hlocks
    · refine lv_iconst (v := 1) hx hb dX4_in_10 rfl ?_
      refine lv_goto (tgt := 15) hx hb dX4_in_11 (by decide) ?_
      exact W.zret hx hb hr (by decide +kernel) (fun t ht hW => ⟨⟨1, (), rfl, Or.inl ⟨rfl, Int32.not_lt.mp c1, Int32.not_lt.mp c2⟩, trivial⟩, hS.F ht⟩) hS.2.2 dX4_in_15 hlocks

def bgf (j : Nat) : Int32 := Int32.ofInt (bg0 j)
theorem bgf_e {j : Nat} (h : j < 127) : bgf j = if 28 ≤ j ∧ j < 34 then -1 else if j = 1 then 3 else 0 := by
  unfold bgf
  rw [← bg_e j h]
  by_cases y : 28 ≤ j ∧ j < 34
  · rw [if_pos y, if_pos y]; rfl
  · rw [if_neg y, if_neg y]
    by_cases z : j = 1
    · rw [if_pos z, if_pos z]; rfl
    · rw [if_neg z, if_neg z]; rfl
section BEGIN
variable {p : Program} {l : Launch} {e : Env} {s : State} {m : MethodId} {args : Array Value} {below : List Frame} {meth : Method} {c : Code} {Q : State → Prop} {A : Nat → Prop} {D : va_G} {cI cZ : ClassId}
theorem begin_loop {h0 : Nat} (hx : p.tables.exec = Jvm.exec) (hb : c.code = cX4_begin) (hml : c.maxLocals = 2) (hown : s.vm.findClass RX4 = some m.cls) (hts : ∀ w ∈ BIG, w.before args s = true) (hK : va_K D vwCl (tyS cI cZ) s)
    (hend : ∀ (H : Heap) (locs : List Loc) (ls : Array Slot) (g : Nat → Int32), va_P D vwCl [(h0, .inl (cI, 127, .inl g))] H → va_D A [(h0, .inl (cI, 127, .inl g))] → va_S A s.heap H locs → (∀ j, j < 127 → g j = if 28 ≤ j ∧ j < 34 then -1 else 0) → lv_has ls 2 [(0, .ref h0)] → W p l e (rmD 3) s m args below meth c H locs 0 0 Q (F0 m 33 ls [])) :
    ∀ (K i : Nat) (g : Nat → Int32), 127 - i < K → i ≤ 127 → (∀ j, j < i → g j = if 28 ≤ j ∧ j < 34 then -1 else 0) → ∀ (H : Heap) (locs : List Loc) (ls : Array Slot), va_P D vwCl [(h0, .inl (cI, 127, .inl g))] H → va_D A [(h0, .inl (cI, 127, .inl g))] → va_S A s.heap H locs → lv_has ls 2 [(1, .int (nI i)), (0, .ref h0)] → W p l e (rmD 3) s m args below meth c H locs 0 0 Q (F0 m 2 ls []) := by
  intro K
  induction K with
  | zero => intros; omega
  | succ K ih =>
    intro i g hKi hi hg H locs ls hP hD hS hl
    refine lv_iload_n hx hb dX4_begin_2 rfl (lv_at hl 0 rfl) ?_
    refine lv_bipush (v := nI 127) hx hb dX4_begin_3 (by decide) ?_
    refine lv_icmp_ge (tgt := 33) hx hb dX4_begin_5 (by decide) (fun c1 => ?_) (fun c1 => ?_)
    · have := (nI_leI (a := 127) (b := i) (by decide) (by omega)).mp c1
      exact hend H locs ls g hP hD hS (fun j hj => hg j (by omega)) (lv_mono hl (fun q hq => List.mem_cons_of_mem _ hq))
    · have hin : i < 127 := by
        rcases Nat.lt_or_ge i 127 with q | q
        · exact q
        · exact absurd ((nI_leI (a := 127) (b := i) (by decide) (by omega)).mpr q) c1
      refine lv_aload_n hx hb dX4_begin_8 rfl (lv_at hl 1 rfl) ?_
      refine lv_iload_n hx hb dX4_begin_9 rfl (lv_at hl 0 rfl) ?_
      refine lv_iload_n hx hb dX4_begin_10 rfl (lv_at hl 0 rfl) ?_
      refine lv_bipush (v := nI 28) hx hb dX4_begin_11 (by decide) ?_
      refine lv_bipush (v := nI 33) hx hb dX4_begin_13 (by decide) ?_
      refine va_calli (va_runS (As := [.int (nI i), .int (nI 28), .int (nI 33)]) (rest := [.int (nI i), .ref h0]) ⟨hx, hb, hml, hown, hts⟩ (k_in l (nI i) (nI 28) (nI 33)) (va_cwS 3 hts (sta_good st_X4_53) rfl rfl rfl ok_X4_in.2.2.1 ⟨Nat.le_of_ble_eq_true rfl, Nat.le_of_ble_eq_true rfl⟩) ⟨fun a U g mk q => q, fun U hU hW => ⟨rfl, trivial⟩⟩ rfl rfl hl.1 rfl (lv_room (Nat.le_of_ble_eq_true rfl)) dX4_begin_15 ⟨Nat.le_of_ble_eq_true rfl, Nat.le_of_ble_eq_true rfl⟩) hS (fun q _ h => h.elim) (fun q h => h.elim) (fun r u t H1 locs ht hvm hw hB hz1 hk1 hS => ?_)
      have hP : va_P D vwCl [(h0, .inl (cI, 127, .inl g))] H1 := hP.kept (fun k q hq => hk1 q.1 (hP k q hq).lt (fun z => z))
      have e28 : (nI 28 ≤ nI i ∧ nI i ≤ nI 33) ↔ (28 ≤ i ∧ i < 34) := by
        rw [nI_leI (by decide) (by omega), nI_leI (by omega) (by decide)]
        omega
      rw [e28] at hw
      have go : ∀ x : Int32, x = (if 28 ≤ i ∧ i < 34 then -1 else 0) → W p l e (rmD 3) s m args below meth c H1 locs 0 0 Q (F0 m 26 ls [.int x, .int (nI i), .ref h0]) := by
        intro x hxe
        refine va_iast hx hb hK hP hD hS 0 0 rfl rfl (vp_in_nI hin (by decide)) dX4_begin_26 (fun H locs hP hD hS => ?_)
        have hP : va_P D vwCl [(h0, .inl (cI, 127, .inl (upd g (nI i).toNatClampNeg x)))] H := hP
        have hD : va_D A [(h0, .inl (cI, 127, .inl (upd g (nI i).toNatClampNeg x)))] := hD
        rw [nI_cl (by omega)] at hP hD
        refine lv_iinc (v := nI (i + 1)) (lv' := [(1, .int (nI (i + 1))), (0, .ref h0)]) hx hb dX4_begin_27 hl (k := 0) rfl (nI_1 i) (by decide) rfl (fun ls hl => ?_)
        refine lv_goto (tgt := 2) hx hb dX4_begin_30 (by decide) ?_
        refine ih (i + 1) (upd g i x) (by omega) (by omega) (fun j hj => ?_) H locs ls hP hD hS hl
        unfold upd
        by_cases z : j = i
        · rw [if_pos z, hxe, z]
        · rw [if_neg z]; exact hg j (by omega)
      refine lv_if_eq (tgt := 25) hx hb dX4_begin_18 (by decide) (fun c2 => ?_) (fun c2 => ?_)
      · refine lv_iconst (v := 0) hx hb dX4_begin_25 rfl ?_
        refine go 0 ?_
        rcases hw with ⟨h1, h2⟩ | ⟨h1, h2⟩
        · rw [h1] at c2; exact absurd c2 (by decide)
        · rw [if_neg h2]
      · refine lv_iconst (v := -1) hx hb dX4_begin_21 rfl ?_
        refine lv_goto (tgt := 26) hx hb dX4_begin_22 (by decide) ?_
        refine go (-1) ?_
        rcases hw with ⟨h1, h2⟩ | ⟨h1, h2⟩
        · rw [if_pos h2]
        · exact absurd h1 c2
end BEGIN
theorem k_begin (l : Launch) (D : va_G) (cI cZ : ClassId) (h0 sz : Nat) (f : Nat → Int32) : Met l mX4_begin.1 (WSm mX4_begin) (rmD 3) (va_Pc [.ref h0] (fun U => U.heap.size = sz ∧ va_P D vwCl [(h0, .inl (cI, 127, .inl f))] U.heap ∧ va_K D vwCl (tyS cI cZ) U ∧ va_D (fun _ => True) [(h0, .inl (cI, 127, .inl f))])) (va_Qv (fun (_ : Unit) => True) (fun _ U => va_P D vwCl [(h0, .inl (cI, 127, .inl bgf))] U.heap ∧ va_D (va_A [(h0, .inl (cI, 127, .inl f))] sz) [(h0, .inl (cI, 127, .inl bgf))]) (va_A [(h0, .inl (cI, 127, .inl f))] sz)) 0 0 (va_A [(h0, .inl (cI, 127, .inl f))] sz) := by
  refine Met_ofWF (cc := cX4_begin) (maxL := 2) (ret := none) (by decide +kernel) rfl ?_
  intro p e s m args below meth c s₁ B hml hv
  obtain ⟨rfl, hsz, hP, hK, hD0⟩ := hv
  have hx := B.exec
  have hb := B.bytes
  have hr := B.returns
  have hlocks := B.notSynchronized
  have hts : ∀ w ∈ BIG, w.before _ s = true := fun w hw => atoms_spec (ws := WSm mX4_begin) B.pre w (List.mem_cons_of_mem _ hw)
  have hown : s.vm.findClass RX4 = some m.cls := findClass_of_methodNamed B.named
  subst hsz
  have hD := hD0.self (sz := s.heap.size)
  generalize hAe : va_A [(h0, .inl (cI, 127, .inl f))] s.heap.size = A at hD ⊢
  have hS : va_S A s.heap s.heap [] := va_S.rf
  have hl := lv_entry ([.ref h0]) (n := 2) (Nat.le_of_ble_eq_true rfl)
  rw [lg_entry_eq]
  generalize (lg_sl ([.ref h0]) ++ List.replicate (2 - (lg_sl ([.ref h0])).length) Slot.unset).toArray = ls at hl ⊢
  have hl : lv_has ls 2 [(0, .ref h0)] := hl
  refine lv_iconst (v := nI 0) hx hb dX4_begin_0 rfl ?_
  refine lv_istore_n (lv' := [(1, .int (nI 0)), (0, .ref h0)]) hx hb dX4_begin_1 rfl hl (by decide) rfl (fun ls hl => ?_)
  refine begin_loop hx hb hml hown hts hK (fun H locs ls g hP hD hS hg hl => ?_) 128 0 f (by omega) (Nat.zero_le _) (fun j hj => absurd hj (Nat.not_lt_zero j)) s.heap [] ls hP hD hS hl
  refine lv_aload_n hx hb dX4_begin_33 rfl (lv_at hl 0 rfl) ?_
  refine lv_iconst (v := nI 1) hx hb dX4_begin_34 rfl ?_
  refine lv_iconst (v := 3) hx hb dX4_begin_35 rfl ?_
  refine va_iast hx hb hK hP hD hS 0 0 rfl rfl (vp_in_nI (n := 1) (N := 127) (by decide) (by decide)) dX4_begin_36 (fun H locs hP hD hS => ?_)
  have hP : va_P D vwCl [(h0, .inl (cI, 127, .inl (upd g (nI 1).toNatClampNeg 3)))] H := hP
  have hD : va_D A [(h0, .inl (cI, 127, .inl (upd g (nI 1).toNatClampNeg 3)))] := hD
  rw [nI_cl (by decide)] at hP
  exact W.vret hx hb hr (fun t ht hW => ⟨⟨(), rfl, trivial, by rw [ht]; exact va_P_one hP (fun j hj => by
    rw [bgf_e hj]
    unfold upd
    by_cases z : j = 1
    · rw [if_pos z, if_neg (by omega), if_pos z]
    · rw [if_neg z, hg j hj]
      by_cases y : 28 ≤ j ∧ j < 34
      · rw [if_pos y, if_neg z]
      · rw [if_neg y, if_neg z]), va_D_one hD⟩, hS.F ht⟩) hS.2.2 dX4_begin_37 hlocks
