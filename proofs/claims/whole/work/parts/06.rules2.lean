theorem BIG_cl : ∀ i, i < 5 → ∀ w ∈ u_ws ([RX0, RX1, RX2, RX3, RX4].getD i "") ([TX0, TX1, TX2, TX3, TX4].getD i TX0) ([5, 9, 14, 13, 19].getD i 0), w ∈ BIG := by decide +kernel
theorem cp_nat : Cond.native arraycopyName ∈ BIG := by decide +kernel
theorem cp_sta : Cond.static arraycopyName ∈ BIG := by decide +kernel
theorem cp_ini : Cond.initialized "java/lang/System" ∈ BIG := by decide +kernel
theorem cp_room : (([] : List Value).map fun v => v.category).sum + (nativeFrameWords "java/lang/System" "arraycopy" 5 + 11) ≤ 35 * 1 := by decide +kernel

/-- what the tables say of a class: its fields' layout goes along; its names are apart -/
theorem cl_in : ∀ (ci : Nat) (q : vw_C), vwCl[ci]? = some q → (∀ w ∈ u_ws q.1 q.2.1 q.2.2, w ∈ BIG) ∧ (∀ k, k < q.2.2 → ∃ ty, parseFieldDescriptor (q.2.1 k).2.2.1 = some ty) ∧ (∀ a, a < q.2.2 → ∀ b, b < q.2.2 → a ≠ b → (q.2.1 a).2.1 ≠ (q.2.1 b).2.1) := by
  intro ci q h
  match ci, h with
  | 0, h => cases h; exact ⟨fun w hw => BIG_cl 0 (by decide) w hw, fun k hk => ⟨_, tyX0_ok k hk⟩, nmX0⟩
  | 1, h => cases h; exact ⟨fun w hw => BIG_cl 1 (by decide) w hw, fun k hk => ⟨_, tyX1_ok k hk⟩, nmX1⟩
  | 2, h => cases h; exact ⟨fun w hw => BIG_cl 2 (by decide) w hw, fun k hk => ⟨_, tyX2_ok k hk⟩, nmX2⟩
  | 3, h => cases h; exact ⟨fun w hw => BIG_cl 3 (by decide) w hw, fun k hk => ⟨_, tyX3_ok k hk⟩, nmX3⟩
  | 4, h => cases h; exact ⟨fun w hw => BIG_cl 4 (by decide) w hw, fun k hk => ⟨_, tyX4_ok k hk⟩, nmX4⟩
  | n + 5, h => simp [vwCl] at h
/-- entry idx of the class own is field k of class ci -/
def FD (own : String) (idx ci k : Nat) : Prop := ∃ q : vw_C, vwCl[ci]? = some q ∧ k < q.2.2 ∧ Cond.fieldLink own idx (q.2.1 k).1 (q.2.1 k).2.1 (q.2.1 k).2.2.1 ∈ BIG
/-- and it may be written: of this kind -/
def FP (own : String) (idx ci k t : Nat) : Prop := FD own idx ci k ∧ ∃ q : vw_C, vwCl[ci]? = some q ∧ (q.2.1 k).2.2.2 = false ∧ parseFieldDescriptor (q.2.1 k).2.2.1 = some (match t with | 0 => .int | 1 => .boolean | _ => .long)
theorem kd_sz : ∀ i, i < 50 → kdT i < 5 → ∀ q, vwCl[kdT i]? = some q → q.2.2 = szT i := by decide +kernel
theorem vwCl_lt {ci : Nat} {q : vw_C} (h : vwCl[ci]? = some q) : ci < 5 := (List.getElem?_eq_some_iff.mp h).1
theorem nb_ok {z : Int} (h0 : 0 ≤ z) (h1 : z ≤ 1) : narrow .boolean (.int (Int32.ofInt z)) = .int (Int32.ofInt z) ∧ fits .boolean (.int (Int32.ofInt z)) = true := by
  rcases (show z = 0 ∨ z = 1 by omega) with rfl | rfl <;> exact ⟨by decide +kernel, by decide +kernel⟩
theorem get_core {κ : Kx} {own : String} {cc : ByteArray} {d pc : Nat} {ls : List (Option MV)} {st : List MV} {w : Wd} (h : ctxB κ own cc d) {idx i ci k : Nat} {v : MV} (hd : decode cc pc = .ok (.getfield idx, 3)) (hf : FD own idx ci k) (hk : kdT i = ci) (hv : ∀ G : Geo, fvT G (ftc ci k) i (w i k) = rv G v) (ho : rngW w → okv v) (kk : VV κ (pc + 3) ls (v :: st) w) : VV κ pc ls (.inr (.inr i) :: st) w := by
  obtain ⟨p, l, e, R, s, m, args, below, meth, c, cells, slots, Qs, G⟩ := κ
  obtain ⟨hx, hb, hown, hts, hlk, hK, hKU, hG, hfr, hlo, hce, hsl⟩ := h
  intro hL hS hW H locs rl hP hSS hl
  obtain ⟨q, hq, hkq, hlink⟩ := hf
  have hc5 := vwCl_lt hq
  have hi : i < 50 := kdT_lt (by omega)
  have hsz : q.2.2 = szT i := kd_sz i hi (by omega) q (by rw [hk]; exact hq)
  refine va_get (C := q.1) (T := q.2.1) (N := q.2.2) (v := rv G v) hx hb hts (cl_in ci q hq).1 hown hK hP i ((cellsT_at G w hi).trans (by rw [contT_obj G w hk hc5])) hq k hkq (hts _ hlink) (fun _ h9 => h9) ?_ hd ?_
  · rw [fldsT_at G w (by omega), hv G]
  · exact kk hL (ok_c (ho hW) (ok_t hS)) hW H locs rl hP hSS hl
section RULES2
variable {κ : Kx} {own : String} {cc : ByteArray} {d pc : Nat} {ls : List (Option MV)} {st : List MV} {w : Wd}
theorem v_getI (h : ctxB κ own cc d) {idx i ci k : Nat} (hd : decode cc pc = .ok (.getfield idx, 3)) (hf : FD own idx ci k) (hk : kdT i = ci) (ht : ftc ci k = 0) (kk : VV κ (pc + 3) ls (.inl (w i k) :: st) w) : VV κ pc ls (.inr (.inr i) :: st) w := by
  refine get_core h hd hf hk (fun G => by rw [ht]; rfl) (fun hW => ?_) kk
  obtain ⟨q, hq, hkq, -⟩ := hf
  have hc5 := vwCl_lt hq
  have hi : i < 50 := kdT_lt (by omega)
  have hsz : q.2.2 = szT i := kd_sz i hi (by omega) q (by rw [hk]; exact hq)
  have := hW.1 i k hi (by omega)
  rw [show tyT i k = 0 by unfold tyT; rw [if_neg (by omega), if_neg (by omega), hk, ht]] at this
  exact this
theorem v_getZ (h : ctxB κ own cc d) {idx i ci k : Nat} (hd : decode cc pc = .ok (.getfield idx, 3)) (hf : FD own idx ci k) (hk : kdT i = ci) (ht : ftc ci k = 1) (kk : VV κ (pc + 3) ls (.inl (w i k) :: st) w) : VV κ pc ls (.inr (.inr i) :: st) w := by
  refine get_core h hd hf hk (fun G => by rw [ht]; rfl) (fun hW => ?_) kk
  obtain ⟨q, hq, hkq, -⟩ := hf
  have hc5 := vwCl_lt hq
  have hi : i < 50 := kdT_lt (by omega)
  have hsz : q.2.2 = szT i := kd_sz i hi (by omega) q (by rw [hk]; exact hq)
  have := hW.1 i k hi (by omega)
  rw [show tyT i k = 1 by unfold tyT; rw [if_neg (by omega), if_neg (by omega), hk, ht]] at this
  have h2 : 0 ≤ w i k ∧ w i k ≤ 1 := this
  show ri32 _
  unfold ri32
  omega
theorem v_getL (h : ctxB κ own cc d) {idx i ci k : Nat} (hd : decode cc pc = .ok (.getfield idx, 3)) (hf : FD own idx ci k) (hk : kdT i = ci) (ht : ftc ci k = 2) (kk : VV κ (pc + 3) ls (.inr (.inl (w i k)) :: st) w) : VV κ pc ls (.inr (.inr i) :: st) w := by
  refine get_core h hd hf hk (fun G => by rw [ht]; rfl) (fun hW => ?_) kk
  obtain ⟨q, hq, hkq, -⟩ := hf
  have hc5 := vwCl_lt hq
  have hi : i < 50 := kdT_lt (by omega)
  have hsz : q.2.2 = szT i := kd_sz i hi (by omega) q (by rw [hk]; exact hq)
  have := hW.1 i k hi (by omega)
  rw [show tyT i k = 2 by unfold tyT; rw [if_neg (by omega), if_neg (by omega), hk, ht]] at this
  exact this
theorem v_getR (h : ctxB κ own cc d) {idx i ci k off j : Nat} (hd : decode cc pc = .ok (.getfield idx, 3)) (hf : FD own idx ci k) (hk : kdT i = ci) (ht : ftc ci k = off + 3) (hj : i + off = j) (kk : VV κ (pc + 3) ls (.inr (.inr j) :: st) w) : VV κ pc ls (.inr (.inr i) :: st) w := by
  subst hj
  exact get_core (v := .inr (.inr (i + off))) h hd hf hk (fun G => by rw [ht]; rfl) (fun _ => trivial) kk
theorem v_putI (h : ctxB κ own cc d) {idx i ci k : Nat} {z : Int} (hd : decode cc pc = .ok (.putfield idx, 3)) (hf : FP own idx ci k 0) (hk : kdT i = ci) (ht : ftc ci k = 0) (kk : VV κ (pc + 3) ls st (up w i k z)) : VV κ pc ls ((.inl z) :: .inr (.inr i) :: st) w := by
  obtain ⟨p, l, e, R, s, m, args, below, meth, c, cells, slots, Qs, G⟩ := κ
  obtain ⟨hx, hb, hown, hts, hlk, hK, hKU, hG, hfr, hlo, hce, hsl⟩ := h
  intro hL hS hW H locs rl hP hSS hl
  obtain ⟨⟨q, hq, hkq, hlink⟩, q2, hq2, hfin, hpar⟩ := hf
  cases hq.symm.trans hq2
  have hc5 := vwCl_lt hq
  have hi : i < 50 := kdT_lt (by omega)
  have hsz : q.2.2 = szT i := kd_sz i hi (by omega) q (by rw [hk]; exact hq)
  have hcl := cl_in ci q hq
  obtain ⟨ty0, hty0⟩ : ∃ ty0 : Nat → FieldType, ∀ k, k < q.2.2 → parseFieldDescriptor (q.2.1 k).2.2.1 = some (ty0 k) := ⟨fun k => (parseFieldDescriptor (q.2.1 k).2.2.1).getD .int, fun k hk => by obtain ⟨ty, h9⟩ := hcl.2.1 k hk; simp [h9]⟩
  have hz : ri32 z := ok_h hS
  refine va_put (C := q.1) (T := q.2.1) (N := q.2.2) (v := (.int (Int32.ofInt z))) hx hb hts hcl.1 ty0 hty0 hcl.2.2 hown hK hP (cellsT_D hG w) hSS i ((cellsT_at G w hi).trans (by rw [contT_obj G w hk hc5])) hq k hkq (hts _ hlink) (fun _ h9 => h9) hfin hpar rfl rfl (by rw [fldsT_len]; omega) hd (fun H1 locs1 hP1 hD1 hS1 => ?_)
  have e1 : (cellsT G w).set i (G.1 i, .inr (ci, (fldsT G w i ci (szT i)).set k (.int (Int32.ofInt z)))) = cellsT G (up w i k z) := by
    rw [← cellsT_set G hi (fun j hj => contT_up_ne G w z hj), contT_obj G (up w i k z) hk hc5, ← fldsT_set G w z, ht]
    rfl
  rw [e1] at hP1
  refine kk hL (ok_t (ok_t hS)) (rngW_up hW hi ?_) H1 locs1 rl hP1 hS1 hl
  rw [show tyT i k = 0 by unfold tyT; rw [if_neg (by omega), if_neg (by omega), hk, ht]]
  exact hz
theorem v_putZ (h : ctxB κ own cc d) {idx i ci k : Nat} {z : Int} (hd : decode cc pc = .ok (.putfield idx, 3)) (hf : FP own idx ci k 1) (hk : kdT i = ci) (ht : ftc ci k = 1) (hz : 0 ≤ z ∧ z ≤ 1) (kk : VV κ (pc + 3) ls st (up w i k z)) : VV κ pc ls ((.inl z) :: .inr (.inr i) :: st) w := by
  obtain ⟨p, l, e, R, s, m, args, below, meth, c, cells, slots, Qs, G⟩ := κ
  obtain ⟨hx, hb, hown, hts, hlk, hK, hKU, hG, hfr, hlo, hce, hsl⟩ := h
  intro hL hS hW H locs rl hP hSS hl
  obtain ⟨⟨q, hq, hkq, hlink⟩, q2, hq2, hfin, hpar⟩ := hf
  cases hq.symm.trans hq2
  have hc5 := vwCl_lt hq
  have hi : i < 50 := kdT_lt (by omega)
  have hsz : q.2.2 = szT i := kd_sz i hi (by omega) q (by rw [hk]; exact hq)
  have hcl := cl_in ci q hq
  obtain ⟨ty0, hty0⟩ : ∃ ty0 : Nat → FieldType, ∀ k, k < q.2.2 → parseFieldDescriptor (q.2.1 k).2.2.1 = some (ty0 k) := ⟨fun k => (parseFieldDescriptor (q.2.1 k).2.2.1).getD .int, fun k hk => by obtain ⟨ty, h9⟩ := hcl.2.1 k hk; simp [h9]⟩

  refine va_put (C := q.1) (T := q.2.1) (N := q.2.2) (v := (.int (Int32.ofInt z))) hx hb hts hcl.1 ty0 hty0 hcl.2.2 hown hK hP (cellsT_D hG w) hSS i ((cellsT_at G w hi).trans (by rw [contT_obj G w hk hc5])) hq k hkq (hts _ hlink) (fun _ h9 => h9) hfin hpar (nb_ok hz.1 hz.2).1 (nb_ok hz.1 hz.2).2 (by rw [fldsT_len]; omega) hd (fun H1 locs1 hP1 hD1 hS1 => ?_)
  have e1 : (cellsT G w).set i (G.1 i, .inr (ci, (fldsT G w i ci (szT i)).set k (.int (Int32.ofInt z)))) = cellsT G (up w i k z) := by
    rw [← cellsT_set G hi (fun j hj => contT_up_ne G w z hj), contT_obj G (up w i k z) hk hc5, ← fldsT_set G w z, ht]
    rfl
  rw [e1] at hP1
  refine kk hL (ok_t (ok_t hS)) (rngW_up hW hi ?_) H1 locs1 rl hP1 hS1 hl
  rw [show tyT i k = 1 by unfold tyT; rw [if_neg (by omega), if_neg (by omega), hk, ht]]
  exact hz
theorem v_putL (h : ctxB κ own cc d) {idx i ci k : Nat} {z : Int} (hd : decode cc pc = .ok (.putfield idx, 3)) (hf : FP own idx ci k 2) (hk : kdT i = ci) (ht : ftc ci k = 2) (kk : VV κ (pc + 3) ls st (up w i k z)) : VV κ pc ls ((.inr (.inl z)) :: .inr (.inr i) :: st) w := by
  obtain ⟨p, l, e, R, s, m, args, below, meth, c, cells, slots, Qs, G⟩ := κ
  obtain ⟨hx, hb, hown, hts, hlk, hK, hKU, hG, hfr, hlo, hce, hsl⟩ := h
  intro hL hS hW H locs rl hP hSS hl
  obtain ⟨⟨q, hq, hkq, hlink⟩, q2, hq2, hfin, hpar⟩ := hf
  cases hq.symm.trans hq2
  have hc5 := vwCl_lt hq
  have hi : i < 50 := kdT_lt (by omega)
  have hsz : q.2.2 = szT i := kd_sz i hi (by omega) q (by rw [hk]; exact hq)
  have hcl := cl_in ci q hq
  obtain ⟨ty0, hty0⟩ : ∃ ty0 : Nat → FieldType, ∀ k, k < q.2.2 → parseFieldDescriptor (q.2.1 k).2.2.1 = some (ty0 k) := ⟨fun k => (parseFieldDescriptor (q.2.1 k).2.2.1).getD .int, fun k hk => by obtain ⟨ty, h9⟩ := hcl.2.1 k hk; simp [h9]⟩
  have hz : ri64 z := ok_h hS
  refine va_put (C := q.1) (T := q.2.1) (N := q.2.2) (v := (.long (Int64.ofInt z))) hx hb hts hcl.1 ty0 hty0 hcl.2.2 hown hK hP (cellsT_D hG w) hSS i ((cellsT_at G w hi).trans (by rw [contT_obj G w hk hc5])) hq k hkq (hts _ hlink) (fun _ h9 => h9) hfin hpar rfl rfl (by rw [fldsT_len]; omega) hd (fun H1 locs1 hP1 hD1 hS1 => ?_)
  have e1 : (cellsT G w).set i (G.1 i, .inr (ci, (fldsT G w i ci (szT i)).set k (.long (Int64.ofInt z)))) = cellsT G (up w i k z) := by
    rw [← cellsT_set G hi (fun j hj => contT_up_ne G w z hj), contT_obj G (up w i k z) hk hc5, ← fldsT_set G w z, ht]
    rfl
  rw [e1] at hP1
  refine kk hL (ok_t (ok_t hS)) (rngW_up hW hi ?_) H1 locs1 rl hP1 hS1 hl
  rw [show tyT i k = 2 by unfold tyT; rw [if_neg (by omega), if_neg (by omega), hk, ht]]
  exact hz
theorem v_iald (h : ctxB κ own cc d) {i : Nat} {j : Int} (hd : decode cc pc = .ok (.iaload, 1)) (hk : kdT i = 5) (h0 : 0 ≤ j) (h1 : j < (szT i : Int)) (kk : VV κ (pc + 1) ls (.inl (w i j.toNat) :: st) w) : VV κ pc ls (.inl j :: .inr (.inr i) :: st) w := by
  obtain ⟨p, l, e, R, s, m, args, below, meth, c, cells, slots, Qs, G⟩ := κ
  obtain ⟨hx, hb, hown, hts, hlk, hK, hKU, hG, hfr, hlo, hce, hsl⟩ := h
  intro hL hS hW H locs rl hP hSS hl
  have hi : i < 50 := kdT_lt (by omega)
  have hj : ri32 j := ok_h hS
  refine va_iald hx hb hK hP i 0 ((cellsT_at G w hi).trans (by rw [contT_int G w hk])) rfl (oi_in hj h0 h1) hd ?_
  rw [oi_clamp hj]
  have hr := hW.1 i j.toNat hi (by omega)
  rw [show tyT i j.toNat = 0 by unfold tyT; rw [if_pos hk]] at hr
  exact kk hL (ok_c hr (ok_t (ok_t hS))) hW H locs rl hP hSS hl
theorem v_ialdP (h : ctxB κ own cc d) {j : Int} (hd : decode cc pc = .ok (.iaload, 1)) (h0 : 0 ≤ j) (h1 : j < 7) (kk : VV κ (pc + 1) ls (.inl (w 50 j.toNat) :: st) w) : VV κ pc ls (.inl j :: .inr (.inr 50) :: st) w := by
  obtain ⟨p, l, e, R, s, m, args, below, meth, c, cells, slots, Qs, G⟩ := κ
  obtain ⟨hx, hb, hown, hts, hlk, hK, hKU, hG, hfr, hlo, hce, hsl⟩ := h
  intro hL hS hW H locs rl hP hSS hl
  have hj : ri32 j := ok_h hS
  refine va_ti hx hb hKU.2.1 hSS (oi_in hj h0 h1) rfl hd ?_
  rw [oi_clamp hj]
  have e := hW.2 j.toNat (by omega)
  rw [← e]
  have hr : ri32 (w 50 j.toNat) := by
    rw [e]
    have : ∀ k, k < 7 → ri32 (10 ^ k) := by unfold ri32; decide +kernel
    exact this _ (by omega)
  exact kk hL (ok_c hr (ok_t (ok_t hS))) hW H locs rl hP hSS hl
theorem v_iast (h : ctxB κ own cc d) {i : Nat} {j z : Int} (hd : decode cc pc = .ok (.iastore, 1)) (hk : kdT i = 5) (h0 : 0 ≤ j) (h1 : j < (szT i : Int)) (kk : VV κ (pc + 1) ls st (up w i j.toNat z)) : VV κ pc ls (.inl z :: .inl j :: .inr (.inr i) :: st) w := by
  obtain ⟨p, l, e, R, s, m, args, below, meth, c, cells, slots, Qs, G⟩ := κ
  obtain ⟨hx, hb, hown, hts, hlk, hK, hKU, hG, hfr, hlo, hce, hsl⟩ := h
  intro hL hS hW H locs rl hP hSS hl
  have hi : i < 50 := kdT_lt (by omega)
  have hz : ri32 z := ok_h hS
  have hj : ri32 j := ok_h (ok_t hS)
  refine va_iast hx hb hK hP (cellsT_D hG w) hSS i 0 ((cellsT_at G w hi).trans (by rw [contT_int G w hk])) rfl (oi_in hj h0 h1) hd (fun H1 locs1 hP1 hD1 hS1 => ?_)
  have e1 : (cellsT G w).set i (G.1 i, .inl (G.2.2.1, szT i, .inl (upd (fun j => Int32.ofInt (w i j)) (Int32.ofInt j).toNatClampNeg (Int32.ofInt z)))) = cellsT G (up w i j.toNat z) := by
    rw [← cellsT_set G hi (fun j hj => contT_up_ne G w z hj), contT_int G (up w i j.toNat z) hk, oi_clamp hj]
    congr 6
    funext a
    by_cases ha : a = j.toNat
    · subst ha
      rw [up_same]
      exact if_pos rfl
    · rw [up_pl w z ha]
      exact if_neg ha
  rw [e1] at hP1
  refine kk hL (ok_t (ok_t (ok_t hS))) (rngW_up hW hi ?_) H1 locs1 rl hP1 hS1 hl
  rw [show tyT i j.toNat = 0 by unfold tyT; rw [if_pos hk]]
  exact hz
theorem v_zald (h : ctxB κ own cc d) {i : Nat} {j : Int} (hd : decode cc pc = .ok (.baload, 1)) (hk : kdT i = 6) (h0 : 0 ≤ j) (h1 : j < (szT i : Int)) (kk : VV κ (pc + 1) ls (.inl (w i j.toNat) :: st) w) : VV κ pc ls (.inl j :: .inr (.inr i) :: st) w := by
  obtain ⟨p, l, e, R, s, m, args, below, meth, c, cells, slots, Qs, G⟩ := κ
  obtain ⟨hx, hb, hown, hts, hlk, hK, hKU, hG, hfr, hlo, hce, hsl⟩ := h
  intro hL hS hW H locs rl hP hSS hl
  have hi : i < 50 := kdT_lt (by omega)
  have hj : ri32 j := ok_h hS
  refine va_zald hx hb hK hP i 1 ((cellsT_at G w hi).trans (by rw [contT_bool G w hk])) rfl (oi_in hj h0 h1) hd ?_
  rw [oi_clamp hj]
  have hr := hW.1 i j.toNat hi (by omega)
  rw [show tyT i j.toNat = 1 by unfold tyT; rw [if_neg (by omega), if_pos hk]] at hr
  have h2 : 0 ≤ w i j.toNat ∧ w i j.toNat ≤ 1 := hr
  exact kk hL (ok_c (show ri32 _ by unfold ri32; omega) (ok_t (ok_t hS))) hW H locs rl hP hSS hl
theorem v_zast (h : ctxB κ own cc d) {i : Nat} {j z : Int} (hd : decode cc pc = .ok (.bastore, 1)) (hk : kdT i = 6) (h0 : 0 ≤ j) (h1 : j < (szT i : Int)) (hz : 0 ≤ z ∧ z ≤ 1) (kk : VV κ (pc + 1) ls st (up w i j.toNat z)) : VV κ pc ls (.inl z :: .inl j :: .inr (.inr i) :: st) w := by
  obtain ⟨p, l, e, R, s, m, args, below, meth, c, cells, slots, Qs, G⟩ := κ
  obtain ⟨hx, hb, hown, hts, hlk, hK, hKU, hG, hfr, hlo, hce, hsl⟩ := h
  intro hL hS hW H locs rl hP hSS hl
  have hi : i < 50 := kdT_lt (by omega)
  have hj : ri32 j := ok_h (ok_t hS)
  refine va_zast hx hb hK hP (cellsT_D hG w) hSS i 1 ((cellsT_at G w hi).trans (by rw [contT_bool G w hk])) rfl (oi_in hj h0 h1) hd (fun H1 locs1 hP1 hD1 hS1 => ?_)
  have e0 : vp_nar .boolean (Int32.ofInt z) = Int32.ofInt z := by
    unfold vp_nar
    rw [(nb_ok hz.1 hz.2).1]
  rw [e0] at hP1
  have e1 : (cellsT G w).set i (G.1 i, .inl (G.2.2.2, szT i, .inl (upd (fun j => Int32.ofInt (w i j)) (Int32.ofInt j).toNatClampNeg (Int32.ofInt z)))) = cellsT G (up w i j.toNat z) := by
    rw [← cellsT_set G hi (fun j hj => contT_up_ne G w z hj), contT_bool G (up w i j.toNat z) hk, oi_clamp hj]
    congr 6
    funext a
    by_cases ha : a = j.toNat
    · subst ha
      rw [up_same]
      exact if_pos rfl
    · rw [up_pl w z ha]
      exact if_neg ha
  rw [e1] at hP1
  refine kk hL (ok_t (ok_t (ok_t hS))) (rngW_up hW hi ?_) H1 locs1 rl hP1 hS1 hl
  rw [show tyT i j.toNat = 1 by unfold tyT; rw [if_neg (by omega), if_pos hk]]
  exact hz
theorem v_alen (h : ctxB κ own cc d) {i : Nat} (hd : decode cc pc = .ok (.arraylength, 1)) (hk : kdT i = 5) (kk : VV κ (pc + 1) ls (.inl (szT i : Int) :: st) w) : VV κ pc ls (.inr (.inr i) :: st) w := by
  obtain ⟨p, l, e, R, s, m, args, below, meth, c, cells, slots, Qs, G⟩ := κ
  obtain ⟨hx, hb, hown, hts, hlk, hK, hKU, hG, hfr, hlo, hce, hsl⟩ := h
  intro hL hS hW H locs rl hP hSS hl
  have hi : i < 50 := kdT_lt (by omega)
  refine va_alen (v := Int32.ofInt (szT i : Int)) hx hb hK hP i 0 ((cellsT_at G w hi).trans (by rw [contT_int G w hk])) rfl rfl hd ?_
  have hr : ∀ i, i < 50 → ri32 (szT i : Int) := by unfold ri32; decide +kernel
  exact kk hL (ok_c (hr i hi) (ok_t hS)) hW H locs rl hP hSS hl
theorem v_alenP (h : ctxB κ own cc d) (hd : decode cc pc = .ok (.arraylength, 1)) (kk : VV κ (pc + 1) ls (.inl 7 :: st) w) : VV κ pc ls (.inr (.inr 50) :: st) w := by
  obtain ⟨p, l, e, R, s, m, args, below, meth, c, cells, slots, Qs, G⟩ := κ
  obtain ⟨hx, hb, hown, hts, hlk, hK, hKU, hG, hfr, hlo, hce, hsl⟩ := h
  intro hL hS hW H locs rl hP hSS hl
  refine va_tlen (v := Int32.ofInt 7) hx hb hKU.2.1 hSS rfl hd ?_
  exact kk hL (ok_c (show ri32 7 by unfold ri32; omega) (ok_t hS)) hW H locs rl hP hSS hl
theorem v_getsP (h : ctxB κ own cc d) {idx : Nat} (hd : decode cc pc = .ok (.getstatic idx, 3)) (hlink : Cond.fieldLink own idx "AcrosticLines" "POWERS" "[I" ∈ BIG) (kk : VV κ (pc + 3) ls (.inr (.inr 50) :: st) w) : VV κ pc ls st w := by
  obtain ⟨p, l, e, R, s, m, args, below, meth, c, cells, slots, Qs, G⟩ := κ
  obtain ⟨hx, hb, hown, hts, hlk, hK, hKU, hG, hfr, hlo, hce, hsl⟩ := h
  intro hL hS hW H locs rl hP hSS hl
  refine va_gets hx hb hKU.1 hSS hown (hts _ hlink) (fun _ h9 => h9) hd ?_
  exact kk hL (ok_c (show okv (.inr (.inr 50)) from trivial) hS) hW H locs rl hP hSS hl
def cpW (w : Wd) (a b x y n : Nat) : Wd := fun i k => if i = y ∧ b ≤ k ∧ k < b + n then w x (a + (k - b)) else w i k
theorem rngW_cp {w : Wd} {a b x y n : Nat} (h : rngW w) (hx : kdT x = 5) (hy : kdT y = 5) (ha : a + n ≤ szT x) : rngW (cpW w a b x y n) := by
  have hxi : x < 50 := kdT_lt (by omega)
  have hyi : y < 50 := kdT_lt (by omega)
  refine ⟨fun i k hi hk => ?_, fun k hk => ?_⟩
  · unfold cpW
    split
    next q =>
      obtain ⟨rfl, q1, q2⟩ := q
      have := h.1 x (a + (k - b)) hxi (by omega)
      rw [show tyT x (a + (k - b)) = 0 by unfold tyT; rw [if_pos hx]] at this
      rw [show tyT i k = 0 by unfold tyT; rw [if_pos hy]]
      exact this
    next => exact h.1 i k hi hk
  · unfold cpW
    rw [if_neg (by omega)]
    exact h.2 k hk
theorem v_copy (h : ctxB κ own cc (d + 1)) {idx x y : Nat} {a b n : Int} (hd : decode cc pc = .ok (.invokestatic idx, 3)) (hn : ∀ κ2 : Kx, κ2 = κ → ls.length ≤ κ2.2.2.2.2.2.2.2.2.2.1.maxLocals) (hlink : Cond.methodLink own idx arraycopyName ∈ BIG) (hx5 : kdT x = 5) (hy5 : kdT y = 5) (ha : 0 ≤ a) (hb0 : 0 ≤ b) (hn0 : 0 ≤ n) (hxs : a + n ≤ (szT x : Int)) (hys : b + n ≤ (szT y : Int)) (kk : VV κ (pc + 3) ls [] (cpW w a.toNat b.toNat x y n.toNat)) : VV κ pc ls (.inl n :: .inl b :: .inr (.inr y) :: .inl a :: .inr (.inr x) :: []) w := by
  obtain ⟨p, l, e, R, s, m, args, below, meth, c, cells, slots, Qs, G⟩ := κ
  obtain ⟨hx, hb, hown, hts, hlk, hK, hKU, hG, hfr, hlo, hce, hsl⟩ := h
  intro hL hS hW H locs rl hP hSS hl
  have hxi : x < 50 := kdT_lt (by omega)
  have hyi : y < 50 := kdT_lt (by omega)
  have rn : ri32 n := ok_h hS
  have rb : ri32 b := ok_h (ok_t hS)
  have ra : ri32 a := ok_h (ok_t (ok_t (ok_t hS)))
  have r0 : ri32 0 := by unfold ri32; omega
  have ng : ∀ z : Int, ri32 z → 0 ≤ z → ¬ Int32.ofInt z < 0 := fun z hz h0 q => by
    have := (oi_lt hz r0).mp q
    omega
  refine va_copyi hx hb hl.1.symm hown (hts _ hlink) (hts _ cp_nat) (hts _ cp_sta) (hts _ cp_ini) hK hP (cellsT_D hG w) hSS x y 0 0 ((cellsT_at G w hxi).trans (by rw [contT_int G w hx5])) ((cellsT_at G w hyi).trans (by rw [contT_int G w hy5])) rfl rfl rfl (ng a ra ha) (ng b rb hb0) (ng n rn hn0) (by rw [oi_clamp ra, oi_clamp rn]; omega) (by rw [oi_clamp rb, oi_clamp rn]; omega) (fun _ _ => rfl) (by omega) (Nat.le_trans (Nat.le_trans cp_room (by omega)) hlo) hd (fun H1 locs1 hP1 hD1 hS1 => ?_)
  rw [oi_clamp ra, oi_clamp rb, oi_clamp rn] at hP1
  have e1 : (cellsT G w).set y (G.1 y, .inl (G.2.2.1, szT y, .inl (va_cpy (fun j => Int32.ofInt (w x j)) (fun j => Int32.ofInt (w y j)) a.toNat b.toNat n.toNat))) = cellsT G (cpW w a.toNat b.toNat x y n.toNat) := by
    rw [← cellsT_set G (w := w) (w' := cpW w a.toNat b.toNat x y n.toNat) hyi (fun j hj => contT_congr G (fun k => by unfold cpW; rw [if_neg (fun q => hj q.1)])), contT_int G _ hy5]
    congr 6
    funext k
    unfold va_cpy cpW
    by_cases q : b.toNat ≤ k ∧ k < b.toNat + n.toNat
    · rw [if_pos q, if_pos ⟨rfl, q⟩]
    · rw [if_neg q, if_neg (fun z => q z.2)]
  rw [e1] at hP1
  exact kk hL (fun v hv => by cases hv) (rngW_cp hW hx5 hy5 (by omega)) H1 locs1 rl hP1 hS1 hl
end RULES2
