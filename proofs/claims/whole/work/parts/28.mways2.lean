theorem wfF_0 (a : Nat → Int) (f : Int) (m : Nat) : wfF a f 0 m = fitF a f := if_pos rfl
theorem wfF_1 (a : Nat → Int) (f : Int) (m : Nat) : wfF a f 1 m = stM (fitF a f) (fun j => a (28 + j)) m := if_neg (by decide)
theorem wyT_at {w : Wd} {F : Nat → Nat → Bool} {C : Nat → Nat → Int} {n m : Nat} (h : wyT w F C n m 0) {u : Nat} (hu : u < 256) : w 46 u = wyN F n m m u ∧ w 47 u = cmN F C n m m u := by
  have := h 0 u (Nat.le_refl 0) (Nat.zero_le m) hu
  rw [show 256 * 0 + u = u by omega, Nat.sub_zero] at this
  exact this
theorem wyA_r {a : Nat → Int} (hA : AOK a) (F : Nat → Nat → Bool) : 0 ≤ wyA a F ∧ wyA a F ≤ 262144 := by
  have := hA.n
  have := hA.m
  exact wyN_q (by omega) (by omega) 0
theorem more_eq {a : Nat → Int} (hA : AOK a) (F : Nat → Nat → Bool) : wyN (stM F (fun j => a (28 + j)) (a 1).toNat) (a 3).toNat (a 1).toNat (a 1).toNat 0 = wyA a (stX F (fun j => a (28 + j))) := by
  have am := hA.m
  unfold wyA
  exact (st_eq (fun i j hi hj e e2 => hA.ln.2 i j (by omega) (by omega) e e2) _ 0 (Nat.le_refl _) (fun i wd hi => by omega)).symm
theorem leave_eq {a : Nat → Int} {F : Nat → Nat → Bool} (wd : Nat) : wyN F (a 3).toNat (a 1).toNat (a 1).toNat (2 ^ wd) = wyA a (lvF F wd) := by
  unfold wyA
  rw [wy_leave _ 0 (Nat.zero_testBit wd), Nat.zero_or]
/-- no costs: the least of a way is 0 -/
theorem ls_zero {F : Nat → Nat → Bool} {C : Nat → Nat → Int} {n m : Nat} (hn : n ≤ 8) (hC : ∀ k j, C k j = 0) (r u : Nat) (hr : r ≤ m) (hw : 0 < wyN F n m r u) : lsN F C n m r u = 0 := by
  induction r generalizing u with
  | zero => rfl
  | succ r ih =>
    obtain ⟨k, h1, h2, h3⟩ := (wyN_pos hn).mp hw
    have h4 := ih (u ||| 2 ^ k) (by omega) h3
    have h5 := (lsN_r (F := F) (C := C) (n := n) (m := m) (fun k j _ _ => by rw [hC]; exact Int.le_refl 0) (r + 1) u hr).1
    have h6 : lsN F C n m (r + 1) u ≤ C k (m - (r + 1)) + lsN F C n m r (u ||| 2 ^ k) := by rw [lsN_s]; exact mnB_le (f := fun k => C k (m - (r + 1)) + lsN F C n m r (u ||| 2 ^ k)) n h1 h2
    rw [hC, h4] at h6
    omega
theorem bsL_u {F : Nat → Nat → Bool} {C : Nat → Nat → Int} {n m u r : Nat} (hr : m - pcN u = r + 1) : bsL F C n m u = lsN F C n m (r + 1) u := by unfold bsL; rw [if_pos (by omega), hr]
theorem bsL_v {F : Nat → Nat → Bool} {C : Nat → Nat → Int} {n m u r k : Nat} (hn : n ≤ 8) (hu : u < 2 ^ n) (hk : k < n) (hb : u.testBit k = false) (hr : m - pcN u = r + 1) : bsL F C n m (u ||| 2 ^ k) = lsN F C n m r (u ||| 2 ^ k) := by
  have h256 := n2_le hn
  have hp := pcN_or u (by omega) k (by omega) hb
  unfold bsL
  rw [if_pos (by omega), show m - pcN (u ||| 2 ^ k) = r by omega]
theorem nx_1 {F : Nat → Nat → Bool} {C : Nat → Nat → Int} {n m u r k : Nat} (hn : n ≤ 8) (hm : m ≤ 6) (hC : ∀ k j, k < n → j < m → 0 ≤ C k j ∧ C k j ≤ 12) (hu : u < 2 ^ n) (hr : m - pcN u = r + 1) (hw : 0 < wyN F n m (r + 1) u) (hk : k < n) :
    ((u.testBit k = false ∧ F k (pcN u) = true) ∧ C k (pcN u) + bsL F C n m (u ||| 2 ^ k) = bsL F C n m u) ↔ (u.testBit k = false ∧ 0 < wyN F n m r (u ||| 2 ^ k) ∧ F k (pcN u) = true) ∧ C k (pcN u) + cmN F C n m r (u ||| 2 ^ k) = cmN F C n m (r + 1) u := by
  have hlu := (ls_cm (F := F) hn hm hC (r + 1) u (by omega)).resolve_left (fun z => by omega)
  have hln := ls_cm (F := F) hn hm hC r (u ||| 2 ^ k) (by omega)
  have hCk := hC k (pcN u) hk (by omega)
  rw [bsL_u hr]
  constructor
  · rintro ⟨⟨h1, h2⟩, h3⟩
    rw [bsL_v hn hu hk h1 hr] at h3
    have := hln.resolve_left (fun z => by omega)
    exact ⟨⟨h1, this.1, h2⟩, by omega⟩
  · rintro ⟨⟨h1, h2, h2'⟩, h3⟩
    have := hln.resolve_left (fun z => by omega)
    exact ⟨⟨h1, h2'⟩, by rw [bsL_v hn hu hk h1 hr]; omega⟩
theorem nx_0 {F : Nat → Nat → Bool} {C : Nat → Nat → Int} {n m u r k : Nat} (hn : n ≤ 8) (hm : m ≤ 6) (hC : ∀ k j, C k j = 0) (hu : u < 2 ^ n) (hr : m - pcN u = r + 1) (hw : 0 < wyN F n m (r + 1) u) (hk : k < n) :
    ((u.testBit k = false ∧ F k (pcN u) = true) ∧ C k (pcN u) + bsL F C n m (u ||| 2 ^ k) = bsL F C n m u) ↔ (u.testBit k = false ∧ 0 < wyN F n m r (u ||| 2 ^ k) ∧ F k (pcN u) = true) := by
  have hC2 : ∀ k j, k < n → j < m → 0 ≤ C k j ∧ C k j ≤ 12 := fun k j _ _ => by rw [hC]; decide
  have hzu := ls_zero hn hC (r + 1) u (by omega) hw
  have hln := ls_cm (F := F) hn hm hC2 r (u ||| 2 ^ k) (by omega)
  rw [bsL_u hr, hC]
  constructor
  · rintro ⟨⟨h1, h2⟩, h3⟩
    rw [bsL_v hn hu hk h1 hr] at h3
    have := hln.resolve_left (fun z => by omega)
    exact ⟨h1, this.1, h2⟩
  · rintro ⟨h1, h2, h2'⟩
    exact ⟨⟨h1, h2'⟩, by rw [bsL_v hn hu hk h1 hr, ls_zero hn hC r _ (by omega) h2]; omega⟩
/-- the first of those from a place on -/
def fsD (P : Nat → Prop) (n t : Nat) (z : Int) : Prop := (z = -1 ∧ ∀ k, t ≤ k → k < n → ¬ P k) ∨ ∃ k, (t ≤ k ∧ k < n) ∧ z = (k : Int) ∧ P k ∧ ∀ i, t ≤ i → i < k → ¬ P i
theorem fsD_n (P : Nat → Prop) (n : Nat) : fsD P n n (-1) := Or.inl ⟨rfl, fun k h1 h2 => by omega⟩
theorem fsD_t {P : Nat → Prop} {n t : Nat} (ht : t < n) (hp : P t) : fsD P n t (t : Int) := Or.inr ⟨t, ⟨Nat.le_refl t, ht⟩, rfl, hp, fun i h1 h2 => by omega⟩
theorem fsD_f {P : Nat → Prop} {n t : Nat} {z : Int} (h : fsD P n (t + 1) z) (hp : ¬ P t) : fsD P n t z := by
  have key : ∀ i, t ≤ i → i ≠ t → t + 1 ≤ i := fun i h1 h2 => by omega
  rcases h with ⟨h1, h2⟩ | ⟨k, h1, h2, h3, h4⟩
  · refine Or.inl ⟨h1, fun k q1 q2 => ?_⟩
    by_cases e : k = t
    · rw [e]; exact hp
    · exact h2 k (by omega) q2
  · refine Or.inr ⟨k, ⟨by omega, h1.2⟩, h2, h3, fun i q1 q2 => ?_⟩
    by_cases e : i = t
    · rw [e]; exact hp
    · exact h4 i (by omega) q2
theorem fsD_e {P R : Nat → Prop} [∀ j, Decidable (R j)] {n : Nat} {z : Int} (h : fsD P n 0 z) (e : ∀ k, k < n → (R k ↔ P k)) : z = fstI R n := by
  rcases h with ⟨h1, h2⟩ | ⟨k, h1, h2, h3, h4⟩
  · rw [h1]; exact (fstI_no (fun i hi q => h2 i (Nat.zero_le _) hi ((e i hi).mp q))).symm
  · rw [h2]; exact (fstI_at h1.2 ((e k h1.2).mpr h3) (fun i hi q => h4 i (Nat.zero_le _) hi ((e i (by omega)).mp q))).symm

theorem d_ways {d : Nat} {w : Wd} {Q : Option MV → Wd → Prop} (hA : AOK (w 40)) (hQ : ∀ w2, frW w w2 → Q (some (.inl (wyA (w 40) (fitF (w 40) (w 40 0))))) w2) : Call (d + 6) mX4_ways [vR 39] w Q := by
  have am := hA.m
  have an := hA.n
  have af := hA.f
  have anc := hA.nc
  have amc := hA.mc
  have auc := hA.uc
  obtain ⟨n, h3⟩ := Int.eq_ofNat_of_zero_le an.1
  obtain ⟨m, h1⟩ := Int.eq_ofNat_of_zero_le (show 0 ≤ w 40 1 by omega)
  have e3 : (w 40 3).toNat = n := by omega
  have e1 : (w 40 1).toNat = m := by omega
  refine call_in (ls := [some (vR 39)]) (by decide +kernel) rfl (Nat.le_of_ble_eq_true rfl) (fun κ hC hR hN => ?_)
  have hC : ctxB κ RX4 cX4_ways (d + 6) := hC
  have hN : mlx κ 1 := hN
  refine w_al0 hC dX4_ways_0 ?_
  refine w_al0 hC dX4_ways_1 ?_
  refine v_getR (off := 1) (j := 40) hC dX4_ways_2 fd_X4_7 rfl rfl rfl ?_
  refine w_ic hC dX4_ways_5 rfl ?_
  refine w_ialdk hC 127 (0) dX4_ways_6 rfl rfl (by omega) (by omega) ?_
  refine w_ic hC dX4_ways_7 rfl ?_
  refine w_vi2 hC vi_X4_198 rfl dX4_ways_8 rfl hN (d_layWays hA (fun w2 t2 o2 => ?_))
  rw [e3, e1, wfF_0] at t2
  have a2 := wyT_at t2 (u := 0) (by decide)
  have hwyA : wyA (w 40) (fitF (w 40) (w 40 0)) = wyN (fitF (w 40) (w 40 0)) n m m 0 := by unfold wyA; rw [e3, e1]
  refine w_al0 hC dX4_ways_11 ?_
  refine v_getR (off := 7) (j := 46) hC dX4_ways_12 fd_X4_33 rfl rfl rfl ?_
  refine w_ic hC dX4_ways_15 rfl ?_
  refine w_ialdk hC 1792 (0) dX4_ways_16 rfl rfl (by omega) (by omega) ?_
  rw [a2.1, ← hwyA]
  refine v_iret hC hR dX4_ways_17 ?_
  exact hQ _ o2

theorem d_more {d : Nat} {w : Wd} {Q : Option MV → Wd → Prop} (hA : AOK (w 40)) (hQ : ∀ w2, frW w w2 → Q (some (.inl (wyA (w 40) (stX (fitF (w 40) (w 40 0)) (fun j => w 40 (28 + j)))))) w2) : Call (d + 6) mX4_more [vR 39] w Q := by
  have am := hA.m
  have an := hA.n
  have af := hA.f
  have anc := hA.nc
  have amc := hA.mc
  have auc := hA.uc
  obtain ⟨n, h3⟩ := Int.eq_ofNat_of_zero_le an.1
  obtain ⟨m, h1⟩ := Int.eq_ofNat_of_zero_le (show 0 ≤ w 40 1 by omega)
  have e3 : (w 40 3).toNat = n := by omega
  have e1 : (w 40 1).toNat = m := by omega
  refine call_in (ls := [some (vR 39)]) (by decide +kernel) rfl (Nat.le_of_ble_eq_true rfl) (fun κ hC hR hN => ?_)
  have hC : ctxB κ RX4 cX4_more (d + 6) := hC
  have hN : mlx κ 1 := hN
  refine w_al0 hC dX4_more_0 ?_
  refine w_al0 hC dX4_more_1 ?_
  refine v_getR (off := 1) (j := 40) hC dX4_more_2 fd_X4_7 rfl rfl rfl ?_
  refine w_ic hC dX4_more_5 rfl ?_
  refine w_ialdk hC 127 (0) dX4_more_6 rfl rfl (by omega) (by omega) ?_
  refine w_ic hC dX4_more_7 rfl ?_
  refine w_vi2 hC vi_X4_198 rfl dX4_more_8 rfl hN (d_layWays hA (fun w2 t2 o2 => ?_))
  rw [wfF_1] at t2
  have a2 := wyT_at t2 (u := 0) (by decide)
  rw [more_eq hA] at a2
  refine w_al0 hC dX4_more_11 ?_
  refine v_getR (off := 7) (j := 46) hC dX4_more_12 fd_X4_33 rfl rfl rfl ?_
  refine w_ic hC dX4_more_15 rfl ?_
  refine w_ialdk hC 1792 (0) dX4_more_16 rfl rfl (by omega) (by omega) ?_
  rw [a2.1]
  refine v_iret hC hR dX4_more_17 ?_
  exact hQ _ o2

theorem d_without {d : Nat} {w : Wd} {Q : Option MV → Wd → Prop} (hA : AOK (w 40)) {wd : Nat} (hwd : wd < 8) (hQ : ∀ w2, frW w w2 → Q (some (.inl (wyA (w 40) (lvF (fitF (w 40) (w 40 0)) wd)))) w2) : Call (d + 6) mX4_without [vR 39, vI (wd : Int)] w Q := by
  have am := hA.m
  have an := hA.n
  have af := hA.f
  have anc := hA.nc
  have amc := hA.mc
  have auc := hA.uc
  obtain ⟨n, h3⟩ := Int.eq_ofNat_of_zero_le an.1
  obtain ⟨m, h1⟩ := Int.eq_ofNat_of_zero_le (show 0 ≤ w 40 1 by omega)
  have e3 : (w 40 3).toNat = n := by omega
  have e1 : (w 40 1).toNat = m := by omega
  refine call_in (ls := [some (vR 39), some (vI (wd : Int))]) (by decide +kernel) rfl (Nat.le_of_ble_eq_true rfl) (fun κ hC hR hN => ?_)
  have hC : ctxB κ RX4 cX4_without (d + 6) := hC
  have hN : mlx κ 2 := hN
  refine w_al0 hC dX4_without_0 ?_
  refine w_al0 hC dX4_without_1 ?_
  refine v_getR (off := 1) (j := 40) hC dX4_without_2 fd_X4_7 rfl rfl rfl ?_
  refine w_ic hC dX4_without_5 rfl ?_
  refine w_ialdk hC 127 (0) dX4_without_6 rfl rfl (by omega) (by omega) ?_
  refine w_ic hC dX4_without_7 rfl ?_
  refine w_vi2 hC vi_X4_198 rfl dX4_without_8 rfl hN (d_layWays hA (fun w2 t2 o2 => ?_))
  rw [wfF_0] at t2
  have h28 := two_lt (show wd < 8 from hwd)
  have a2 := wyT_at t2 (u := 2 ^ wd) (by omega)
  rw [leave_eq] at a2
  refine w_al0 hC dX4_without_11 ?_
  refine v_getR (off := 7) (j := 46) hC dX4_without_12 fd_X4_33 rfl rfl rfl ?_
  refine w_ic hC dX4_without_15 rfl ?_
  refine w_il1 hC dX4_without_16 ?_
  refine v_ishl hC dX4_without_17 ?_
  rw [bShl_1 (by omega)]
  refine w_ialdk hC 1792 (2 ^ wd) dX4_without_18 rfl rfl (by omega) (by omega) ?_
  rw [a2.1]
  refine v_iret hC hR dX4_without_19 ?_
  exact hQ _ o2

theorem d_forms {d : Nat} {w : Wd} {Q : Option MV → Wd → Prop} (hA : AOK (w 40)) (hQ : ∀ w2, frW w w2 → Q (some (.inl ((mkM (fun f => 0 < wyA (w 40) (fitF (w 40) (f : Int))) 6 : Nat) : Int))) w2) : Call (d + 6) mX4_forms [vR 39] w Q := by
  have am := hA.m
  have an := hA.n
  have af := hA.f
  have anc := hA.nc
  have amc := hA.mc
  have auc := hA.uc
  obtain ⟨n, h3⟩ := Int.eq_ofNat_of_zero_le an.1
  obtain ⟨m, h1⟩ := Int.eq_ofNat_of_zero_le (show 0 ≤ w 40 1 by omega)
  have e3 : (w 40 3).toNat = n := by omega
  have e1 : (w 40 1).toNat = m := by omega
  refine call_in (ls := [some (vR 39), none, none]) (by decide +kernel) rfl (Nat.le_of_ble_eq_true rfl) (fun κ hC hR hN => ?_)
  have hC : ctxB κ RX4 cX4_forms (d + 6) := hC
  have hN : mlx κ 3 := hN
  refine w_ic hC dX4_forms_0 rfl ?_
  refine w_is1 hC dX4_forms_1 hN (by first | rfl | assumption) ?_
  refine w_ic hC dX4_forms_2 rfl ?_
  refine w_is2 hC dX4_forms_3 hN (by first | rfl | assumption) ?_
  have lp4 : ∀ (K : Nat) (w4 : Wd) (k : Nat), (6 - k) < K → (k ≤ 6) → (frW w w4) → VV κ 4 [some (vR 39), some (vI ((mkM (fun f => 0 < wyA (w 40) (fitF (w 40) (f : Int))) k : Nat) : Int)), some (vI (k : Int))] [] w4 := by
    intro K
    induction K with
    | zero => intros; omega
    | succ K ih4 =>
      intro w4 k hm4 hk2 o4
      have e40 : w4 40 = w 40 := funext (fun q => o4 40 q (by decide) (by decide))
      have hA4 : AOK (w4 40) := by rw [e40]; exact hA
      refine w_il2 hC dX4_forms_4 ?_
      refine v_bipush hC dX4_forms_5 (by decide) ?_
      refine v_ic_ge (tgt := 41) hC dX4_forms_7 rfl (fun h7 => ?_) (fun h7 => ?_)
      · refine w_il1 hC dX4_forms_41 ?_
        refine v_iret hC hR dX4_forms_42 ?_
        rw [show k = 6 by omega]
        exact hQ _ o4
      · refine w_al0 hC dX4_forms_10 ?_
        refine w_il2 hC dX4_forms_11 ?_
        refine w_ic hC dX4_forms_12 rfl ?_
        refine w_vi2 hC vi_X4_198 rfl dX4_forms_13 rfl hN (d_layWays hA4 (fun w5 t5 o5 => ?_))
        rw [wfF_0, e40] at t5
        have a5 := wyT_at t5 (u := 0) (by decide)
        refine w_il1 hC dX4_forms_16 ?_
        refine w_al0 hC dX4_forms_17 ?_
        refine v_getR (off := 7) (j := 46) hC dX4_forms_18 fd_X4_33 rfl rfl rfl ?_
        refine w_ic hC dX4_forms_21 rfl ?_
        refine w_ialdk hC 1792 (0) dX4_forms_22 rfl rfl (by omega) (by omega) ?_
        rw [a5.1, show wyN (fitF (w 40) (k : Int)) (w 40 3).toNat (w 40 1).toNat (w 40 1).toNat 0 = wyA (w 40) (fitF (w 40) (k : Int)) from rfl]
        refine v_if_le (tgt := 32) hC dX4_forms_23 rfl (fun h23 => ?_) (fun h23 => ?_)
        · refine w_ic hC dX4_forms_32 rfl ?_
          refine v_ior hC dX4_forms_33 ?_
          first | rw [or_t (P := fun f : Nat => 0 < wyA (w 40) (fitF (w 40) (f : Int))) (by omega) (show 0 < wyA (w 40) (fitF (w 40) (k : Int)) by omega)] | rw [or_f (P := fun f : Nat => 0 < wyA (w 40) (fitF (w 40) (f : Int))) (by omega) (show ¬ 0 < wyA (w 40) (fitF (w 40) (k : Int)) by omega)]
          refine w_is1 hC dX4_forms_34 hN (by first | rfl | assumption) ?_
          refine w_inc2 hC dX4_forms_35 hN (by first | rfl | assumption) (ri_mk (by omega) (by omega)) ?_
          refine v_goto (tgt := 4) hC dX4_forms_38 rfl ?_
          exact ih4 _ (k + 1) (by omega) (by omega) (fun i q h1 h2 => by rw [o5 i q h1 h2]; exact o4 i q h1 h2)
        · refine w_ic hC dX4_forms_26 rfl ?_
          refine w_il2 hC dX4_forms_27 ?_
          refine v_ishl hC dX4_forms_28 ?_
          refine v_goto (tgt := 33) hC dX4_forms_29 rfl ?_
          refine v_ior hC dX4_forms_33 ?_
          first | rw [or_t (P := fun f : Nat => 0 < wyA (w 40) (fitF (w 40) (f : Int))) (by omega) (show 0 < wyA (w 40) (fitF (w 40) (k : Int)) by omega)] | rw [or_f (P := fun f : Nat => 0 < wyA (w 40) (fitF (w 40) (f : Int))) (by omega) (show ¬ 0 < wyA (w 40) (fitF (w 40) (k : Int)) by omega)]
          refine w_is1 hC dX4_forms_34 hN (by first | rfl | assumption) ?_
          refine w_inc2 hC dX4_forms_35 hN (by first | rfl | assumption) (ri_mk (by omega) (by omega)) ?_
          refine v_goto (tgt := 4) hC dX4_forms_38 rfl ?_
          exact ih4 _ (k + 1) (by omega) (by omega) (fun i q h1 h2 => by rw [o5 i q h1 h2]; exact o4 i q h1 h2)
  exact lp4 7 _ 0 (by omega) (by omega) (fun _ _ _ _ => rfl)

theorem d_needs {d : Nat} {w : Wd} {Q : Option MV → Wd → Prop} (hA : AOK (w 40)) {x : Int} (hb0 : ¬ (0 ≤ x ∧ x ≤ 1) → Q (some (.inl (-2))) (cI w 44 0)) (hk : 0 ≤ x ∧ x ≤ 1 → ∀ w2, frW w w2 → Q (some (.inl ((mkM (ndP (w 40) x) (w 40 3).toNat : Nat) : Int))) w2) : Call (d + 7) mX4_needs [vR 39, vI x] w Q := by
  have am := hA.m
  have an := hA.n
  have af := hA.f
  have anc := hA.nc
  have amc := hA.mc
  have auc := hA.uc
  obtain ⟨n, h3⟩ := Int.eq_ofNat_of_zero_le an.1
  obtain ⟨m, h1⟩ := Int.eq_ofNat_of_zero_le (show 0 ≤ w 40 1 by omega)
  have e3 : (w 40 3).toNat = n := by omega
  have e1 : (w 40 1).toNat = m := by omega
  refine call_in (ls := [some (vR 39), some (vI x), none, none, none, none, none]) (by decide +kernel) rfl (Nat.le_of_ble_eq_true rfl) (fun κ hC hR hN => ?_)
  have hC : ctxB κ RX4 cX4_needs (d + 7) := hC
  have hN : mlx κ 7 := hN
  refine w_il1 hC dX4_needs_0 ?_
  refine w_ic hC dX4_needs_1 rfl ?_
  refine w_ic hC dX4_needs_2 rfl ?_
  refine w_st3 hC st_X4_53 dX4_needs_3 rfl hN (d_in (fun g1 => ?_) (fun g1 => ?_))
  · refine v_if_ne (tgt := 14) hC dX4_needs_6 rfl (fun _ => ?_) (fun h => absurd h (by decide))
    refine w_al0 hC dX4_needs_14 ?_
    refine w_al0 hC dX4_needs_15 ?_
    refine v_getR (off := 1) (j := 40) hC dX4_needs_16 fd_X4_7 rfl rfl rfl ?_
    refine w_ic hC dX4_needs_19 rfl ?_
    refine w_ialdk hC 127 (0) dX4_needs_20 rfl rfl (by omega) (by omega) ?_
    refine w_ic hC dX4_needs_21 rfl ?_
    refine w_vi2 hC vi_X4_198 rfl dX4_needs_22 rfl hN (d_layWays hA (fun w2 t2 o2 => ?_))
    rw [e3, e1, wfF_0] at t2
    have a2 := wyT_at t2 (u := 0) (by decide)
    have hwyA : wyA (w 40) (fitF (w 40) (w 40 0)) = wyN (fitF (w 40) (w 40 0)) n m m 0 := by unfold wyA; rw [e3, e1]
    refine w_al0 hC dX4_needs_25 ?_
    refine v_getR (off := 7) (j := 46) hC dX4_needs_26 fd_X4_33 rfl rfl rfl ?_
    refine w_ic hC dX4_needs_29 rfl ?_
    refine w_ialdk hC 1792 (0) dX4_needs_30 rfl rfl (by omega) (by omega) ?_
    rw [a2.1, ← hwyA]
    refine w_is2 hC dX4_needs_31 hN (by first | rfl | assumption) ?_
    refine w_ic hC dX4_needs_32 rfl ?_
    refine w_is3 hC dX4_needs_33 hN (by first | rfl | assumption) ?_
    refine w_ic hC dX4_needs_34 rfl ?_
    refine w_is4 hC dX4_needs_35 hN (by first | rfl | assumption) ?_
    refine w_dr5 ?_
    refine w_dr6 ?_
    have lp37 : ∀ (K : Nat) (w4 : Wd) (k : Nat), (n - k) < K → (k ≤ n) → (frW w w4) → VV κ 37 [some (vR 39), some (vI x), some (vI (wyA (w 40) (fitF (w 40) (w 40 0)))), some (vI ((mkM (ndP (w 40) x) k : Nat) : Int)), some (vI (k : Int)), none, none] [] w4 := by
      intro K
      induction K with
      | zero => intros; omega
      | succ K ih37 =>
        intro w4 k hm37 hk2 o4
        have e40 : w4 40 = w 40 := funext (fun q => o4 40 q (by decide) (by decide))
        have hA4 : AOK (w4 40) := by rw [e40]; exact hA
        refine w_il4 hC dX4_needs_37 ?_
        refine w_al0 hC dX4_needs_39 ?_
        refine v_getR (off := 1) (j := 40) hC dX4_needs_40 fd_X4_7 rfl rfl rfl ?_
        refine w_ic hC dX4_needs_43 rfl ?_
        refine w_ialdk hC 127 (3) dX4_needs_44 rfl rfl (by omega) (by omega) ?_
        rw [e40, h3]
        refine v_ic_ge (tgt := 112) hC dX4_needs_45 rfl (fun h45 => ?_) (fun h45 => ?_)
        · refine w_il3 hC dX4_needs_112 ?_
          refine v_iret hC hR dX4_needs_113 ?_
          rw [e3] at hk
          rw [show k = n by omega]
          exact hk g1 _ o4
        · refine w_al0 hC dX4_needs_48 ?_
          refine w_il4 hC dX4_needs_49 ?_
          refine w_vi1 hC vi_X4_206 rfl dX4_needs_51 rfl hN (d_without hA4 (wd := k) (by omega) (fun w5 o5 => ?_))
          rw [e40]
          refine w_is5 hC dX4_needs_54 hN (by first | rfl | assumption) ?_
          refine w_il1 hC dX4_needs_56 ?_
          refine v_if_ne (tgt := 77) hC dX4_needs_57 rfl (fun h57 => ?_) (fun h57 => ?_)
          · refine w_il5 hC dX4_needs_77 ?_
            refine w_il2 hC dX4_needs_79 ?_
            refine v_ic_ne (tgt := 87) hC dX4_needs_80 rfl (fun h80 => ?_) (fun h80 => ?_)
            · refine w_ic hC dX4_needs_87 rfl ?_
              refine w_is6 hC dX4_needs_88 hN (by first | rfl | assumption) ?_
              refine w_il3 hC dX4_needs_90 ?_
              refine w_il6 hC dX4_needs_91 ?_
              refine v_if_eq (tgt := 103) hC dX4_needs_93 rfl (fun _ => ?_) (fun h => absurd h (by decide))
              refine w_ic hC dX4_needs_103 rfl ?_
              refine v_ior hC dX4_needs_104 ?_
              first | rw [or_t (by omega) (nd_1 (by omega) (by omega) (by omega))] | rw [or_t (by omega) (nd_2 (by omega) (by omega))] | rw [or_f (by omega) (nd_3 (by omega) (by omega))] | rw [or_f (by omega) (nd_4 (by omega) (by omega))] | rw [or_f (by omega) (nd_5 (by omega) (by omega))]
              refine w_is3 hC dX4_needs_105 hN (by first | rfl | assumption) ?_
              refine w_inc4 hC dX4_needs_106 hN (by first | rfl | assumption) (ri_mk (by omega) (by omega)) ?_
              refine v_goto (tgt := 37) hC dX4_needs_109 rfl ?_
              refine w_dr5 ?_
              refine w_dr6 ?_
              exact ih37 _ (k + 1) (by omega) (by omega) (fun i q h1 h2 => by rw [o5 i q h1 h2]; exact o4 i q h1 h2)
            · refine w_ic hC dX4_needs_83 rfl ?_
              refine v_goto (tgt := 88) hC dX4_needs_84 rfl ?_
              refine w_is6 hC dX4_needs_88 hN (by first | rfl | assumption) ?_
              refine w_il3 hC dX4_needs_90 ?_
              refine w_il6 hC dX4_needs_91 ?_
              refine v_if_eq (tgt := 103) hC dX4_needs_93 rfl (fun h => absurd h (by decide)) (fun _ => ?_)
              refine w_ic hC dX4_needs_96 rfl ?_
              refine w_il4 hC dX4_needs_97 ?_
              refine v_ishl hC dX4_needs_99 ?_
              refine v_goto (tgt := 104) hC dX4_needs_100 rfl ?_
              refine v_ior hC dX4_needs_104 ?_
              first | rw [or_t (by omega) (nd_1 (by omega) (by omega) (by omega))] | rw [or_t (by omega) (nd_2 (by omega) (by omega))] | rw [or_f (by omega) (nd_3 (by omega) (by omega))] | rw [or_f (by omega) (nd_4 (by omega) (by omega))] | rw [or_f (by omega) (nd_5 (by omega) (by omega))]
              refine w_is3 hC dX4_needs_105 hN (by first | rfl | assumption) ?_
              refine w_inc4 hC dX4_needs_106 hN (by first | rfl | assumption) (ri_mk (by omega) (by omega)) ?_
              refine v_goto (tgt := 37) hC dX4_needs_109 rfl ?_
              refine w_dr5 ?_
              refine w_dr6 ?_
              exact ih37 _ (k + 1) (by omega) (by omega) (fun i q h1 h2 => by rw [o5 i q h1 h2]; exact o4 i q h1 h2)
          · refine w_il2 hC dX4_needs_60 ?_
            refine v_if_le (tgt := 73) hC dX4_needs_61 rfl (fun h61 => ?_) (fun h61 => ?_)
            · refine w_ic hC dX4_needs_73 rfl ?_
              refine v_goto (tgt := 88) hC dX4_needs_74 rfl ?_
              refine w_is6 hC dX4_needs_88 hN (by first | rfl | assumption) ?_
              refine w_il3 hC dX4_needs_90 ?_
              refine w_il6 hC dX4_needs_91 ?_
              refine v_if_eq (tgt := 103) hC dX4_needs_93 rfl (fun _ => ?_) (fun h => absurd h (by decide))
              refine w_ic hC dX4_needs_103 rfl ?_
              refine v_ior hC dX4_needs_104 ?_
              first | rw [or_t (by omega) (nd_1 (by omega) (by omega) (by omega))] | rw [or_t (by omega) (nd_2 (by omega) (by omega))] | rw [or_f (by omega) (nd_3 (by omega) (by omega))] | rw [or_f (by omega) (nd_4 (by omega) (by omega))] | rw [or_f (by omega) (nd_5 (by omega) (by omega))]
              refine w_is3 hC dX4_needs_105 hN (by first | rfl | assumption) ?_
              refine w_inc4 hC dX4_needs_106 hN (by first | rfl | assumption) (ri_mk (by omega) (by omega)) ?_
              refine v_goto (tgt := 37) hC dX4_needs_109 rfl ?_
              refine w_dr5 ?_
              refine w_dr6 ?_
              exact ih37 _ (k + 1) (by omega) (by omega) (fun i q h1 h2 => by rw [o5 i q h1 h2]; exact o4 i q h1 h2)
            · refine w_il5 hC dX4_needs_64 ?_
              refine v_if_ne (tgt := 73) hC dX4_needs_66 rfl (fun h66 => ?_) (fun h66 => ?_)
              · refine w_ic hC dX4_needs_73 rfl ?_
                refine v_goto (tgt := 88) hC dX4_needs_74 rfl ?_
                refine w_is6 hC dX4_needs_88 hN (by first | rfl | assumption) ?_
                refine w_il3 hC dX4_needs_90 ?_
                refine w_il6 hC dX4_needs_91 ?_
                refine v_if_eq (tgt := 103) hC dX4_needs_93 rfl (fun _ => ?_) (fun h => absurd h (by decide))
                refine w_ic hC dX4_needs_103 rfl ?_
                refine v_ior hC dX4_needs_104 ?_
                first | rw [or_t (by omega) (nd_1 (by omega) (by omega) (by omega))] | rw [or_t (by omega) (nd_2 (by omega) (by omega))] | rw [or_f (by omega) (nd_3 (by omega) (by omega))] | rw [or_f (by omega) (nd_4 (by omega) (by omega))] | rw [or_f (by omega) (nd_5 (by omega) (by omega))]
                refine w_is3 hC dX4_needs_105 hN (by first | rfl | assumption) ?_
                refine w_inc4 hC dX4_needs_106 hN (by first | rfl | assumption) (ri_mk (by omega) (by omega)) ?_
                refine v_goto (tgt := 37) hC dX4_needs_109 rfl ?_
                refine w_dr5 ?_
                refine w_dr6 ?_
                exact ih37 _ (k + 1) (by omega) (by omega) (fun i q h1 h2 => by rw [o5 i q h1 h2]; exact o4 i q h1 h2)
              · refine w_ic hC dX4_needs_69 rfl ?_
                refine v_goto (tgt := 88) hC dX4_needs_70 rfl ?_
                refine w_is6 hC dX4_needs_88 hN (by first | rfl | assumption) ?_
                refine w_il3 hC dX4_needs_90 ?_
                refine w_il6 hC dX4_needs_91 ?_
                refine v_if_eq (tgt := 103) hC dX4_needs_93 rfl (fun h => absurd h (by decide)) (fun _ => ?_)
                refine w_ic hC dX4_needs_96 rfl ?_
                refine w_il4 hC dX4_needs_97 ?_
                refine v_ishl hC dX4_needs_99 ?_
                refine v_goto (tgt := 104) hC dX4_needs_100 rfl ?_
                refine v_ior hC dX4_needs_104 ?_
                first | rw [or_t (by omega) (nd_1 (by omega) (by omega) (by omega))] | rw [or_t (by omega) (nd_2 (by omega) (by omega))] | rw [or_f (by omega) (nd_3 (by omega) (by omega))] | rw [or_f (by omega) (nd_4 (by omega) (by omega))] | rw [or_f (by omega) (nd_5 (by omega) (by omega))]
                refine w_is3 hC dX4_needs_105 hN (by first | rfl | assumption) ?_
                refine w_inc4 hC dX4_needs_106 hN (by first | rfl | assumption) (ri_mk (by omega) (by omega)) ?_
                refine v_goto (tgt := 37) hC dX4_needs_109 rfl ?_
                refine w_dr5 ?_
                refine w_dr6 ?_
                exact ih37 _ (k + 1) (by omega) (by omega) (fun i q h1 h2 => by rw [o5 i q h1 h2]; exact o4 i q h1 h2)
    exact lp37 (n + 1) _ 0 (by omega) (by omega) o2
  · refine v_if_ne (tgt := 14) hC dX4_needs_6 rfl (fun h => absurd h (by decide)) (fun _ => ?_)
    refine w_al0 hC dX4_needs_9 ?_
    refine w_vi0 hC vi_X4_60 rfl dX4_needs_10 rfl hN (d_bad ?_)
    refine v_iret hC hR dX4_needs_13 ?_
    exact hb0 g1
