/-! the model's tokens -/
def TXm (w : Wd) (t : Nat → Int) (len : Nat) : Prop := (∀ k, k < len → w 45 k = t k) ∧ w 39 7 = len ∧ len ≤ 150 ∧ ∀ k, k < len → 0 ≤ t k ∧ t k ≤ 127
def wdV (t : Nat → Int) (s : Nat) : Nat → Int
  | 0 => 0
  | k + 1 => if k < 7 then 256 * wdV t s k + t (s + k) else -1
theorem wd_a {t : Nat → Int} {s e : Nat} (h : s ≤ e) (h7 : e - s < 7) : 256 * wdV t s (e - s) + t e = wdV t s (e + 1 - s) := by
  rw [show e + 1 - s = (e - s) + 1 by omega]
  show _ = (if e - s < 7 then 256 * wdV t s (e - s) + t (s + (e - s)) else -1)
  rw [if_pos h7, show s + (e - s) = e by omega]
theorem wd_b {t : Nat → Int} {s e : Nat} (h : s ≤ e) (h7 : ¬ e - s < 7) : -1 = wdV t s (e + 1 - s) := by
  rw [show e + 1 - s = (e - s) + 1 by omega]
  show _ = (if e - s < 7 then 256 * wdV t s (e - s) + t (s + (e - s)) else -1)
  rw [if_neg h7]
theorem wd_r {t : Nat → Int} {s : Nat} (k : Nat) (h : ∀ q, q < k → 0 ≤ t (s + q) ∧ t (s + q) ≤ 127) : -1 ≤ wdV t s k ∧ (k ≤ 6 → 0 ≤ wdV t s k ∧ wdV t s k < 256 ^ k) := by
  induction k with
  | zero => exact ⟨show (-1 : Int) ≤ 0 by decide, fun _ => ⟨show (0 : Int) ≤ 0 by decide, show (0 : Int) < 256 ^ 0 by decide⟩⟩
  | succ k ih =>
    have ih := ih (fun q hq => h q (by omega))
    have hk := h k (by omega)
    show -1 ≤ (if k < 7 then 256 * wdV t s k + t (s + k) else -1) ∧ (k + 1 ≤ 6 → 0 ≤ (if k < 7 then 256 * wdV t s k + t (s + k) else -1) ∧ (if k < 7 then 256 * wdV t s k + t (s + k) else -1) < 256 ^ (k + 1))
    by_cases z : k < 7
    · rw [if_pos z]
      have h2 := ih.2 (by omega)
      refine ⟨by omega, fun _ => ⟨by omega, ?_⟩⟩
      rw [Int.pow_succ]
      omega
    · rw [if_neg z]
      exact ⟨by omega, fun q => by omega⟩
theorem p256 : ∀ k, k ≤ 6 → (256 : Int) ^ k ≤ 281474976710656 := by decide
theorem nv_s {t : Nat → Int} {s e : Nat} (h : s ≤ e) (h2 : e - s < 2) : 10 * nvF t s (e - s) + t e - 48 = nvF t s (e + 1 - s) := by
  by_cases z : e = s
  · rw [z, show s + 1 - s = 1 by omega, Nat.sub_self]
    show 10 * 0 + t s - 48 = t s - 48
    omega
  · rw [show e - s = 1 by omega, show e + 1 - s = 2 by omega, show e = s + 1 by omega]
    show 10 * (t s - 48) + t (s + 1) - 48 = 10 * (t s - 48) + (t (s + 1) - 48)
    omega
theorem nv_k {t : Nat → Int} {s e : Nat} (h2 : ¬ e - s < 2) (h : s ≤ e) : nvF t s (e - s) = nvF t s (e + 1 - s) := by
  unfold nvF
  rw [if_neg (by omega), if_neg (by omega), if_neg (by omega), if_neg (by omega)]
def kdN (t : Nat → Int) (len q : Nat) : Int := if q < len ∧ isLt (t q) = true then 1 else if q < len ∧ isFg (t q) = true then 2 else 0
theorem kd_1 {t : Nat → Int} {len q : Nat} (h : q < len) (h1 : isLt (t q) = true) : kdN t len q = 1 := if_pos ⟨h, h1⟩
theorem kd_2 {t : Nat → Int} {len q : Nat} (h : q < len) (h1 : isLt (t q) = false) (h2 : isFg (t q) = true) : kdN t len q = 2 := by
  unfold kdN
  rw [if_neg (fun z => bf_ne h1 z.2), if_pos ⟨h, h2⟩]
theorem kd_3 {t : Nat → Int} {len q : Nat} (h1 : isLt (t q) = false) (h2 : isFg (t q) = false) : kdN t len q = 0 := by
  unfold kdN
  rw [if_neg (fun z => bf_ne h1 z.2), if_neg (fun z => bf_ne h2 z.2)]
theorem kd_4 {t : Nat → Int} {len q : Nat} (h : ¬ q < len) : kdN t len q = 0 := by
  unfold kdN
  rw [if_neg (fun z => h z.1), if_neg (fun z => h z.1)]
theorem kd_r (t : Nat → Int) (len q : Nat) : kdN t len q = 0 ∨ kdN t len q = 1 ∨ kdN t len q = 2 := by
  unfold kdN
  split
  · exact Or.inr (Or.inl rfl)
  · split
    · exact Or.inr (Or.inr rfl)
    · exact Or.inl rfl
def cK (K : Int) : Int → Bool := if K = 1 then isLt else isFg
theorem kd_iff {t : Nat → Int} {len q : Nat} {K : Int} (hK : K = 1 ∨ K = 2) : kdN t len q = K ↔ q < len ∧ cK K (t q) = true := by
  rcases hK with rfl | rfl
  · show kdN t len q = 1 ↔ q < len ∧ isLt (t q) = true
    constructor
    · intro h
      unfold kdN at h
      split at h
      next z => exact z
      next => split at h <;> omega
    · exact fun h => kd_1 h.1 h.2
  · show kdN t len q = 2 ↔ q < len ∧ isFg (t q) = true
    constructor
    · intro h
      unfold kdN at h
      split at h
      · omega
      · split at h
        next z => exact z
        next => omega
    · rintro ⟨h1, h2⟩
      refine kd_2 h1 ?_ h2
      have := of_decide_eq_true h2
      exact decide_eq_false (by omega)
theorem kd_z {t : Nat → Int} {len q : Nat} (hq : q < len) (h : kdN t len q = 0) : isLt (t q) = false ∧ isFg (t q) = false := by
  have h1 : isLt (t q) = false := by
    cases hb : isLt (t q) with
    | false => rfl
    | true => have := kd_1 hq hb; omega
  refine ⟨h1, ?_⟩
  cases hb : isFg (t q) with
  | false => rfl
  | true => have := kd_2 hq h1 hb; omega
def TKm (w : Wd) (t : Nat → Int) (len p : Nat) : Prop := w 39 10 = tkS t len p ∧ w 39 9 = tkE t len p ∧ w 39 11 = tkK t len p ∧ (tkK t len p = 2 → w 39 12 = tkV t len p) ∧ (tkK t len p = 1 → w 39 13 = wdV t (tkS t len p) (tkE t len p - tkS t len p))
def fr39 (w w2 : Wd) : Prop := ∀ i k : Nat, ¬ (i = 39 ∧ 9 ≤ k ∧ k ≤ 13) → w2 i k = w i k
theorem TXm.fr {w w2 : Wd} {t : Nat → Int} {len : Nat} (h : TXm w t len) (e1 : ∀ k, w2 45 k = w 45 k) (e2 : w2 39 7 = w 39 7) : TXm w2 t len := ⟨fun k hk => by rw [e1]; exact h.1 k hk, by rw [e2]; exact h.2.1, h.2.2⟩
/-- a token's end -/
theorem tm_end {w : Wd} {t : Nat → Int} {len p s e : Nat} {K : Int} (hS : tkS t len p = s) (hne : s < len) (hK : K = 1 ∨ K = 2) (hk : kdN t len s = K) (hE : ruE (cK K) t len s = e) (h10 : w 39 10 = s) (h9 : w 39 9 = e) (h11 : w 39 11 = if K = 2 ∧ 2 < (e : Int) - s then 4 else K) (h12 : w 39 12 = nvF t s (e - s)) (h13 : w 39 13 = wdV t s (e - s)) (hse : s ≤ e) : TKm w t len p := by
  have hne2 : tkS t len p ≠ len := by omega
  rcases hK with rfl | rfl
  · have hb := ((kd_iff (Or.inl rfl)).mp hk).2
    obtain ⟨z1, z2, z3, z4⟩ := tk_let hne2 (by rw [hS]; exact hb)
    rw [hS] at z2
    have z2 : tkE t len p = e := z2.trans hE
    rw [if_neg (by omega)] at h11
    exact ⟨by rw [h10, hS], by rw [h9, z2], by rw [h11, z3], fun q => by omega, fun _ => by rw [h13, hS, z2]⟩
  · have hb := (kd_iff (Or.inr rfl)).mp hk
    have hb2 : isFg (t s) = true := hb.2
    have hl : isLt (t s) = false := by
      have := of_decide_eq_true hb2
      exact decide_eq_false (by omega)
    obtain ⟨z1, z2, z3, z4⟩ := tk_fig hne2 (by rw [hS]; exact hl) (by rw [hS]; exact hb2)
    rw [hS] at z2
    have z2 : tkE t len p = e := z2.trans hE
    rw [hS, z2] at z3 z4
    refine ⟨by rw [h10, hS], by rw [h9, z2], ?_, fun _ => by rw [h12, z4], fun q => ?_⟩
    · rw [h11, z3]
      by_cases y : 2 < e - s
      · rw [if_pos y, if_pos ⟨rfl, by omega⟩]
      · rw [if_neg y, if_neg (by omega)]
    · rw [z3] at q
      split at q <;> omega

theorem d_kindAt {d : Nat} {w : Wd} {Q : Option MV → Wd → Prop} {t : Nat → Int} {len : Nat} (hT : TXm w t len) {q : Nat} (hQ : Q (some (.inl (kdN t len q))) w) : Call (d + 1) mX4_kindAt [vR 39, vI (q : Int)] w Q := by
  refine call_in (ls := [some (vR 39), some (vI (q : Int)), none]) (by decide +kernel) rfl (Nat.le_of_ble_eq_true rfl) (fun κ hC hR hN => ?_)
  have hC : ctxB κ RX4 cX4_kindAt (d + 1) := hC
  have hN : mlx κ 3 := hN
  refine w_il1 hC dX4_kindAt_0 ?_
  have hl := hT.2.2.1
  refine w_al0 hC dX4_kindAt_1 ?_
  refine v_getI hC dX4_kindAt_2 fd_X4_78 rfl rfl ?_
  rw [hT.2.1]
  refine v_ic_ge (tgt := 17) hC dX4_kindAt_5 rfl (fun h5 => ?_) (fun h5 => ?_)
  · refine w_ic hC dX4_kindAt_17 rfl ?_
    refine w_is2 hC dX4_kindAt_18 hN (by first | rfl | assumption) ?_
    refine w_il2 hC dX4_kindAt_19 ?_
    refine v_bipush hC dX4_kindAt_20 (by decide) ?_
    refine v_bipush hC dX4_kindAt_22 (by decide) ?_
    refine w_st3 hC st_X4_53 dX4_kindAt_24 rfl hN (d_in (fun g1 => ?_) (fun g1 => ?_))
    · refine v_if_eq (tgt := 34) hC dX4_kindAt_27 rfl (fun h => absurd h (by decide)) (fun _ => ?_)
      refine w_ic hC dX4_kindAt_30 rfl ?_
      refine v_goto (tgt := 50) hC dX4_kindAt_31 rfl ?_
      refine v_iret hC hR dX4_kindAt_50 ?_
      first
      | exact qz (kd_1 (by omega) (decide_eq_true g1)) hQ
      | exact qz (kd_2 (by omega) (decide_eq_false g1) (decide_eq_true g2)) hQ
      | exact qz (kd_3 (decide_eq_false g1) (decide_eq_false g2)) hQ
      | exact qz (kd_4 (by omega)) hQ
      | (exfalso; omega)
    · refine v_if_eq (tgt := 34) hC dX4_kindAt_27 rfl (fun _ => ?_) (fun h => absurd h (by decide))
      refine w_il2 hC dX4_kindAt_34 ?_
      refine v_bipush hC dX4_kindAt_35 (by decide) ?_
      refine v_bipush hC dX4_kindAt_37 (by decide) ?_
      refine w_st3 hC st_X4_53 dX4_kindAt_39 rfl hN (d_in (fun g2 => ?_) (fun g2 => ?_))
      · refine v_if_eq (tgt := 49) hC dX4_kindAt_42 rfl (fun h => absurd h (by decide)) (fun _ => ?_)
        refine w_ic hC dX4_kindAt_45 rfl ?_
        refine v_goto (tgt := 50) hC dX4_kindAt_46 rfl ?_
        refine v_iret hC hR dX4_kindAt_50 ?_
        first
        | exact qz (kd_1 (by omega) (decide_eq_true g1)) hQ
        | exact qz (kd_2 (by omega) (decide_eq_false g1) (decide_eq_true g2)) hQ
        | exact qz (kd_3 (decide_eq_false g1) (decide_eq_false g2)) hQ
        | exact qz (kd_4 (by omega)) hQ
        | (exfalso; omega)
      · refine v_if_eq (tgt := 49) hC dX4_kindAt_42 rfl (fun _ => ?_) (fun h => absurd h (by decide))
        refine w_ic hC dX4_kindAt_49 rfl ?_
        refine v_iret hC hR dX4_kindAt_50 ?_
        first
        | exact qz (kd_1 (by omega) (decide_eq_true g1)) hQ
        | exact qz (kd_2 (by omega) (decide_eq_false g1) (decide_eq_true g2)) hQ
        | exact qz (kd_3 (decide_eq_false g1) (decide_eq_false g2)) hQ
        | exact qz (kd_4 (by omega)) hQ
        | (exfalso; omega)
  · refine w_al0 hC dX4_kindAt_8 ?_
    refine v_getR (off := 6) (j := 45) hC dX4_kindAt_9 fd_X4_30 rfl rfl rfl ?_
    refine w_il1 hC dX4_kindAt_12 ?_
    refine w_ialdk hC 150 (q) dX4_kindAt_13 rfl rfl (by omega) (by omega) ?_
    rw [hT.1 q (by omega)]
    refine v_goto (tgt := 18) hC dX4_kindAt_14 rfl ?_
    refine w_is2 hC dX4_kindAt_18 hN (by first | rfl | assumption) ?_
    refine w_il2 hC dX4_kindAt_19 ?_
    refine v_bipush hC dX4_kindAt_20 (by decide) ?_
    refine v_bipush hC dX4_kindAt_22 (by decide) ?_
    refine w_st3 hC st_X4_53 dX4_kindAt_24 rfl hN (d_in (fun g1 => ?_) (fun g1 => ?_))
    · refine v_if_eq (tgt := 34) hC dX4_kindAt_27 rfl (fun h => absurd h (by decide)) (fun _ => ?_)
      refine w_ic hC dX4_kindAt_30 rfl ?_
      refine v_goto (tgt := 50) hC dX4_kindAt_31 rfl ?_
      refine v_iret hC hR dX4_kindAt_50 ?_
      first
      | exact qz (kd_1 (by omega) (decide_eq_true g1)) hQ
      | exact qz (kd_2 (by omega) (decide_eq_false g1) (decide_eq_true g2)) hQ
      | exact qz (kd_3 (decide_eq_false g1) (decide_eq_false g2)) hQ
      | exact qz (kd_4 (by omega)) hQ
      | (exfalso; omega)
    · refine v_if_eq (tgt := 34) hC dX4_kindAt_27 rfl (fun _ => ?_) (fun h => absurd h (by decide))
      refine w_il2 hC dX4_kindAt_34 ?_
      refine v_bipush hC dX4_kindAt_35 (by decide) ?_
      refine v_bipush hC dX4_kindAt_37 (by decide) ?_
      refine w_st3 hC st_X4_53 dX4_kindAt_39 rfl hN (d_in (fun g2 => ?_) (fun g2 => ?_))
      · refine v_if_eq (tgt := 49) hC dX4_kindAt_42 rfl (fun h => absurd h (by decide)) (fun _ => ?_)
        refine w_ic hC dX4_kindAt_45 rfl ?_
        refine v_goto (tgt := 50) hC dX4_kindAt_46 rfl ?_
        refine v_iret hC hR dX4_kindAt_50 ?_
        first
        | exact qz (kd_1 (by omega) (decide_eq_true g1)) hQ
        | exact qz (kd_2 (by omega) (decide_eq_false g1) (decide_eq_true g2)) hQ
        | exact qz (kd_3 (decide_eq_false g1) (decide_eq_false g2)) hQ
        | exact qz (kd_4 (by omega)) hQ
        | (exfalso; omega)
      · refine v_if_eq (tgt := 49) hC dX4_kindAt_42 rfl (fun _ => ?_) (fun h => absurd h (by decide))
        refine w_ic hC dX4_kindAt_49 rfl ?_
        refine v_iret hC hR dX4_kindAt_50 ?_
        first
        | exact qz (kd_1 (by omega) (decide_eq_true g1)) hQ
        | exact qz (kd_2 (by omega) (decide_eq_false g1) (decide_eq_true g2)) hQ
        | exact qz (kd_3 (decide_eq_false g1) (decide_eq_false g2)) hQ
        | exact qz (kd_4 (by omega)) hQ
        | (exfalso; omega)

theorem d_nextToken {d : Nat} {w : Wd} {Q : Option MV → Wd → Prop} {t : Nat → Int} {len : Nat} (hT : TXm w t len) {p : Nat} (hp : p ≤ len) (he : w 39 9 = p) (hQ : ∀ w2, TKm w2 t len p → fr39 w w2 → Q none w2) : Call (d + 2) mX4_nextToken [vR 39] w Q := by
  refine call_in (ls := [some (vR 39), none]) (by decide +kernel) rfl (Nat.le_of_ble_eq_true rfl) (fun κ hC hR hN => ?_)
  have hC : ctxB κ RX4 cX4_nextToken (d + 2) := hC
  have hN : mlx κ 2 := hN
  have tl38 : ∀ (w2 : Wd) (s : Nat), (s ≤ len) → (w2 39 9 = s) → (ruE isBl t len p = s) → (∀ i k : Nat, ¬ (i = 39 ∧ k = 9) → w2 i k = w i k) → VV κ 38 [some (vR 39), none] [] w2 := by
    intro w2 s hle h9 hE g2
    have hT2 := hT.fr (w2 := w2) (fun k => g2 45 k (by omega)) (g2 39 7 (by decide))
    have y1 := hT2.2.1
    have hl := hT2.2.2.1
    refine w_al0 hC dX4_nextToken_38 ?_
    refine w_al0 hC dX4_nextToken_39 ?_
    refine v_getI hC dX4_nextToken_40 fd_X4_82 rfl rfl ?_
    rw [h9]
    refine v_putI hC dX4_nextToken_43 fp_X4_85 rfl rfl ?_
    refine w_al0 hC dX4_nextToken_46 ?_
    refine v_lconst (z := 0) hC dX4_nextToken_47 rfl ?_
    refine v_putL hC dX4_nextToken_48 fp_X4_88 rfl rfl ?_
    refine w_al0 hC dX4_nextToken_51 ?_
    refine w_ic hC dX4_nextToken_52 rfl ?_
    refine v_putI hC dX4_nextToken_53 fp_X4_91 rfl rfl ?_
    have u10 : up (up (up w2 39 10 (s : Int)) 39 13 0) 39 12 0 39 10 = s := by rw [up_pl _ _ (by decide), up_pl _ _ (by decide), up_same]
    have u7 : up (up (up w2 39 10 (s : Int)) 39 13 0) 39 12 0 39 7 = len := by rw [up_pl _ _ (by decide), up_pl _ _ (by decide), up_pl _ _ (by decide)]; exact y1
    have u9 : up (up (up w2 39 10 (s : Int)) 39 13 0) 39 12 0 39 9 = s := by rw [up_pl _ _ (by decide), up_pl _ _ (by decide), up_pl _ _ (by decide)]; exact h9
    have u45 : ∀ k, up (up (up w2 39 10 (s : Int)) 39 13 0) 39 12 0 45 k = w2 45 k := fun k => by rw [up_id _ _ (by decide), up_id _ _ (by decide), up_id _ _ (by decide)]
    have uf : ∀ i k : Nat, ¬ (i = 39 ∧ 9 ≤ k ∧ k ≤ 13) → up (up (up w2 39 10 (s : Int)) 39 13 0) 39 12 0 i k = w i k := fun i k h => by rw [up_ne _ _ (by omega), up_ne _ _ (by omega), up_ne _ _ (by omega)]; exact g2 i k (by omega)
    have u12 : up (up (up w2 39 10 (s : Int)) 39 13 0) 39 12 0 39 12 = 0 := up_same _ _ _ _
    have u13 : up (up (up w2 39 10 (s : Int)) 39 13 0) 39 12 0 39 13 = 0 := by rw [up_pl _ _ (by decide), up_same]
    have hS : tkS t len p = s := hE
    generalize up (up (up w2 39 10 (s : Int)) 39 13 0) 39 12 0 = w4 at u10 u7 u9 u45 uf u12 u13 ⊢
    have hT4 : TXm w4 t len := hT2.fr u45 (by rw [u7, y1])
    refine w_al0 hC dX4_nextToken_56 ?_
    refine v_getI hC dX4_nextToken_57 fd_X4_82 rfl rfl ?_
    rw [u9]
    refine w_al0 hC dX4_nextToken_60 ?_
    refine v_getI hC dX4_nextToken_61 fd_X4_78 rfl rfl ?_
    rw [u7]
    refine v_ic_ne (tgt := 73) hC dX4_nextToken_64 rfl (fun h64 => ?_) (fun h64 => ?_)
    · refine w_al0 hC dX4_nextToken_73 ?_
      refine w_al0 hC dX4_nextToken_74 ?_
      refine w_al0 hC dX4_nextToken_75 ?_
      refine v_getI hC dX4_nextToken_76 fd_X4_82 rfl rfl ?_
      rw [u9]
      have hsl : s < len := by omega
      refine w_vi1 hC vi_X4_97 rfl dX4_nextToken_79 rfl hN (d_kindAt hT4 (q := s) ?_)
      have hkr := kd_r t len s
      refine v_putI hC dX4_nextToken_82 fp_X4_94 rfl rfl ?_
      refine w_al0 hC dX4_nextToken_85 ?_
      refine v_getI hC dX4_nextToken_86 fd_X4_94 rfl rfl ?_
      rw [up_same]
      refine v_if_ne (tgt := 126) hC dX4_nextToken_89 rfl (fun h89 => ?_) (fun h89 => ?_)
      · refine w_dr1 ?_
        have lp126 : ∀ (K1 : Nat) (w5 : Wd) (e : Nat), (len - e) < K1 → (s ≤ e ∧ e ≤ len) → (w5 39 9 = e) → (w5 39 12 = nvF t s (e - s)) → (w5 39 13 = wdV t s (e - s)) → (ruE (cK (kdN t len s)) t len e = ruE (cK (kdN t len s)) t len s) → (∀ i k : Nat, ¬ (i = 39 ∧ (k = 9 ∨ k = 12 ∨ k = 13)) → w5 i k = up w4 39 11 (kdN t len s) i k) → VV κ 126 [some (vR 39), none] [] w5 := by
          intro K1
          induction K1 with
          | zero => intros; omega
          | succ K1 ih126 =>
            intro w5 e hm126 hse i9 i12 i13 hr2 g5
            have i11 : w5 39 11 = kdN t len s := by rw [g5 39 11 (by decide), up_same]
            have i10 : w5 39 10 = s := by rw [g5 39 10 (by decide), up_pl _ _ (by decide), u10]
            have hT5 : TXm w5 t len := hT4.fr (fun k => by rw [g5 45 k (by omega), up_id _ _ (by decide)]) (by rw [g5 39 7 (by decide), up_pl _ _ (by decide)])
            have hl5 := hT5.2.2.1
            have hin : ∀ q, q < e - s → 0 ≤ t (s + q) ∧ t (s + q) ≤ 127 := fun q hq => hT5.2.2.2 (s + q) (by omega)
            have hwr := wd_r (t := t) (s := s) (e - s) hin
            have hnv := nvF_r (t := t) (s := s) (k := e - s) hin
            refine w_al0 hC dX4_nextToken_126 ?_
            refine w_al0 hC dX4_nextToken_127 ?_
            refine v_getI hC dX4_nextToken_128 fd_X4_82 rfl rfl ?_
            rw [i9]
            refine w_vi1 hC vi_X4_97 rfl dX4_nextToken_131 rfl hN (d_kindAt hT5 (q := e) ?_)
            refine w_al0 hC dX4_nextToken_134 ?_
            refine v_getI hC dX4_nextToken_135 fd_X4_94 rfl rfl ?_
            rw [i11]
            refine v_ic_ne (tgt := 235) hC dX4_nextToken_138 rfl (fun h138 => ?_) (fun h138 => ?_)
            · have hE5 : ruE (cK (kdN t len s)) t len s = e := by
                rw [← hr2]
                exact ruE_0 (fun z => h138 ((kd_iff (by omega)).mpr z))
              refine w_al0 hC dX4_nextToken_235 ?_
              refine w_al0 hC dX4_nextToken_236 ?_
              refine v_getI hC dX4_nextToken_237 fd_X4_94 rfl rfl ?_
              rw [i11]
              refine w_ic hC dX4_nextToken_240 rfl ?_
              refine v_ic_ne (tgt := 261) hC dX4_nextToken_241 rfl (fun h241 => ?_) (fun h241 => ?_)
              · refine w_al0 hC dX4_nextToken_261 ?_
                refine v_getI hC dX4_nextToken_262 fd_X4_94 rfl rfl ?_
                rw [i11]
                refine v_putI hC dX4_nextToken_265 fp_X4_94 rfl rfl ?_
                refine v_vret hC hR dX4_nextToken_268 ?_
                refine hQ _ (tm_end hS hsl (K := kdN t len s) (by omega) rfl hE5 (by rw [up_pl _ _ (by decide)]; exact i10) (by rw [up_pl _ _ (by decide)]; exact i9) ?_ (by rw [up_pl _ _ (by decide)]; exact i12) (by rw [up_pl _ _ (by decide)]; exact i13) hse.1) (fun i k h => ?_)
                · rw [up_same]
                  first | exact (if_pos (by omega)).symm | exact (if_neg (by omega)).symm
                · rw [up_ne _ _ (by omega), g5 i k (by omega), up_ne _ _ (by omega)]
                  exact uf i k h
              · refine w_al0 hC dX4_nextToken_244 ?_
                refine v_getI hC dX4_nextToken_245 fd_X4_82 rfl rfl ?_
                rw [i9]
                refine w_al0 hC dX4_nextToken_248 ?_
                refine v_getI hC dX4_nextToken_249 fd_X4_85 rfl rfl ?_
                rw [i10]
                refine w_isub hC dX4_nextToken_252 (ri_mk (by omega) (by omega)) ?_
                refine w_ic hC dX4_nextToken_253 rfl ?_
                refine v_ic_le (tgt := 261) hC dX4_nextToken_254 rfl (fun h254 => ?_) (fun h254 => ?_)
                · refine w_al0 hC dX4_nextToken_261 ?_
                  refine v_getI hC dX4_nextToken_262 fd_X4_94 rfl rfl ?_
                  rw [i11]
                  refine v_putI hC dX4_nextToken_265 fp_X4_94 rfl rfl ?_
                  refine v_vret hC hR dX4_nextToken_268 ?_
                  refine hQ _ (tm_end hS hsl (K := kdN t len s) (by omega) rfl hE5 (by rw [up_pl _ _ (by decide)]; exact i10) (by rw [up_pl _ _ (by decide)]; exact i9) ?_ (by rw [up_pl _ _ (by decide)]; exact i12) (by rw [up_pl _ _ (by decide)]; exact i13) hse.1) (fun i k h => ?_)
                  · rw [up_same]
                    first | exact (if_pos (by omega)).symm | exact (if_neg (by omega)).symm
                  · rw [up_ne _ _ (by omega), g5 i k (by omega), up_ne _ _ (by omega)]
                    exact uf i k h
                · refine w_ic hC dX4_nextToken_257 rfl ?_
                  refine v_goto (tgt := 265) hC dX4_nextToken_258 rfl ?_
                  refine v_putI hC dX4_nextToken_265 fp_X4_94 rfl rfl ?_
                  refine v_vret hC hR dX4_nextToken_268 ?_
                  refine hQ _ (tm_end hS hsl (K := kdN t len s) (by omega) rfl hE5 (by rw [up_pl _ _ (by decide)]; exact i10) (by rw [up_pl _ _ (by decide)]; exact i9) ?_ (by rw [up_pl _ _ (by decide)]; exact i12) (by rw [up_pl _ _ (by decide)]; exact i13) hse.1) (fun i k h => ?_)
                  · rw [up_same]
                    first | exact (if_pos (by omega)).symm | exact (if_neg (by omega)).symm
                  · rw [up_ne _ _ (by omega), g5 i k (by omega), up_ne _ _ (by omega)]
                    exact uf i k h
            · refine w_al0 hC dX4_nextToken_141 ?_
              have hce := (kd_iff (t := t) (len := len) (q := e) (K := kdN t len s) (by omega)).mp (by omega)
              have hte := hT5.2.2.2 e hce.1
              refine v_getI hC dX4_nextToken_142 fd_X4_82 rfl rfl ?_
              rw [i9]
              refine w_al0 hC dX4_nextToken_145 ?_
              refine v_getI hC dX4_nextToken_146 fd_X4_85 rfl rfl ?_
              rw [i10]
              refine w_isub hC dX4_nextToken_149 (ri_mk (by omega) (by omega)) ?_
              refine w_is1 hC dX4_nextToken_150 hN (by first | rfl | assumption) ?_
              refine w_al0 hC dX4_nextToken_151 ?_
              refine w_il1 hC dX4_nextToken_152 ?_
              refine v_bipush hC dX4_nextToken_153 (by decide) ?_
              refine v_ic_ge (tgt := 180) hC dX4_nextToken_155 rfl (fun h155 => ?_) (fun h155 => ?_)
              · refine v_ldc2 (n := -1) hC dX4_nextToken_180 kl_X4_102 rfl (ckL_ok rfl) ?_
                rw [wd_b (t := t) hse.1 (show ¬ e - s < 7 by omega)]
                refine v_putL hC dX4_nextToken_183 fp_X4_88 rfl rfl ?_
                refine w_al0 hC dX4_nextToken_186 ?_
                refine w_il1 hC dX4_nextToken_187 ?_
                refine w_ic hC dX4_nextToken_188 rfl ?_
                refine v_ic_ge (tgt := 215) hC dX4_nextToken_189 rfl (fun h189 => ?_) (fun h189 => ?_)
                · refine w_al0 hC dX4_nextToken_215 ?_
                  refine v_getI hC dX4_nextToken_216 fd_X4_91 rfl rfl ?_
                  rw [up_pl _ _ (by decide), i12, nv_k (by omega) hse.1]
                  refine v_putI hC dX4_nextToken_219 fp_X4_91 rfl rfl ?_
                  refine w_al0 hC dX4_nextToken_222 ?_
                  refine v_dup hC dX4_nextToken_223 rfl ?_
                  refine v_getI hC dX4_nextToken_224 fd_X4_82 rfl rfl ?_
                  rw [up_pl _ _ (by decide), up_pl _ _ (by decide), i9]
                  refine w_ic hC dX4_nextToken_227 rfl ?_
                  refine w_iadd hC dX4_nextToken_228 (ri_mk (by omega) (by omega)) ?_
                  refine v_putI hC dX4_nextToken_229 fp_X4_82 rfl rfl ?_
                  refine v_goto (tgt := 126) hC dX4_nextToken_232 rfl ?_
                  refine w_dr1 ?_
                  exact ih126 _ (e + 1) (by omega) (by omega) (up_same _ _ _ _) (by rw [up_pl _ _ (by decide), up_same]) (by rw [up_pl _ _ (by decide), up_pl _ _ (by decide), up_same]) (by rw [← hr2]; exact (ruE_1 (by omega) hce.2).symm) (fun i k h => by rw [up_ne _ _ (by omega), up_ne _ _ (by omega), up_ne _ _ (by omega)]; exact g5 i k h)
                · refine v_bipush hC dX4_nextToken_192 (by decide) ?_
                  refine w_al0 hC dX4_nextToken_194 ?_
                  refine v_getI hC dX4_nextToken_195 fd_X4_91 rfl rfl ?_
                  rw [up_pl _ _ (by decide), i12]
                  refine w_imul hC dX4_nextToken_198 (ri_mk (by omega) (by omega)) ?_
                  refine w_al0 hC dX4_nextToken_199 ?_
                  refine v_getR (off := 6) (j := 45) hC dX4_nextToken_200 fd_X4_30 rfl rfl rfl ?_
                  refine w_al0 hC dX4_nextToken_203 ?_
                  refine v_getI hC dX4_nextToken_204 fd_X4_82 rfl rfl ?_
                  rw [up_pl _ _ (by decide), i9]
                  refine w_ialdk hC 150 (e) dX4_nextToken_207 rfl rfl (by omega) (by omega) ?_
                  rw [up_id _ _ (by decide), hT5.1 e hce.1]
                  refine w_iadd hC dX4_nextToken_208 (ri_mk (by omega) (by omega)) ?_
                  refine v_bipush hC dX4_nextToken_209 (by decide) ?_
                  refine w_isub hC dX4_nextToken_211 (ri_mk (by omega) (by omega)) ?_
                  rw [nv_s hse.1 (by omega)]
                  refine v_goto (tgt := 219) hC dX4_nextToken_212 rfl ?_
                  refine v_putI hC dX4_nextToken_219 fp_X4_91 rfl rfl ?_
                  refine w_al0 hC dX4_nextToken_222 ?_
                  refine v_dup hC dX4_nextToken_223 rfl ?_
                  refine v_getI hC dX4_nextToken_224 fd_X4_82 rfl rfl ?_
                  rw [up_pl _ _ (by decide), up_pl _ _ (by decide), i9]
                  refine w_ic hC dX4_nextToken_227 rfl ?_
                  refine w_iadd hC dX4_nextToken_228 (ri_mk (by omega) (by omega)) ?_
                  refine v_putI hC dX4_nextToken_229 fp_X4_82 rfl rfl ?_
                  refine v_goto (tgt := 126) hC dX4_nextToken_232 rfl ?_
                  refine w_dr1 ?_
                  exact ih126 _ (e + 1) (by omega) (by omega) (up_same _ _ _ _) (by rw [up_pl _ _ (by decide), up_same]) (by rw [up_pl _ _ (by decide), up_pl _ _ (by decide), up_same]) (by rw [← hr2]; exact (ruE_1 (by omega) hce.2).symm) (fun i k h => by rw [up_ne _ _ (by omega), up_ne _ _ (by omega), up_ne _ _ (by omega)]; exact g5 i k h)
              · refine v_ldc2 (n := 256) hC dX4_nextToken_158 kl_X4_100 rfl (ckL_ok rfl) ?_
                refine w_al0 hC dX4_nextToken_161 ?_
                refine v_getL hC dX4_nextToken_162 fd_X4_88 rfl rfl ?_
                rw [i13]
                have hw6 := hwr.2 (by omega)
                have hp6 := p256 (e - s) (by omega)
                refine w_lmul hC dX4_nextToken_165 (ri_mkL (by omega) (by omega)) ?_
                refine w_al0 hC dX4_nextToken_166 ?_
                refine v_getR (off := 6) (j := 45) hC dX4_nextToken_167 fd_X4_30 rfl rfl rfl ?_
                refine w_al0 hC dX4_nextToken_170 ?_
                refine v_getI hC dX4_nextToken_171 fd_X4_82 rfl rfl ?_
                rw [i9]
                refine w_ialdk hC 150 (e) dX4_nextToken_174 rfl rfl (by omega) (by omega) ?_
                rw [hT5.1 e hce.1]
                refine v_i2l hC dX4_nextToken_175 ?_
                refine w_ladd hC dX4_nextToken_176 (ri_mkL (by omega) (by omega)) ?_
                rw [wd_a hse.1 (by omega)]
                refine v_goto (tgt := 183) hC dX4_nextToken_177 rfl ?_
                refine v_putL hC dX4_nextToken_183 fp_X4_88 rfl rfl ?_
                refine w_al0 hC dX4_nextToken_186 ?_
                refine w_il1 hC dX4_nextToken_187 ?_
                refine w_ic hC dX4_nextToken_188 rfl ?_
                refine v_ic_ge (tgt := 215) hC dX4_nextToken_189 rfl (fun h189 => ?_) (fun h189 => ?_)
                · refine w_al0 hC dX4_nextToken_215 ?_
                  refine v_getI hC dX4_nextToken_216 fd_X4_91 rfl rfl ?_
                  rw [up_pl _ _ (by decide), i12, nv_k (by omega) hse.1]
                  refine v_putI hC dX4_nextToken_219 fp_X4_91 rfl rfl ?_
                  refine w_al0 hC dX4_nextToken_222 ?_
                  refine v_dup hC dX4_nextToken_223 rfl ?_
                  refine v_getI hC dX4_nextToken_224 fd_X4_82 rfl rfl ?_
                  rw [up_pl _ _ (by decide), up_pl _ _ (by decide), i9]
                  refine w_ic hC dX4_nextToken_227 rfl ?_
                  refine w_iadd hC dX4_nextToken_228 (ri_mk (by omega) (by omega)) ?_
                  refine v_putI hC dX4_nextToken_229 fp_X4_82 rfl rfl ?_
                  refine v_goto (tgt := 126) hC dX4_nextToken_232 rfl ?_
                  refine w_dr1 ?_
                  exact ih126 _ (e + 1) (by omega) (by omega) (up_same _ _ _ _) (by rw [up_pl _ _ (by decide), up_same]) (by rw [up_pl _ _ (by decide), up_pl _ _ (by decide), up_same]) (by rw [← hr2]; exact (ruE_1 (by omega) hce.2).symm) (fun i k h => by rw [up_ne _ _ (by omega), up_ne _ _ (by omega), up_ne _ _ (by omega)]; exact g5 i k h)
                · refine v_bipush hC dX4_nextToken_192 (by decide) ?_
                  refine w_al0 hC dX4_nextToken_194 ?_
                  refine v_getI hC dX4_nextToken_195 fd_X4_91 rfl rfl ?_
                  rw [up_pl _ _ (by decide), i12]
                  refine w_imul hC dX4_nextToken_198 (ri_mk (by omega) (by omega)) ?_
                  refine w_al0 hC dX4_nextToken_199 ?_
                  refine v_getR (off := 6) (j := 45) hC dX4_nextToken_200 fd_X4_30 rfl rfl rfl ?_
                  refine w_al0 hC dX4_nextToken_203 ?_
                  refine v_getI hC dX4_nextToken_204 fd_X4_82 rfl rfl ?_
                  rw [up_pl _ _ (by decide), i9]
                  refine w_ialdk hC 150 (e) dX4_nextToken_207 rfl rfl (by omega) (by omega) ?_
                  rw [up_id _ _ (by decide), hT5.1 e hce.1]
                  refine w_iadd hC dX4_nextToken_208 (ri_mk (by omega) (by omega)) ?_
                  refine v_bipush hC dX4_nextToken_209 (by decide) ?_
                  refine w_isub hC dX4_nextToken_211 (ri_mk (by omega) (by omega)) ?_
                  rw [nv_s hse.1 (by omega)]
                  refine v_goto (tgt := 219) hC dX4_nextToken_212 rfl ?_
                  refine v_putI hC dX4_nextToken_219 fp_X4_91 rfl rfl ?_
                  refine w_al0 hC dX4_nextToken_222 ?_
                  refine v_dup hC dX4_nextToken_223 rfl ?_
                  refine v_getI hC dX4_nextToken_224 fd_X4_82 rfl rfl ?_
                  rw [up_pl _ _ (by decide), up_pl _ _ (by decide), i9]
                  refine w_ic hC dX4_nextToken_227 rfl ?_
                  refine w_iadd hC dX4_nextToken_228 (ri_mk (by omega) (by omega)) ?_
                  refine v_putI hC dX4_nextToken_229 fp_X4_82 rfl rfl ?_
                  refine v_goto (tgt := 126) hC dX4_nextToken_232 rfl ?_
                  refine w_dr1 ?_
                  exact ih126 _ (e + 1) (by omega) (by omega) (up_same _ _ _ _) (by rw [up_pl _ _ (by decide), up_same]) (by rw [up_pl _ _ (by decide), up_pl _ _ (by decide), up_same]) (by rw [← hr2]; exact (ruE_1 (by omega) hce.2).symm) (fun i k h => by rw [up_ne _ _ (by omega), up_ne _ _ (by omega), up_ne _ _ (by omega)]; exact g5 i k h)
        exact lp126 (len + 1) _ s (by omega) ⟨Nat.le_refl s, by omega⟩ (by rw [up_pl _ _ (by decide), u9]) (by rw [up_pl _ _ (by decide), u12, Nat.sub_self]; rfl) (by rw [up_pl _ _ (by decide), u13, Nat.sub_self]; rfl) rfl (fun _ _ _ => rfl)
      · refine w_al0 hC dX4_nextToken_92 ?_
        refine w_al0 hC dX4_nextToken_93 ?_
        refine v_getR (off := 6) (j := 45) hC dX4_nextToken_94 fd_X4_30 rfl rfl rfl ?_
        refine w_al0 hC dX4_nextToken_97 ?_
        refine v_getI hC dX4_nextToken_98 fd_X4_82 rfl rfl ?_
        rw [up_pl _ _ (by decide), u9]
        refine w_ialdk hC 150 (s) dX4_nextToken_101 rfl rfl (by omega) (by omega) ?_
        rw [up_id _ _ (by decide), hT4.1 s hsl]
        refine v_bipush hC dX4_nextToken_102 (by decide) ?_
        refine v_ic_ne (tgt := 111) hC dX4_nextToken_104 rfl (fun h104 => ?_) (fun h104 => ?_)
        · refine w_ic hC dX4_nextToken_111 rfl ?_
          refine v_putI hC dX4_nextToken_112 fp_X4_94 rfl rfl ?_
          refine w_al0 hC dX4_nextToken_115 ?_
          refine v_dup hC dX4_nextToken_116 rfl ?_
          refine v_getI hC dX4_nextToken_117 fd_X4_82 rfl rfl ?_
          rw [up_pl _ _ (by decide), up_pl _ _ (by decide), u9]
          refine w_ic hC dX4_nextToken_120 rfl ?_
          refine w_iadd hC dX4_nextToken_121 (ri_mk (by omega) (by omega)) ?_
          refine v_putI hC dX4_nextToken_122 fp_X4_82 rfl rfl ?_
          refine v_vret hC hR dX4_nextToken_125 ?_
          have hz := kd_z hsl (by omega)
          obtain ⟨z2, z3, z4⟩ := tk_oth (t := t) (p := p) (show tkS t len p ≠ len by omega) (by rw [hS]; exact hz.1) (by rw [hS]; exact hz.2)
          rw [hS] at z2 z3
          have hk34 : tkK t len p = 3 ∨ tkK t len p = 4 := by rw [z3]; split <;> omega
          exact hQ _ ⟨by rw [up_pl _ _ (by decide), up_pl _ _ (by decide), up_pl _ _ (by decide), u10, hS], by rw [up_same, z2]; rfl, by rw [up_pl _ _ (by decide), up_same, z3]; first | exact (if_pos h104).symm | exact (if_neg h104).symm, fun q => by omega, fun q => by omega⟩ (fun i k h => by rw [up_ne _ _ (by omega), up_ne _ _ (by omega), up_ne _ _ (by omega)]; exact uf i k h)
        · refine w_ic hC dX4_nextToken_107 rfl ?_
          refine v_goto (tgt := 112) hC dX4_nextToken_108 rfl ?_
          refine v_putI hC dX4_nextToken_112 fp_X4_94 rfl rfl ?_
          refine w_al0 hC dX4_nextToken_115 ?_
          refine v_dup hC dX4_nextToken_116 rfl ?_
          refine v_getI hC dX4_nextToken_117 fd_X4_82 rfl rfl ?_
          rw [up_pl _ _ (by decide), up_pl _ _ (by decide), u9]
          refine w_ic hC dX4_nextToken_120 rfl ?_
          refine w_iadd hC dX4_nextToken_121 (ri_mk (by omega) (by omega)) ?_
          refine v_putI hC dX4_nextToken_122 fp_X4_82 rfl rfl ?_
          refine v_vret hC hR dX4_nextToken_125 ?_
          have hz := kd_z hsl (by omega)
          obtain ⟨z2, z3, z4⟩ := tk_oth (t := t) (p := p) (show tkS t len p ≠ len by omega) (by rw [hS]; exact hz.1) (by rw [hS]; exact hz.2)
          rw [hS] at z2 z3
          have hk34 : tkK t len p = 3 ∨ tkK t len p = 4 := by rw [z3]; split <;> omega
          exact hQ _ ⟨by rw [up_pl _ _ (by decide), up_pl _ _ (by decide), up_pl _ _ (by decide), u10, hS], by rw [up_same, z2]; rfl, by rw [up_pl _ _ (by decide), up_same, z3]; first | exact (if_pos h104).symm | exact (if_neg h104).symm, fun q => by omega, fun q => by omega⟩ (fun i k h => by rw [up_ne _ _ (by omega), up_ne _ _ (by omega), up_ne _ _ (by omega)]; exact uf i k h)
    · refine w_al0 hC dX4_nextToken_67 ?_
      refine w_ic hC dX4_nextToken_68 rfl ?_
      refine v_putI hC dX4_nextToken_69 fp_X4_94 rfl rfl ?_
      refine v_vret hC hR dX4_nextToken_72 ?_
      have hel : s = len := by omega
      obtain ⟨z1, z2, z3, z4⟩ := tk_end (t := t) (p := p) (hS.trans hel)
      exact hQ _ ⟨by rw [up_pl _ _ (by decide), u10, hS], by rw [up_pl _ _ (by decide), u9, z2, hel], by rw [up_same, z3], fun q => by omega, fun q => by omega⟩ (fun i k h => by rw [up_ne _ _ (by omega)]; exact uf i k h)
  refine w_dr1 ?_
  have lp0 : ∀ (K : Nat) (w2 : Wd) (e : Nat), (len - e) < K → (e ≤ len) → (w2 39 9 = e) → (ruE isBl t len e = ruE isBl t len p) → (∀ i k : Nat, ¬ (i = 39 ∧ k = 9) → w2 i k = w i k) → VV κ 0 [some (vR 39), none] [] w2 := by
    intro K
    induction K with
    | zero => intros; omega
    | succ K ih0 =>
      intro w2 e hm0 hle h9 hr g2
      have hT2 := hT.fr (w2 := w2) (fun k => g2 45 k (by omega)) (g2 39 7 (by decide))
      have y1 := hT2.2.1
      have hl := hT2.2.2.1
      refine w_al0 hC dX4_nextToken_0 ?_
      refine v_getI hC dX4_nextToken_1 fd_X4_82 rfl rfl ?_
      rw [h9]
      refine w_al0 hC dX4_nextToken_4 ?_
      refine v_getI hC dX4_nextToken_5 fd_X4_78 rfl rfl ?_
      rw [y1]
      refine v_ic_ge (tgt := 38) hC dX4_nextToken_8 rfl (fun h8 => ?_) (fun h8 => ?_)
      · first | exact tl38 w2 e hle h9 (by rw [← hr]; exact ruE_0 (fun z => by omega)) g2 | exact tl38 w2 e hle h9 (by rw [← hr]; exact ruE_0 (fun z => absurd (of_decide_eq_true z.2) (by omega))) g2
      · refine w_al0 hC dX4_nextToken_11 ?_
        refine v_getR (off := 6) (j := 45) hC dX4_nextToken_12 fd_X4_30 rfl rfl rfl ?_
        refine w_al0 hC dX4_nextToken_15 ?_
        refine v_getI hC dX4_nextToken_16 fd_X4_82 rfl rfl ?_
        rw [h9]
        refine w_ialdk hC 150 (e) dX4_nextToken_19 rfl rfl (by omega) (by omega) ?_
        rw [hT2.1 e (by omega)]
        refine v_bipush hC dX4_nextToken_20 (by decide) ?_
        refine v_ic_ne (tgt := 38) hC dX4_nextToken_22 rfl (fun h22 => ?_) (fun h22 => ?_)
        · first | exact tl38 w2 e hle h9 (by rw [← hr]; exact ruE_0 (fun z => by omega)) g2 | exact tl38 w2 e hle h9 (by rw [← hr]; exact ruE_0 (fun z => absurd (of_decide_eq_true z.2) (by omega))) g2
        · refine w_al0 hC dX4_nextToken_25 ?_
          refine v_dup hC dX4_nextToken_26 rfl ?_
          refine v_getI hC dX4_nextToken_27 fd_X4_82 rfl rfl ?_
          rw [h9]
          refine w_ic hC dX4_nextToken_30 rfl ?_
          refine w_iadd hC dX4_nextToken_31 (ri_mk (by omega) (by omega)) ?_
          refine v_putI hC dX4_nextToken_32 fp_X4_82 rfl rfl ?_
          refine v_goto (tgt := 0) hC dX4_nextToken_35 rfl ?_
          refine w_dr1 ?_
          exact ih0 _ (e + 1) (by omega) (by omega) (up_same _ _ _ _) (by rw [← hr]; exact (ruE_1 (by omega) (decide_eq_true (by omega))).symm) (fun i k h => by rw [up_ne _ _ h]; exact g2 i k h)
  exact lp0 (len + 1) w p (by omega) hp he rfl (fun _ _ _ => rfl)

theorem d_isNumber {d : Nat} {w : Wd} {Q : Option MV → Wd → Prop} {t : Nat → Int} {len : Nat} (hT : TXm w t len) {p : Nat} {z : Int} (hp : p ≤ len) (he : w 39 9 = p) (ht : ∀ w2, tkK t len p = 2 ∧ tkV t len p ≤ z → TKm w2 t len p → w2 39 12 = tkV t len p → fr39 w w2 → Q (some (.inl 1)) w2) (hf : ∀ w2, ¬ (tkK t len p = 2 ∧ tkV t len p ≤ z) → TKm w2 t len p → fr39 w w2 → Q (some (.inl 0)) w2) : Call (d + 3) mX4_isNumber [vR 39, vI 0, vI z] w Q := by
  refine call_in (ls := [some (vR 39), some (vI 0), some (vI z)]) (by decide +kernel) rfl (Nat.le_of_ble_eq_true rfl) (fun κ hC hR hN => ?_)
  have hC : ctxB κ RX4 cX4_isNumber (d + 3) := hC
  have hN : mlx κ 3 := hN
  refine w_al0 hC dX4_isNumber_0 ?_
  refine w_vi0 hC vi_X4_104 rfl dX4_isNumber_1 rfl hN (d_nextToken hT hp he (fun w2 k2 o2 => ?_))
  refine w_al0 hC dX4_isNumber_4 ?_
  refine v_getI hC dX4_isNumber_5 fd_X4_94 rfl rfl ?_
  rw [k2.2.2.1]
  refine w_ic hC dX4_isNumber_8 rfl ?_
  refine v_ic_ne (tgt := 28) hC dX4_isNumber_9 rfl (fun h9 => ?_) (fun h9 => ?_)
  · refine w_ic hC dX4_isNumber_28 rfl ?_
    refine v_zret hC hR dX4_isNumber_29 (by first | decide | omega) ?_
    first | exact ht w2 ⟨by omega, g1.2⟩ k2 h12 o2 | exact hf w2 (fun z => g1 ⟨hvr.1, z.2⟩) k2 o2 | exact hf w2 (fun z => h9 z.1) k2 o2
  · refine w_al0 hC dX4_isNumber_12 ?_
    have h12 := k2.2.2.2.1 (by omega)
    have hvr := tkV_r hp (show tkK t len p = 2 by omega)
    refine v_getI hC dX4_isNumber_13 fd_X4_91 rfl rfl ?_
    rw [h12]
    refine w_il1 hC dX4_isNumber_16 ?_
    refine w_il2 hC dX4_isNumber_17 ?_
    refine w_st3 hC st_X4_53 dX4_isNumber_18 rfl hN (d_in (fun g1 => ?_) (fun g1 => ?_))
    · refine v_if_eq (tgt := 28) hC dX4_isNumber_21 rfl (fun h => absurd h (by decide)) (fun _ => ?_)
      refine w_ic hC dX4_isNumber_24 rfl ?_
      refine v_goto (tgt := 29) hC dX4_isNumber_25 rfl ?_
      refine v_zret hC hR dX4_isNumber_29 (by first | decide | omega) ?_
      first | exact ht w2 ⟨by omega, g1.2⟩ k2 h12 o2 | exact hf w2 (fun z => g1 ⟨hvr.1, z.2⟩) k2 o2 | exact hf w2 (fun z => h9 z.1) k2 o2
    · refine v_if_eq (tgt := 28) hC dX4_isNumber_21 rfl (fun _ => ?_) (fun h => absurd h (by decide))
      refine w_ic hC dX4_isNumber_28 rfl ?_
      refine v_zret hC hR dX4_isNumber_29 (by first | decide | omega) ?_
      first | exact ht w2 ⟨by omega, g1.2⟩ k2 h12 o2 | exact hf w2 (fun z => g1 ⟨hvr.1, z.2⟩) k2 o2 | exact hf w2 (fun z => h9 z.1) k2 o2

theorem d_lettersThere {d : Nat} {w : Wd} {Q : Option MV → Wd → Prop} {t : Nat → Int} {len : Nat} (hT : TXm w t len) {p : Nat} {z : Int} (hp : p ≤ len) (he : w 39 9 = p) (ht : ∀ w2, tkK t len (leP t len p) = 3 ∧ z ≤ leN t len p → TKm w2 t len (leP t len p) → w2 39 12 = leC t len p → fr39 w w2 → Q (some (.inl (leN t len p : Int))) w2) (hf : ∀ w2, ¬ (tkK t len (leP t len p) = 3 ∧ z ≤ leN t len p) → TKm w2 t len (leP t len p) → fr39 w w2 → Q (some (.inl (-1))) w2) : Call (d + 3) mX4_lettersThere [vR 39, vI z] w Q := by
  refine call_in (ls := [some (vR 39), some (vI z), none, none]) (by decide +kernel) rfl (Nat.le_of_ble_eq_true rfl) (fun κ hC hR hN => ?_)
  have hC : ctxB κ RX4 cX4_lettersThere (d + 3) := hC
  have hN : mlx κ 4 := hN
  refine w_ic hC dX4_lettersThere_0 rfl ?_
  refine w_is2 hC dX4_lettersThere_1 hN (by first | rfl | assumption) ?_
  refine w_ic hC dX4_lettersThere_2 rfl ?_
  refine w_is3 hC dX4_lettersThere_3 hN (by first | rfl | assumption) ?_
  refine w_al0 hC dX4_lettersThere_4 ?_
  refine w_vi0 hC vi_X4_104 rfl dX4_lettersThere_5 rfl hN (d_nextToken hT hp he (fun w2 k2 o2 => ?_))
  have lp8 : ∀ (K : Nat) (w3 : Wd) (i q : Nat) (c : Int), (6 - i) < K → (i ≤ 6) → (q ≤ len) → (TKm w3 t len q) → (0 ≤ c ∧ c < 10 ^ i) → (ltF t len (6 - i) q i c = ltF t len 6 p 0 0) → (fr39 w w3) → VV κ 8 [some (vR 39), some (vI z), some (vI (i : Int)), some (vI c)] [] w3 := by
    intro K
    induction K with
    | zero => intros; omega
    | succ K ih8 =>
      intro w3 i q c hm8 hi hq k3 hc hlt o3
      have hT3 := hT.fr (w2 := w3) (fun k => o3 45 k (by omega)) (o3 39 7 (by decide))
      have h10 : i ≤ 5 → (10 : Int) ^ i ≤ 100000 := fun h => by
        have : ∀ i, i ≤ 5 → (10 : Int) ^ i ≤ 100000 := by decide
        exact this i h
      refine w_al0 hC dX4_lettersThere_8 ?_
      refine v_getI hC dX4_lettersThere_9 fd_X4_94 rfl rfl ?_
      rw [k3.2.2.1]
      refine w_ic hC dX4_lettersThere_12 rfl ?_
      refine v_ic_ne (tgt := 55) hC dX4_lettersThere_13 rfl (fun h13 => ?_) (fun h13 => ?_)
      · have hlt2 : ltF t len 6 p 0 0 = (i, c, q) := by
          by_cases z6 : i = 6
          · rw [← hlt, show 6 - i = 0 by omega]; rfl
          · rw [← hlt, show 6 - i = (5 - i) + 1 by omega]; exact ltF_0 (by omega)
        have eP : leP t len p = q := by unfold leP; rw [hlt2]
        have eN : leN t len p = i := by unfold leN; rw [hlt2]
        have eC : leC t len p = c := by unfold leC; rw [hlt2]
        rw [eP, eN, eC] at ht
        rw [eP, eN] at hf
        refine w_al0 hC dX4_lettersThere_55 ?_
        refine v_getI hC dX4_lettersThere_56 fd_X4_94 rfl rfl ?_
        rw [k3.2.2.1]
        refine w_ic hC dX4_lettersThere_59 rfl ?_
        refine v_ic_ne (tgt := 68) hC dX4_lettersThere_60 rfl (fun h60 => ?_) (fun h60 => ?_)
        · refine w_ic hC dX4_lettersThere_68 rfl ?_
          refine v_iret hC hR dX4_lettersThere_69 ?_
          exact hf w3 (by omega) k3 o3
        · refine w_il2 hC dX4_lettersThere_63 ?_
          refine w_il1 hC dX4_lettersThere_64 ?_
          refine v_ic_ge (tgt := 70) hC dX4_lettersThere_65 rfl (fun h65 => ?_) (fun h65 => ?_)
          · refine w_al0 hC dX4_lettersThere_70 ?_
            refine w_il3 hC dX4_lettersThere_71 ?_
            refine v_putI hC dX4_lettersThere_72 fp_X4_91 rfl rfl ?_
            refine w_il2 hC dX4_lettersThere_75 ?_
            refine v_iret hC hR dX4_lettersThere_76 ?_
            exact ht _ (by omega) ⟨by rw [up_pl _ _ (by decide)]; exact k3.1, by rw [up_pl _ _ (by decide)]; exact k3.2.1, by rw [up_pl _ _ (by decide)]; exact k3.2.2.1, fun y => by omega, fun y => by omega⟩ (up_same _ _ _ _) (fun a b h => by rw [up_ne _ _ (by omega)]; exact o3 a b h)
          · refine w_ic hC dX4_lettersThere_68 rfl ?_
            refine v_iret hC hR dX4_lettersThere_69 ?_
            exact hf w3 (by omega) k3 o3
      · refine w_al0 hC dX4_lettersThere_16 ?_
        have h12 := k3.2.2.2.1 (by omega)
        have hv := tkV_r (t := t) hq (show tkK t len q = 2 by omega)
        refine v_getI hC dX4_lettersThere_17 fd_X4_91 rfl rfl ?_
        rw [h12]
        refine w_ic hC dX4_lettersThere_20 rfl ?_
        refine v_bipush hC dX4_lettersThere_21 (by decide) ?_
        refine w_st3 hC st_X4_53 dX4_lettersThere_23 rfl hN (d_in (fun g1 => ?_) (fun g1 => ?_))
        · refine v_if_eq (tgt := 55) hC dX4_lettersThere_26 rfl (fun h => absurd h (by decide)) (fun _ => ?_)
          refine w_il2 hC dX4_lettersThere_29 ?_
          refine v_bipush hC dX4_lettersThere_30 (by decide) ?_
          refine v_ic_ge (tgt := 55) hC dX4_lettersThere_32 rfl (fun h32 => ?_) (fun h32 => ?_)
          · have hlt2 : ltF t len 6 p 0 0 = (i, c, q) := by
              by_cases z6 : i = 6
              · rw [← hlt, show 6 - i = 0 by omega]; rfl
              · rw [← hlt, show 6 - i = (5 - i) + 1 by omega]; exact ltF_0 (by omega)
            have eP : leP t len p = q := by unfold leP; rw [hlt2]
            have eN : leN t len p = i := by unfold leN; rw [hlt2]
            have eC : leC t len p = c := by unfold leC; rw [hlt2]
            rw [eP, eN, eC] at ht
            rw [eP, eN] at hf
            refine w_al0 hC dX4_lettersThere_55 ?_
            refine v_getI hC dX4_lettersThere_56 fd_X4_94 rfl rfl ?_
            rw [k3.2.2.1]
            refine w_ic hC dX4_lettersThere_59 rfl ?_
            refine v_ic_ne (tgt := 68) hC dX4_lettersThere_60 rfl (fun h60 => ?_) (fun h60 => ?_)
            · refine w_ic hC dX4_lettersThere_68 rfl ?_
              refine v_iret hC hR dX4_lettersThere_69 ?_
              exact hf w3 (by omega) k3 o3
            · refine w_il2 hC dX4_lettersThere_63 ?_
              refine w_il1 hC dX4_lettersThere_64 ?_
              refine v_ic_ge (tgt := 70) hC dX4_lettersThere_65 rfl (fun h65 => ?_) (fun h65 => ?_)
              · refine w_al0 hC dX4_lettersThere_70 ?_
                refine w_il3 hC dX4_lettersThere_71 ?_
                refine v_putI hC dX4_lettersThere_72 fp_X4_91 rfl rfl ?_
                refine w_il2 hC dX4_lettersThere_75 ?_
                refine v_iret hC hR dX4_lettersThere_76 ?_
                exact ht _ (by omega) ⟨by rw [up_pl _ _ (by decide)]; exact k3.1, by rw [up_pl _ _ (by decide)]; exact k3.2.1, by rw [up_pl _ _ (by decide)]; exact k3.2.2.1, fun y => by omega, fun y => by omega⟩ (up_same _ _ _ _) (fun a b h => by rw [up_ne _ _ (by omega)]; exact o3 a b h)
              · refine w_ic hC dX4_lettersThere_68 rfl ?_
                refine v_iret hC hR dX4_lettersThere_69 ?_
                exact hf w3 (by omega) k3 o3
          · have h10i := h10 (by omega)
            refine v_bipush hC dX4_lettersThere_35 (by decide) ?_
            refine w_il3 hC dX4_lettersThere_37 ?_
            refine w_imul hC dX4_lettersThere_38 (ri_mk (by omega) (by omega)) ?_
            refine w_al0 hC dX4_lettersThere_39 ?_
            refine v_getI hC dX4_lettersThere_40 fd_X4_91 rfl rfl ?_
            rw [h12]
            refine w_iadd hC dX4_lettersThere_43 (ri_mk (by omega) (by omega)) ?_
            refine w_is3 hC dX4_lettersThere_44 hN (by first | rfl | assumption) ?_
            refine w_inc2 hC dX4_lettersThere_45 hN (by first | rfl | assumption) (ri_mk (by omega) (by omega)) ?_
            refine w_al0 hC dX4_lettersThere_48 ?_
            refine w_vi0 hC vi_X4_104 rfl dX4_lettersThere_49 rfl hN (d_nextToken hT3 (p := tkE t len q) (te_r hq).2 k3.2.1 (fun w5 k5 o5 => ?_))
            refine v_goto (tgt := 8) hC dX4_lettersThere_52 rfl ?_
            exact ih8 w5 (i + 1) (tkE t len q) (10 * c + tkV t len q) (by omega) (by omega) (te_r hq).2 k5 (by rw [Int.pow_succ]; omega) (by rw [← hlt, show 6 - i = (6 - (i + 1)) + 1 by omega, ltF_1 ⟨by omega, by omega⟩]) (fun a b h => by rw [o5 a b h]; exact o3 a b h)
        · refine v_if_eq (tgt := 55) hC dX4_lettersThere_26 rfl (fun _ => ?_) (fun h => absurd h (by decide))
          have hlt2 : ltF t len 6 p 0 0 = (i, c, q) := by
            by_cases z6 : i = 6
            · rw [← hlt, show 6 - i = 0 by omega]; rfl
            · rw [← hlt, show 6 - i = (5 - i) + 1 by omega]; exact ltF_0 (by omega)
          have eP : leP t len p = q := by unfold leP; rw [hlt2]
          have eN : leN t len p = i := by unfold leN; rw [hlt2]
          have eC : leC t len p = c := by unfold leC; rw [hlt2]
          rw [eP, eN, eC] at ht
          rw [eP, eN] at hf
          refine w_al0 hC dX4_lettersThere_55 ?_
          refine v_getI hC dX4_lettersThere_56 fd_X4_94 rfl rfl ?_
          rw [k3.2.2.1]
          refine w_ic hC dX4_lettersThere_59 rfl ?_
          refine v_ic_ne (tgt := 68) hC dX4_lettersThere_60 rfl (fun h60 => ?_) (fun h60 => ?_)
          · refine w_ic hC dX4_lettersThere_68 rfl ?_
            refine v_iret hC hR dX4_lettersThere_69 ?_
            exact hf w3 (by omega) k3 o3
          · refine w_il2 hC dX4_lettersThere_63 ?_
            refine w_il1 hC dX4_lettersThere_64 ?_
            refine v_ic_ge (tgt := 70) hC dX4_lettersThere_65 rfl (fun h65 => ?_) (fun h65 => ?_)
            · refine w_al0 hC dX4_lettersThere_70 ?_
              refine w_il3 hC dX4_lettersThere_71 ?_
              refine v_putI hC dX4_lettersThere_72 fp_X4_91 rfl rfl ?_
              refine w_il2 hC dX4_lettersThere_75 ?_
              refine v_iret hC hR dX4_lettersThere_76 ?_
              exact ht _ (by omega) ⟨by rw [up_pl _ _ (by decide)]; exact k3.1, by rw [up_pl _ _ (by decide)]; exact k3.2.1, by rw [up_pl _ _ (by decide)]; exact k3.2.2.1, fun y => by omega, fun y => by omega⟩ (up_same _ _ _ _) (fun a b h => by rw [up_ne _ _ (by omega)]; exact o3 a b h)
            · refine w_ic hC dX4_lettersThere_68 rfl ?_
              refine v_iret hC hR dX4_lettersThere_69 ?_
              exact hf w3 (by omega) k3 o3
  exact lp8 7 w2 0 p 0 (by omega) (by omega) hp k2 ⟨by decide, by decide⟩ rfl o2
