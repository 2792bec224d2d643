/-! poets -/
def gnV (a : Nat → Int) (j o t : Int) : Int := if o = t then -1 else if lBy a (a 0) o j = tgL a j ∧ (csB a o j < csB a t j ∨ (csB a o j = csB a t j ∧ o < t) ∨ ¬ lBy a (a 0) t j = tgL a j) then 9 - csB a o j else 0
theorem csB_q {a : Nat → Int} (h : AOK a) {n j : Int} (hn : 0 ≤ n ∧ n < a 3) (hj : 0 ≤ j ∧ j ≤ 5) : 0 ≤ csB a n j ∧ csB a n j ≤ 12 := by
  have h1 := (h.wd (k := n.toNat) (by omega)).2.1
  exact coN_r (by omega) (by omega) hj.1 (by omega)
theorem gnV_1 {a : Nat → Int} {j o t : Int} (h : o = t) : gnV a j o t = -1 := if_pos h
theorem gnV_2 {a : Nat → Int} {j o t : Int} (h : ¬ o = t) (g : ¬ fitB a (a 0) o j) : gnV a j o t = 0 := by
  unfold gnV
  rw [if_neg h, if_neg (fun q => g q.1)]
theorem gnV_3 {a : Nat → Int} {j o t : Int} (h : ¬ o = t) (g : fitB a (a 0) o j) (c : csB a o j < csB a t j ∨ (csB a o j = csB a t j ∧ o < t)) : gnV a j o t = 9 - csB a o j := by
  unfold gnV
  rw [if_neg h, if_pos ⟨g, by omega⟩]
theorem gnV_4 {a : Nat → Int} {j o t : Int} (h : ¬ o = t) (g : fitB a (a 0) o j) (c : ¬ fitB a (a 0) t j) : gnV a j o t = 9 - csB a o j := by
  unfold gnV
  rw [if_neg h, if_pos ⟨g, Or.inr (Or.inr c)⟩]
theorem gnV_5 {a : Nat → Int} {j o t : Int} (h : ¬ o = t) (g : fitB a (a 0) t j) (c : ¬ (csB a o j < csB a t j ∨ (csB a o j = csB a t j ∧ o < t))) : gnV a j o t = 0 := by
  unfold gnV
  rw [if_neg h, if_neg (fun q => by rcases q.2 with q | q | q; omega; omega; exact q g)]
def rsP (a : Nat → Int) (l i j : Int) : Prop := (lnOf a i = -1 ∧ lnOf a j = -1) ∧ ∀ k : Nat, (k : Int) < a 3 → lnOf a k = -1 → gnV a l k j ≤ gnV a l i j ∧ gnV a l k i ≤ gnV a l j i
noncomputable def cnP (P : Nat → Prop) : Nat → Nat
  | 0 => 0
  | n + 1 => cnP P n + (if (Classical.propDecidable (P n)).decide = true then 1 else 0)
theorem cnP_t {P : Nat → Prop} {n : Nat} (h : P n) : cnP P (n + 1) = cnP P n + 1 := by
  show cnP P n + _ = _
  rw [if_pos (@decide_eq_true _ (Classical.propDecidable (P n)) h)]
theorem cnP_f {P : Nat → Prop} {n : Nat} (h : ¬ P n) : cnP P (n + 1) = cnP P n := by
  show cnP P n + _ = _
  rw [if_neg (by rw [@decide_eq_false _ (Classical.propDecidable (P n)) h]; decide)]
  rfl
theorem cnP_le (P : Nat → Prop) (n : Nat) : cnP P n ≤ n := by
  induction n with
  | zero => exact Nat.le_refl 0
  | succ n ih =>
    by_cases h : P n
    · rw [cnP_t h]; omega
    · rw [cnP_f h]; omega
theorem cnP_mono (P : Nat → Prop) {m n : Nat} (h : m ≤ n) : cnP P m ≤ cnP P n := by
  induction n with
  | zero => rw [show m = 0 by omega]; exact Nat.le_refl _
  | succ n ih =>
    by_cases q : m = n + 1
    · rw [q]; exact Nat.le_refl _
    · have := ih (by omega)
      by_cases h : P n
      · rw [cnP_t h]; omega
      · rw [cnP_f h]; omega
theorem cnP_gap {P : Nat → Prop} {m : Nat} (n : Nat) (h : m ≤ n) (e : ∀ k, m ≤ k → k < n → ¬ P k) : cnP P n = cnP P m := by
  induction n with
  | zero => rw [show m = 0 by omega]
  | succ n ih =>
    by_cases q : m = n + 1
    · rw [q]
    · rw [cnP_f (e n (by omega) (by omega)), ih (by omega) (fun k h1 h2 => e k h1 (by omega))]
theorem poS_t {P : Nat → Prop} {n j : Nat} {r : Int} (h : r = (cnP P (n + j) : Int)) (hp : P (n + j)) : r + 1 = (cnP P (n + (j + 1)) : Int) := by
  rw [show n + (j + 1) = (n + j) + 1 from rfl, cnP_t hp, h]
  omega
theorem poS_f {P : Nat → Prop} {n j : Nat} {r : Int} (h : r = (cnP P (n + j) : Int)) (hp : ¬ P (n + j)) : r = (cnP P (n + (j + 1)) : Int) := by
  rw [show n + (j + 1) = (n + j) + 1 from rfl, cnP_f hp, h]
/-- two who rest, as one number -/
def poP (a : Nat → Int) (l : Int) (e : Nat) : Prop := (((e / 10 : Nat) : Int) < a 3 ∧ ((e % 10 : Nat) : Int) < a 3) ∧ rsP a l (e / 10 : Nat) (e % 10 : Nat)
theorem poP_at {a : Nat → Int} {l : Int} {i j : Nat} (h3 : a 3 ≤ 8) (hi : (i : Int) < a 3) (hj : (j : Int) < a 3) : poP a l (10 * i + j) ↔ rsP a l i j := by
  unfold poP
  rw [show (10 * i + j) / 10 = i by omega, show (10 * i + j) % 10 = j by omega]
  exact ⟨fun h => h.2, fun h => ⟨⟨hi, hj⟩, h⟩⟩

theorem c_gain {d : Nat} {w : Wd} {Q : Option MV → Wd → Prop} {a : Nat → Int} (hv : VX w 1 a) (hA : AOK a) {j o t : Int} (hj : 0 ≤ j ∧ j ≤ 5) (ho : 0 ≤ o ∧ o < a 3) (ht : 0 ≤ t ∧ t < a 3) (hQ : Q (some (.inl (gnV a j o t))) w) : Call (d + 3) mX3_gain [vR 0, vI j, vI o, vI t] w Q := by
  have hb : vb 1 := Or.inl rfl
  have hv0 := hv
  obtain ⟨⟨x0, x1, x2, x3, x4, x5, x6⟩, xw, xl, xn, xm, xu⟩ := hv
  have am := hA.m
  have an := hA.n
  have af := hA.f
  have anc := hA.nc
  have amc := hA.mc
  have auc := hA.uc
  refine call_in (ls := [some (vR 0), some (vI j), some (vI o), some (vI t), none, none, none]) (by decide +kernel) rfl (Nat.le_of_ble_eq_true rfl) (fun κ hC hR hN => ?_)
  have hC : ctxB κ RX3 cX3_gain (d + 3) := hC
  have hN : mlx κ 7 := hN
  refine w_il2 hC dX3_gain_0 ?_
  refine w_il3 hC dX3_gain_1 ?_
  refine v_ic_ne (tgt := 7) hC dX3_gain_2 rfl (fun h2 => ?_) (fun h2 => ?_)
  · refine w_al0 hC dX3_gain_7 ?_
    refine v_getR (off := 1) (j := 1) hC dX3_gain_8 fd_X3_10 rfl rfl rfl ?_
    refine w_al0 hC dX3_gain_11 ?_
    refine v_getR (off := 1) (j := 1) hC dX3_gain_12 fd_X3_10 rfl rfl rfl ?_
    refine v_getI hC dX3_gain_15 fd_X3_70 rfl rfl ?_
    rw [x0]
    refine w_il2 hC dX3_gain_18 ?_
    refine w_il1 hC dX3_gain_19 ?_
    refine w_vi3 hC vi_X3_158 rfl dX3_gain_20 rfl hN (c_fitsBy hb hv0 hA ho hj (fun g1 => ?_) (fun g1 => ?_))
    · refine v_if_ne (tgt := 28) hC dX3_gain_23 rfl (fun _ => ?_) (fun h => absurd h (by decide))
      refine w_al0 hC dX3_gain_28 ?_
      refine v_getR (off := 1) (j := 1) hC dX3_gain_29 fd_X3_10 rfl rfl rfl ?_
      refine w_il2 hC dX3_gain_32 ?_
      refine w_il1 hC dX3_gain_33 ?_
      refine w_vi2 hC vi_X3_309 rfl dX3_gain_34 rfl hN (c_costBy hb hv0 hA ho hj ?_)
      have r1 := csB_q hA ho hj
      refine w_is4 hC dX3_gain_37 hN (by first | rfl | assumption) ?_
      refine w_al0 hC dX3_gain_39 ?_
      refine v_getR (off := 1) (j := 1) hC dX3_gain_40 fd_X3_10 rfl rfl rfl ?_
      refine w_il3 hC dX3_gain_43 ?_
      refine w_il1 hC dX3_gain_44 ?_
      refine w_vi2 hC vi_X3_309 rfl dX3_gain_45 rfl hN (c_costBy hb hv0 hA ht hj ?_)
      refine w_is5 hC dX3_gain_48 hN (by first | rfl | assumption) ?_
      refine w_il4 hC dX3_gain_50 ?_
      refine w_il5 hC dX3_gain_52 ?_
      refine v_ic_lt (tgt := 69) hC dX3_gain_54 rfl (fun h54 => ?_) (fun h54 => ?_)
      · refine w_ic hC dX3_gain_69 rfl ?_
        refine v_goto (tgt := 74) hC dX3_gain_70 rfl ?_
        refine w_is6 hC dX3_gain_74 hN (by first | rfl | assumption) ?_
        refine w_il6 hC dX3_gain_76 ?_
        refine v_if_ne (tgt := 100) hC dX3_gain_78 rfl (fun _ => ?_) (fun h => absurd h (by decide))
        refine v_bipush hC dX3_gain_100 (by decide) ?_
        refine w_il4 hC dX3_gain_102 ?_
        refine w_isub hC dX3_gain_104 (ri_mk (by omega) (by omega)) ?_
        refine v_goto (tgt := 109) hC dX3_gain_105 rfl ?_
        refine v_iret hC hR dX3_gain_109 ?_
        first | exact qz (gnV_1 h2) hQ | exact qz (gnV_2 h2 g1) hQ | exact qz (gnV_3 h2 g1 (by omega)) hQ | exact qz (gnV_4 h2 g1 g2) hQ | exact qz (gnV_5 h2 g2 (by omega)) hQ
      · refine w_il4 hC dX3_gain_57 ?_
        refine w_il5 hC dX3_gain_59 ?_
        refine v_ic_ne (tgt := 73) hC dX3_gain_61 rfl (fun h61 => ?_) (fun h61 => ?_)
        · refine w_ic hC dX3_gain_73 rfl ?_
          refine w_is6 hC dX3_gain_74 hN (by first | rfl | assumption) ?_
          refine w_il6 hC dX3_gain_76 ?_
          refine v_if_ne (tgt := 100) hC dX3_gain_78 rfl (fun h => absurd h (by decide)) (fun _ => ?_)
          refine w_al0 hC dX3_gain_81 ?_
          refine v_getR (off := 1) (j := 1) hC dX3_gain_82 fd_X3_10 rfl rfl rfl ?_
          refine w_al0 hC dX3_gain_85 ?_
          refine v_getR (off := 1) (j := 1) hC dX3_gain_86 fd_X3_10 rfl rfl rfl ?_
          refine v_getI hC dX3_gain_89 fd_X3_70 rfl rfl ?_
          rw [x0]
          refine w_il3 hC dX3_gain_92 ?_
          refine w_il1 hC dX3_gain_93 ?_
          refine w_vi3 hC vi_X3_158 rfl dX3_gain_94 rfl hN (c_fitsBy hb hv0 hA ht hj (fun g2 => ?_) (fun g2 => ?_))
          · refine v_if_ne (tgt := 108) hC dX3_gain_97 rfl (fun _ => ?_) (fun h => absurd h (by decide))
            refine w_ic hC dX3_gain_108 rfl ?_
            refine v_iret hC hR dX3_gain_109 ?_
            first | exact qz (gnV_1 h2) hQ | exact qz (gnV_2 h2 g1) hQ | exact qz (gnV_3 h2 g1 (by omega)) hQ | exact qz (gnV_4 h2 g1 g2) hQ | exact qz (gnV_5 h2 g2 (by omega)) hQ
          · refine v_if_ne (tgt := 108) hC dX3_gain_97 rfl (fun h => absurd h (by decide)) (fun _ => ?_)
            refine v_bipush hC dX3_gain_100 (by decide) ?_
            refine w_il4 hC dX3_gain_102 ?_
            refine w_isub hC dX3_gain_104 (ri_mk (by omega) (by omega)) ?_
            refine v_goto (tgt := 109) hC dX3_gain_105 rfl ?_
            refine v_iret hC hR dX3_gain_109 ?_
            first | exact qz (gnV_1 h2) hQ | exact qz (gnV_2 h2 g1) hQ | exact qz (gnV_3 h2 g1 (by omega)) hQ | exact qz (gnV_4 h2 g1 g2) hQ | exact qz (gnV_5 h2 g2 (by omega)) hQ
        · refine w_il2 hC dX3_gain_64 ?_
          refine w_il3 hC dX3_gain_65 ?_
          refine v_ic_ge (tgt := 73) hC dX3_gain_66 rfl (fun h66 => ?_) (fun h66 => ?_)
          · refine w_ic hC dX3_gain_73 rfl ?_
            refine w_is6 hC dX3_gain_74 hN (by first | rfl | assumption) ?_
            refine w_il6 hC dX3_gain_76 ?_
            refine v_if_ne (tgt := 100) hC dX3_gain_78 rfl (fun h => absurd h (by decide)) (fun _ => ?_)
            refine w_al0 hC dX3_gain_81 ?_
            refine v_getR (off := 1) (j := 1) hC dX3_gain_82 fd_X3_10 rfl rfl rfl ?_
            refine w_al0 hC dX3_gain_85 ?_
            refine v_getR (off := 1) (j := 1) hC dX3_gain_86 fd_X3_10 rfl rfl rfl ?_
            refine v_getI hC dX3_gain_89 fd_X3_70 rfl rfl ?_
            rw [x0]
            refine w_il3 hC dX3_gain_92 ?_
            refine w_il1 hC dX3_gain_93 ?_
            refine w_vi3 hC vi_X3_158 rfl dX3_gain_94 rfl hN (c_fitsBy hb hv0 hA ht hj (fun g2 => ?_) (fun g2 => ?_))
            · refine v_if_ne (tgt := 108) hC dX3_gain_97 rfl (fun _ => ?_) (fun h => absurd h (by decide))
              refine w_ic hC dX3_gain_108 rfl ?_
              refine v_iret hC hR dX3_gain_109 ?_
              first | exact qz (gnV_1 h2) hQ | exact qz (gnV_2 h2 g1) hQ | exact qz (gnV_3 h2 g1 (by omega)) hQ | exact qz (gnV_4 h2 g1 g2) hQ | exact qz (gnV_5 h2 g2 (by omega)) hQ
            · refine v_if_ne (tgt := 108) hC dX3_gain_97 rfl (fun h => absurd h (by decide)) (fun _ => ?_)
              refine v_bipush hC dX3_gain_100 (by decide) ?_
              refine w_il4 hC dX3_gain_102 ?_
              refine w_isub hC dX3_gain_104 (ri_mk (by omega) (by omega)) ?_
              refine v_goto (tgt := 109) hC dX3_gain_105 rfl ?_
              refine v_iret hC hR dX3_gain_109 ?_
              first | exact qz (gnV_1 h2) hQ | exact qz (gnV_2 h2 g1) hQ | exact qz (gnV_3 h2 g1 (by omega)) hQ | exact qz (gnV_4 h2 g1 g2) hQ | exact qz (gnV_5 h2 g2 (by omega)) hQ
          · refine w_ic hC dX3_gain_69 rfl ?_
            refine v_goto (tgt := 74) hC dX3_gain_70 rfl ?_
            refine w_is6 hC dX3_gain_74 hN (by first | rfl | assumption) ?_
            refine w_il6 hC dX3_gain_76 ?_
            refine v_if_ne (tgt := 100) hC dX3_gain_78 rfl (fun _ => ?_) (fun h => absurd h (by decide))
            refine v_bipush hC dX3_gain_100 (by decide) ?_
            refine w_il4 hC dX3_gain_102 ?_
            refine w_isub hC dX3_gain_104 (ri_mk (by omega) (by omega)) ?_
            refine v_goto (tgt := 109) hC dX3_gain_105 rfl ?_
            refine v_iret hC hR dX3_gain_109 ?_
            first | exact qz (gnV_1 h2) hQ | exact qz (gnV_2 h2 g1) hQ | exact qz (gnV_3 h2 g1 (by omega)) hQ | exact qz (gnV_4 h2 g1 g2) hQ | exact qz (gnV_5 h2 g2 (by omega)) hQ
    · refine v_if_ne (tgt := 28) hC dX3_gain_23 rfl (fun h => absurd h (by decide)) (fun _ => ?_)
      refine w_ic hC dX3_gain_26 rfl ?_
      refine v_iret hC hR dX3_gain_27 ?_
      first | exact qz (gnV_1 h2) hQ | exact qz (gnV_2 h2 g1) hQ | exact qz (gnV_3 h2 g1 (by omega)) hQ | exact qz (gnV_4 h2 g1 g2) hQ | exact qz (gnV_5 h2 g2 (by omega)) hQ
  · refine w_ic hC dX3_gain_5 rfl ?_
    refine v_iret hC hR dX3_gain_6 ?_
    first | exact qz (gnV_1 h2) hQ | exact qz (gnV_2 h2 g1) hQ | exact qz (gnV_3 h2 g1 (by omega)) hQ | exact qz (gnV_4 h2 g1 g2) hQ | exact qz (gnV_5 h2 g2 (by omega)) hQ

theorem c_rests {d : Nat} {w : Wd} {Q : Option MV → Wd → Prop} {a : Nat → Int} (hv : VX w 1 a) (hA : AOK a) {l i j : Int} (hl : 0 ≤ l ∧ l ≤ 5) (hi : 0 ≤ i ∧ i < a 3) (hj : 0 ≤ j ∧ j < a 3) (ht : rsP a l i j → Q (some (.inl 1)) w) (hf : ¬ rsP a l i j → Q (some (.inl 0)) w) : Call (d + 4) mX3_rests [vR 0, vI l, vI i, vI j] w Q := by
  have hb : vb 1 := Or.inl rfl
  have hv0 := hv
  obtain ⟨⟨x0, x1, x2, x3, x4, x5, x6⟩, xw, xl, xn, xm, xu⟩ := hv
  have am := hA.m
  have an := hA.n
  have af := hA.f
  have anc := hA.nc
  have amc := hA.mc
  have auc := hA.uc
  refine call_in (ls := [some (vR 0), some (vI l), some (vI i), some (vI j), none, none, none]) (by decide +kernel) rfl (Nat.le_of_ble_eq_true rfl) (fun κ hC hR hN => ?_)
  have hC : ctxB κ RX3 cX3_rests (d + 4) := hC
  have hN : mlx κ 7 := hN
  refine w_al0 hC dX3_rests_0 ?_
  refine v_getR (off := 1) (j := 1) hC dX3_rests_1 fd_X3_10 rfl rfl rfl ?_
  refine w_il2 hC dX3_rests_4 ?_
  refine w_vi1 hC vi_X3_115 rfl dX3_rests_5 rfl hN (c_lineOf hb hv0 hA ?_)
  refine w_ic hC dX3_rests_8 rfl ?_
  refine v_ic_ne (tgt := 24) hC dX3_rests_9 rfl (fun h9 => ?_) (fun h9 => ?_)
  · refine w_ic hC dX3_rests_24 rfl ?_
    refine v_zret hC hR dX3_rests_25 (by first | decide | omega) ?_
    exact hf (fun q => by obtain ⟨⟨q1, q2⟩, -⟩ := q; omega)
  · refine w_al0 hC dX3_rests_12 ?_
    refine v_getR (off := 1) (j := 1) hC dX3_rests_13 fd_X3_10 rfl rfl rfl ?_
    refine w_il3 hC dX3_rests_16 ?_
    refine w_vi1 hC vi_X3_115 rfl dX3_rests_17 rfl hN (c_lineOf hb hv0 hA ?_)
    refine w_ic hC dX3_rests_20 rfl ?_
    refine v_ic_eq (tgt := 26) hC dX3_rests_21 rfl (fun h21 => ?_) (fun h21 => ?_)
    · refine w_al0 hC dX3_rests_26 ?_
      refine w_il1 hC dX3_rests_27 ?_
      refine w_il2 hC dX3_rests_28 ?_
      refine w_il3 hC dX3_rests_29 ?_
      refine w_vi3 hC vi_X3_306 rfl dX3_rests_30 rfl hN (c_gain hv0 hA hl hi hj ?_)
      refine w_is4 hC dX3_rests_33 hN (by first | rfl | assumption) ?_
      refine w_al0 hC dX3_rests_35 ?_
      refine w_il1 hC dX3_rests_36 ?_
      refine w_il3 hC dX3_rests_37 ?_
      refine w_il2 hC dX3_rests_38 ?_
      refine w_vi3 hC vi_X3_306 rfl dX3_rests_39 rfl hN (c_gain hv0 hA hl hj hi ?_)
      refine w_is5 hC dX3_rests_42 hN (by first | rfl | assumption) ?_
      refine w_ic hC dX3_rests_44 rfl ?_
      refine w_is6 hC dX3_rests_45 hN (by first | rfl | assumption) ?_
      have lp47 : ∀ (K : Nat) (k : Nat), ((a 3).toNat - k) < K → ((k : Int) ≤ a 3) → (∀ q : Nat, q < k → lnOf a q = -1 → gnV a l q j ≤ gnV a l i j ∧ gnV a l q i ≤ gnV a l j i) → VV κ 47 [some (vR 0), some (vI l), some (vI i), some (vI j), some (vI (gnV a l i j)), some (vI (gnV a l j i)), some (vI (k : Int))] [] w := by
        intro K
        induction K with
        | zero => intros; omega
        | succ K ih47 =>
          intro k hm47 hk hx
          refine w_il6 hC dX3_rests_47 ?_
          refine w_al0 hC dX3_rests_49 ?_
          refine v_getR (off := 1) (j := 1) hC dX3_rests_50 fd_X3_10 rfl rfl rfl ?_
          refine v_getI hC dX3_rests_53 fd_X3_62 rfl rfl ?_
          rw [x3]
          refine v_ic_ge (tgt := 106) hC dX3_rests_56 rfl (fun h56 => ?_) (fun h56 => ?_)
          · refine w_ic hC dX3_rests_106 rfl ?_
            refine v_zret hC hR dX3_rests_107 (by first | decide | omega) ?_
            exact ht ⟨by omega, fun q hq => hx q (by omega)⟩
          · refine w_al0 hC dX3_rests_59 ?_
            refine v_getR (off := 1) (j := 1) hC dX3_rests_60 fd_X3_10 rfl rfl rfl ?_
            refine w_il6 hC dX3_rests_63 ?_
            refine w_vi1 hC vi_X3_115 rfl dX3_rests_65 rfl hN (c_lineOf hb hv0 hA ?_)
            refine w_ic hC dX3_rests_68 rfl ?_
            refine v_ic_ne (tgt := 100) hC dX3_rests_69 rfl (fun h69 => ?_) (fun h69 => ?_)
            · refine w_inc6 hC dX3_rests_100 hN (by first | rfl | assumption) (ri_mk (by omega) (by omega)) ?_
              refine v_goto (tgt := 47) hC dX3_rests_103 rfl ?_
              exact ih47 (k + 1) (by omega) (by omega) (lt_s hx (fun q => by first | exact absurd q h69 | omega))
            · refine w_al0 hC dX3_rests_72 ?_
              refine w_il1 hC dX3_rests_73 ?_
              refine w_il6 hC dX3_rests_74 ?_
              refine w_il3 hC dX3_rests_76 ?_
              refine w_vi3 hC vi_X3_306 rfl dX3_rests_77 rfl hN (c_gain hv0 hA hl ⟨by omega, by omega⟩ hj ?_)
              refine w_il4 hC dX3_rests_80 ?_
              refine v_ic_gt (tgt := 98) hC dX3_rests_82 rfl (fun h82 => ?_) (fun h82 => ?_)
              · refine w_ic hC dX3_rests_98 rfl ?_
                refine v_zret hC hR dX3_rests_99 (by first | decide | omega) ?_
                exact hf (fun q => by have := q.2 k (by omega) (by omega); omega)
              · refine w_al0 hC dX3_rests_85 ?_
                refine w_il1 hC dX3_rests_86 ?_
                refine w_il6 hC dX3_rests_87 ?_
                refine w_il2 hC dX3_rests_89 ?_
                refine w_vi3 hC vi_X3_306 rfl dX3_rests_90 rfl hN (c_gain hv0 hA hl ⟨by omega, by omega⟩ hi ?_)
                refine w_il5 hC dX3_rests_93 ?_
                refine v_ic_le (tgt := 100) hC dX3_rests_95 rfl (fun h95 => ?_) (fun h95 => ?_)
                · refine w_inc6 hC dX3_rests_100 hN (by first | rfl | assumption) (ri_mk (by omega) (by omega)) ?_
                  refine v_goto (tgt := 47) hC dX3_rests_103 rfl ?_
                  exact ih47 (k + 1) (by omega) (by omega) (lt_s hx (fun q => by first | exact absurd q h69 | omega))
                · refine w_ic hC dX3_rests_98 rfl ?_
                  refine v_zret hC hR dX3_rests_99 (by first | decide | omega) ?_
                  exact hf (fun q => by have := q.2 k (by omega) (by omega); omega)
      exact lp47 ((a 3).toNat + 1) 0 (by omega) (by omega) (fun q h => by omega)
    · refine w_ic hC dX3_rests_24 rfl ?_
      refine v_zret hC hR dX3_rests_25 (by first | decide | omega) ?_
      exact hf (fun q => by obtain ⟨⟨q1, q2⟩, -⟩ := q; omega)

theorem feL_r {a : Nat → Int} (h : AOK a) : -1 ≤ feL a ∧ feL a < a 1 := by
  have hm := h.m
  rcases fstI_spec (fun j => wOn a j = -1) (a 1).toNat with h1 | ⟨j, h1, h2, h3⟩
  · unfold feL; omega
  · unfold feL; omega

theorem c_poets {d : Nat} {w : Wd} {Q : Option MV → Wd → Prop} {a : Nat → Int} (hv : VX w 1 a) (hA : AOK a) {k : Int} (hb0 : k < -1 → Q (some (.inl (-10))) (cI w 0 10)) (hk1 : -1 ≤ k → feL a ≠ -1 → ∀ e : Nat, e < 78 → poP a (feL a) e → (cnP (poP a (feL a)) e : Int) = k → Q (some (.inl (e : Int))) w) (hk0 : -1 ≤ k → feL a ≠ -1 → (∀ e : Nat, e < 80 → poP a (feL a) e → ¬ (cnP (poP a (feL a)) e : Int) = k) → Q (some (.inl (if k = -1 then (cnP (poP a (feL a)) 80 : Int) else -5))) w) (hkn : -1 ≤ k → feL a = -1 → Q (some (.inl (if k = -1 then 0 else -5))) w) : Call (d + 5) mX3_poets [vR 0, vI k] w Q := by
  have hb : vb 1 := Or.inl rfl
  have hv0 := hv
  obtain ⟨⟨x0, x1, x2, x3, x4, x5, x6⟩, xw, xl, xn, xm, xu⟩ := hv
  have am := hA.m
  have an := hA.n
  have af := hA.f
  have anc := hA.nc
  have amc := hA.mc
  have auc := hA.uc
  refine call_in (ls := [some (vR 0), some (vI k), none, none, none, none]) (by decide +kernel) rfl (Nat.le_of_ble_eq_true rfl) (fun κ hC hR hN => ?_)
  have hC : ctxB κ RX3 cX3_poets (d + 5) := hC
  have hN : mlx κ 6 := hN
  refine w_il1 hC dX3_poets_0 ?_
  refine w_ic hC dX3_poets_1 rfl ?_
  refine v_ic_ge (tgt := 15) hC dX3_poets_2 rfl (fun h2 => ?_) (fun h2 => ?_)
  · refine w_ic hC dX3_poets_15 rfl ?_
    refine w_is2 hC dX3_poets_16 hN (by first | rfl | assumption) ?_
    refine w_al0 hC dX3_poets_17 ?_
    refine v_getR (off := 1) (j := 1) hC dX3_poets_18 fd_X3_10 rfl rfl rfl ?_
    refine w_vi0 hC vi_X3_230 rfl dX3_poets_21 rfl hN (c_firstEmptyLine hb hv0 hA ?_)
    have hfe := feL_r hA
    have hcl := fun n => cnP_le (poP a (feL a)) n
    refine w_is3 hC dX3_poets_24 hN (by first | rfl | assumption) ?_
    refine w_ic hC dX3_poets_25 rfl ?_
    refine w_is4 hC dX3_poets_26 hN (by first | rfl | assumption) ?_
    refine w_dr5 ?_
    have lp28 : ∀ (K : Nat) (i : Nat) (r : Int), ((a 3).toNat - i) < K → ((i : Int) ≤ a 3) → (feL a ≠ -1 → r = (cnP (poP a (feL a)) (10 * i) : Int)) → (feL a = -1 → r = 0 ∧ i = 0) → (∀ e : Nat, e < 10 * i → poP a (feL a) e → ¬ (cnP (poP a (feL a)) e : Int) = k) → VV κ 28 [some (vR 0), some (vI k), some (vI r), some (vI (feL a)), some (vI (i : Int)), none] [] w := by
      intro K
      induction K with
      | zero => intros; omega
      | succ K ih28 =>
        intro i r hm28 hi hr hr0 hx
        refine w_il4 hC dX3_poets_28 ?_
        refine w_al0 hC dX3_poets_30 ?_
        refine v_getR (off := 1) (j := 1) hC dX3_poets_31 fd_X3_10 rfl rfl rfl ?_
        refine v_getI hC dX3_poets_34 fd_X3_62 rfl rfl ?_
        rw [x3]
        refine v_ic_ge (tgt := 101) hC dX3_poets_37 rfl (fun h37 => ?_) (fun h37 => ?_)
        · refine w_il1 hC dX3_poets_101 ?_
          refine w_ic hC dX3_poets_102 rfl ?_
          refine v_ic_ne (tgt := 110) hC dX3_poets_103 rfl (fun h103 => ?_) (fun h103 => ?_)
          · refine v_bipush hC dX3_poets_110 (by decide) ?_
            refine v_iret hC hR dX3_poets_112 ?_
            by_cases q0 : feL a = -1
            · obtain ⟨rfl, -⟩ := hr0 q0
              first | exact qz (if_pos (by omega)) (hkn (by omega) q0) | exact qz (if_neg (by omega)) (hkn (by omega) q0)
            · have hi3 : (i : Int) = a 3 := by omega
              have hgap : ∀ q : Nat, 10 * i ≤ q → ¬ poP a (feL a) q := fun q q1 q3 => by
                have := q3.1.1
                omega
              have hg2 := cnP_gap (P := poP a (feL a)) 80 (show 10 * i ≤ 80 by omega) (fun q q1 _ => hgap q q1)
              have hk2 := hk0 (by omega) q0 (fun e he hp => by
                by_cases q : e < 10 * i
                · exact hx e q hp
                · exact absurd hp (hgap e (by omega)))
              have hr9 := hr q0
              first | exact qz (by rw [if_pos (by omega)]; omega) hk2 | exact qz (if_neg (by omega)) hk2
          · refine w_il2 hC dX3_poets_106 ?_
            refine v_goto (tgt := 112) hC dX3_poets_107 rfl ?_
            refine v_iret hC hR dX3_poets_112 ?_
            by_cases q0 : feL a = -1
            · obtain ⟨rfl, -⟩ := hr0 q0
              first | exact qz (if_pos (by omega)) (hkn (by omega) q0) | exact qz (if_neg (by omega)) (hkn (by omega) q0)
            · have hi3 : (i : Int) = a 3 := by omega
              have hgap : ∀ q : Nat, 10 * i ≤ q → ¬ poP a (feL a) q := fun q q1 q3 => by
                have := q3.1.1
                omega
              have hg2 := cnP_gap (P := poP a (feL a)) 80 (show 10 * i ≤ 80 by omega) (fun q q1 _ => hgap q q1)
              have hk2 := hk0 (by omega) q0 (fun e he hp => by
                by_cases q : e < 10 * i
                · exact hx e q hp
                · exact absurd hp (hgap e (by omega)))
              have hr9 := hr q0
              first | exact qz (by rw [if_pos (by omega)]; omega) hk2 | exact qz (if_neg (by omega)) hk2
        · refine w_il3 hC dX3_poets_40 ?_
          refine w_ic hC dX3_poets_41 rfl ?_
          refine v_ic_eq (tgt := 101) hC dX3_poets_42 rfl (fun h42 => ?_) (fun h42 => ?_)
          · refine w_il1 hC dX3_poets_101 ?_
            refine w_ic hC dX3_poets_102 rfl ?_
            refine v_ic_ne (tgt := 110) hC dX3_poets_103 rfl (fun h103 => ?_) (fun h103 => ?_)
            · refine v_bipush hC dX3_poets_110 (by decide) ?_
              refine v_iret hC hR dX3_poets_112 ?_
              by_cases q0 : feL a = -1
              · obtain ⟨rfl, -⟩ := hr0 q0
                first | exact qz (if_pos (by omega)) (hkn (by omega) q0) | exact qz (if_neg (by omega)) (hkn (by omega) q0)
              · have hi3 : (i : Int) = a 3 := by omega
                have hgap : ∀ q : Nat, 10 * i ≤ q → ¬ poP a (feL a) q := fun q q1 q3 => by
                  have := q3.1.1
                  omega
                have hg2 := cnP_gap (P := poP a (feL a)) 80 (show 10 * i ≤ 80 by omega) (fun q q1 _ => hgap q q1)
                have hk2 := hk0 (by omega) q0 (fun e he hp => by
                  by_cases q : e < 10 * i
                  · exact hx e q hp
                  · exact absurd hp (hgap e (by omega)))
                have hr9 := hr q0
                first | exact qz (by rw [if_pos (by omega)]; omega) hk2 | exact qz (if_neg (by omega)) hk2
            · refine w_il2 hC dX3_poets_106 ?_
              refine v_goto (tgt := 112) hC dX3_poets_107 rfl ?_
              refine v_iret hC hR dX3_poets_112 ?_
              by_cases q0 : feL a = -1
              · obtain ⟨rfl, -⟩ := hr0 q0
                first | exact qz (if_pos (by omega)) (hkn (by omega) q0) | exact qz (if_neg (by omega)) (hkn (by omega) q0)
              · have hi3 : (i : Int) = a 3 := by omega
                have hgap : ∀ q : Nat, 10 * i ≤ q → ¬ poP a (feL a) q := fun q q1 q3 => by
                  have := q3.1.1
                  omega
                have hg2 := cnP_gap (P := poP a (feL a)) 80 (show 10 * i ≤ 80 by omega) (fun q q1 _ => hgap q q1)
                have hk2 := hk0 (by omega) q0 (fun e he hp => by
                  by_cases q : e < 10 * i
                  · exact hx e q hp
                  · exact absurd hp (hgap e (by omega)))
                have hr9 := hr q0
                first | exact qz (by rw [if_pos (by omega)]; omega) hk2 | exact qz (if_neg (by omega)) hk2
          · refine w_ic hC dX3_poets_45 rfl ?_
            refine w_is5 hC dX3_poets_46 hN (by first | rfl | assumption) ?_
            have lp48 : ∀ (K2 : Nat) (j : Nat) (r : Int), ((a 3).toNat - j) < K2 → ((j : Int) ≤ a 3) → (r = (cnP (poP a (feL a)) (10 * i + j) : Int)) → (∀ e : Nat, e < 10 * i + j → poP a (feL a) e → ¬ (cnP (poP a (feL a)) e : Int) = k) → VV κ 48 [some (vR 0), some (vI k), some (vI r), some (vI (feL a)), some (vI (i : Int)), some (vI (j : Int))] [] w := by
              intro K2
              induction K2 with
              | zero => intros; omega
              | succ K2 ih48 =>
                intro j r hm48 hj hr2 hx2
                have hcl2 := hcl (10 * i + j)
                have hpo : ∀ j : Nat, (j : Int) < a 3 → (poP a (feL a) (10 * i + j) ↔ rsP a (feL a) i j) := fun j h => poP_at an.2 (by omega) h
                refine w_il5 hC dX3_poets_48 ?_
                refine w_al0 hC dX3_poets_50 ?_
                refine v_getR (off := 1) (j := 1) hC dX3_poets_51 fd_X3_10 rfl rfl rfl ?_
                refine v_getI hC dX3_poets_54 fd_X3_62 rfl rfl ?_
                rw [x3]
                refine v_ic_ge (tgt := 95) hC dX3_poets_57 rfl (fun h57 => ?_) (fun h57 => ?_)
                · refine w_inc4 hC dX3_poets_95 hN (by first | rfl | assumption) (ri_mk (by omega) (by omega)) ?_
                  refine v_goto (tgt := 28) hC dX3_poets_98 rfl ?_
                  refine w_dr5 ?_
                  have hgap : ∀ q : Nat, 10 * i + j ≤ q → q < 10 * (i + 1) → ¬ poP a (feL a) q := fun q q1 q2 q3 => by
                    have := q3.1.2
                    omega
                  have hg2 := cnP_gap (P := poP a (feL a)) (10 * (i + 1)) (show 10 * i + j ≤ 10 * (i + 1) by omega) hgap
                  exact ih28 (i + 1) _ (by omega) (by omega) (fun _ => by omega) (fun q => absurd q (by omega)) (fun e he hp => by
                    by_cases q : e < 10 * i + j
                    · exact hx2 e q hp
                    · exact absurd hp (hgap e (by omega) he))
                · refine w_al0 hC dX3_poets_60 ?_
                  refine w_il3 hC dX3_poets_61 ?_
                  refine w_il4 hC dX3_poets_62 ?_
                  refine w_il5 hC dX3_poets_64 ?_
                  have hp2 := hpo j (by omega)
                  refine w_vi3 hC vi_X3_233 rfl dX3_poets_66 rfl hN (c_rests hv0 hA ⟨by omega, by omega⟩ ⟨by omega, by omega⟩ ⟨by omega, by omega⟩ (fun g1 => ?_) (fun g1 => ?_))
                  · refine v_if_eq (tgt := 89) hC dX3_poets_69 rfl (fun h => absurd h (by decide)) (fun _ => ?_)
                    refine w_il2 hC dX3_poets_72 ?_
                    refine w_il1 hC dX3_poets_73 ?_
                    refine v_ic_ne (tgt := 86) hC dX3_poets_74 rfl (fun h74 => ?_) (fun h74 => ?_)
                    · have hx3 : ¬ (cnP (poP a (feL a)) (10 * i + j) : Int) = k := by omega
                      refine w_inc2 hC dX3_poets_86 hN (by first | rfl | assumption) (ri_mk (by omega) (by omega)) ?_
                      refine w_inc5 hC dX3_poets_89 hN (by first | rfl | assumption) (ri_mk (by omega) (by omega)) ?_
                      refine v_goto (tgt := 48) hC dX3_poets_92 rfl ?_
                      first | exact ih48 (j + 1) _ (by omega) (by omega) (poS_t hr2 (hp2.mpr g1)) (lt_s hx2 (fun _ => hx3)) | exact ih48 (j + 1) _ (by omega) (by omega) (poS_f hr2 (fun q => g1 (hp2.mp q))) (lt_s hx2 (fun q => absurd (hp2.mp q) g1))
                    · refine v_bipush hC dX3_poets_77 (by decide) ?_
                      refine w_il4 hC dX3_poets_79 ?_
                      refine w_imul hC dX3_poets_81 (ri_mk (by omega) (by omega)) ?_
                      refine w_il5 hC dX3_poets_82 ?_
                      refine w_iadd hC dX3_poets_84 (ri_mk (by omega) (by omega)) ?_
                      refine v_iret hC hR dX3_poets_85 ?_
                      exact qz (by omega) (hk1 (by omega) (by omega) (10 * i + j) (by omega) (hp2.mpr g1) (by omega))
                  · refine v_if_eq (tgt := 89) hC dX3_poets_69 rfl (fun _ => ?_) (fun h => absurd h (by decide))
                    refine w_inc5 hC dX3_poets_89 hN (by first | rfl | assumption) (ri_mk (by omega) (by omega)) ?_
                    refine v_goto (tgt := 48) hC dX3_poets_92 rfl ?_
                    first | exact ih48 (j + 1) _ (by omega) (by omega) (poS_t hr2 (hp2.mpr g1)) (lt_s hx2 (fun _ => hx3)) | exact ih48 (j + 1) _ (by omega) (by omega) (poS_f hr2 (fun q => g1 (hp2.mp q))) (lt_s hx2 (fun q => absurd (hp2.mp q) g1))
            exact lp48 ((a 3).toNat + 1) 0 _ (by omega) (by omega) (hr (by omega)) hx
    exact lp28 ((a 3).toNat + 1) 0 0 (by omega) (by omega) (fun _ => rfl) (fun _ => ⟨rfl, rfl⟩) (fun e h => by omega)
  · refine w_al0 hC dX3_poets_5 ?_
    refine v_bipush hC dX3_poets_6 (by decide) ?_
    refine w_vi1 hC vi_X3_58 rfl dX3_poets_8 rfl hN (c_refBad ?_)
    refine v_pop hC dX3_poets_11 rfl ?_
    refine v_bipush hC dX3_poets_12 (by decide) ?_
    refine v_iret hC hR dX3_poets_14 ?_
    exact hb0 (by omega)

/-! fractions -/
theorem cz_le {z : Int} (h : cmpL z 0 ≤ 0) : z ≤ 0 := by unfold cmpL at h; split at h <;> (try split at h) <;> omega
theorem cz_gt {z : Int} (h : ¬ cmpL z 0 ≤ 0) : 0 < z := by unfold cmpL at h; split at h <;> (try split at h) <;> omega
theorem cz_g2 {z : Int} (h : 0 < cmpL z 0) : 0 < z := by unfold cmpL at h; split at h <;> (try split at h) <;> omega
theorem cz_eq {z : Int} (h : cmpL z 0 = 0) : z = 0 := by unfold cmpL at h; split at h <;> (try split at h) <;> omega
theorem cz_ne {z : Int} (h : ¬ cmpL z 0 = 0) : z ≠ 0 := by unfold cmpL at h; split at h <;> (try split at h) <;> omega
/-- Euclid's step -/
theorem eu_s {a b s : Nat} (hb : 0 < b) (h : (s = 0 ∧ a < 2147483648 ∧ b < 2147483648) ∨ (1 ≤ s ∧ s ≤ 63 ∧ b ≤ a ∧ a * b < 2 ^ (63 - s))) : 1 ≤ s + 1 ∧ s + 1 ≤ 63 ∧ a % b ≤ b ∧ b * (a % b) < 2 ^ (63 - (s + 1)) := by
  have h1 := Nat.mod_lt a hb
  rcases h with ⟨rfl, h2, h3⟩ | ⟨h2, h3, h4, h5⟩
  · refine ⟨by omega, by omega, by omega, ?_⟩
    have h6 : b * (a % b) ≤ 2147483647 * 2147483647 := Nat.mul_le_mul (by omega) (by omega)
    exact Nat.lt_of_le_of_lt h6 (by decide)
  · have h6 : 0 < a * b := Nat.mul_pos (by omega) hb
    have h7 : s ≠ 63 := fun q => by subst q; simp at h5; omega
    refine ⟨by omega, by omega, by omega, ?_⟩
    have h8 : a % b + b ≤ a := by
      have := Nat.div_add_mod a b
      have h9 : 1 ≤ a / b := Nat.div_pos h4 hb
      have h10 : b * 1 ≤ b * (a / b) := Nat.mul_le_mul_left b h9
      omega
    have h9 : 2 * (a % b) ≤ a := by omega
    have h10 : b * (2 * (a % b)) ≤ b * a := Nat.mul_le_mul_left b h9
    have h11 : 2 ^ (63 - s) = 2 * 2 ^ (63 - (s + 1)) := by rw [show 63 - s = 63 - (s + 1) + 1 by omega, Nat.pow_succ, Nat.mul_comm]
    rw [h11, Nat.mul_comm a b] at h5
    have h12 : b * (2 * (a % b)) = 2 * (b * (a % b)) := Nat.mul_left_comm b 2 (a % b)
    omega

theorem c_gcd {d : Nat} {w : Wd} {Q : Option MV → Wd → Prop} {x y : Nat} (hx : x < 2147483648) (hy : y < 2147483648) (hQ : Q (some (.inr (.inl ((Nat.gcd x y : Nat) : Int)))) w) : Call (d + 0) mX3_commonDivisor [vL (x : Int), vL (y : Int)] w Q := by
  refine call_in (ls := [some (vL (x : Int)), none, some (vL (y : Int)), none, none, none, none, none, none, none, none]) (by decide +kernel) rfl (Nat.le_of_ble_eq_true rfl) (fun κ hC hR hN => ?_)
  have hC : ctxB κ RX3 cX3_commonDivisor (d + 0) := hC
  have hN : mlx κ 11 := hN
  refine w_ll0 hC dX3_commonDivisor_0 ?_
  refine w_ls4 hC dX3_commonDivisor_1 hN (by first | rfl | assumption) ?_
  refine w_ll2 hC dX3_commonDivisor_3 ?_
  refine w_ls6 hC dX3_commonDivisor_4 hN (by first | rfl | assumption) ?_
  refine w_ic hC dX3_commonDivisor_6 rfl ?_
  refine w_is8 hC dX3_commonDivisor_7 hN (by first | rfl | assumption) ?_
  refine w_dr1 ?_
  refine w_dr3 ?_
  refine w_dr5 ?_
  refine w_dr7 ?_
  refine w_dr9 ?_
  refine w_dr10 ?_
  have lp9 : ∀ (K : Nat) (p q s : Nat), (64 - s) < K → (Nat.gcd p q = Nat.gcd x y) → ((s = 0 ∧ p < 2147483648 ∧ q < 2147483648) ∨ (1 ≤ s ∧ s ≤ 63 ∧ q ≤ p ∧ p * q < 2 ^ (63 - s))) → VV κ 9 [some (vL (x : Int)), none, some (vL (y : Int)), none, some (vL (p : Int)), none, some (vL (q : Int)), none, some (vI (s : Int)), none, none] [] w := by
    intro K
    induction K with
    | zero => intros; omega
    | succ K ih9 =>
      intro p q s hm9 hg hs
      have hpq : q ≤ 2147483648 ∨ q ≤ p := by omega
      refine w_il8 hC dX3_commonDivisor_9 ?_
      refine v_bipush hC dX3_commonDivisor_11 (by decide) ?_
      refine v_ic_ge (tgt := 44) hC dX3_commonDivisor_13 rfl (fun h13 => ?_) (fun h13 => ?_)
      · refine w_ll4 hC dX3_commonDivisor_44 ?_
        refine v_lret hC hR dX3_commonDivisor_46 ?_
        first
          | (exfalso; omega)
          | (have hq := cz_eq h20
             have hq0 : q = 0 := by omega
             subst hq0
             rw [Nat.gcd_zero_right] at hg
             rw [hg]
             exact hQ)
      · refine w_ll6 hC dX3_commonDivisor_16 ?_
        refine v_lconst (z := 0) hC dX3_commonDivisor_18 rfl ?_
        refine v_lcmp hC dX3_commonDivisor_19 ?_
        refine v_if_eq (tgt := 44) hC dX3_commonDivisor_20 rfl (fun h20 => ?_) (fun h20 => ?_)
        · refine w_ll4 hC dX3_commonDivisor_44 ?_
          refine v_lret hC hR dX3_commonDivisor_46 ?_
          first
            | (exfalso; omega)
            | (have hq := cz_eq h20
               have hq0 : q = 0 := by omega
               subst hq0
               rw [Nat.gcd_zero_right] at hg
               rw [hg]
               exact hQ)
        · refine w_ll4 hC dX3_commonDivisor_23 ?_
          refine w_ll6 hC dX3_commonDivisor_25 ?_
          have hq0 := cz_ne h20
          refine v_lrem_n hC (by omega) (by omega) dX3_commonDivisor_27 ?_
          refine w_ls9 hC dX3_commonDivisor_28 hN (by first | rfl | assumption) ?_
          refine w_ll6 hC dX3_commonDivisor_30 ?_
          refine w_ls4 hC dX3_commonDivisor_32 hN (by first | rfl | assumption) ?_
          refine w_ll9 hC dX3_commonDivisor_34 ?_
          refine w_ls6 hC dX3_commonDivisor_36 hN (by first | rfl | assumption) ?_
          refine w_inc8 hC dX3_commonDivisor_38 hN (by first | rfl | assumption) (ri_mk (by omega) (by omega)) ?_
          refine v_goto (tgt := 9) hC dX3_commonDivisor_41 rfl ?_
          refine w_dr1 ?_
          refine w_dr3 ?_
          refine w_dr5 ?_
          refine w_dr7 ?_
          refine w_dr9 ?_
          refine w_dr10 ?_
          have hq := cz_ne h20
          have hst := eu_s (show 0 < q by omega) hs
          rw [show ((p : Nat) : Int) % ((q : Nat) : Int) = ((p % q : Nat) : Int) from rfl]
          exact ih9 q (p % q) (s + 1) (by omega) (by rw [← hg, Nat.gcd_comm p q, Nat.gcd_rec q p, Nat.gcd_comm]) (Or.inr hst)
  exact lp9 65 x y 0 (by omega) rfl (Or.inl ⟨rfl, hx, hy⟩)

theorem c_setFraction {d : Nat} {w : Wd} {Q : Option MV → Wd → Prop} {x y : Nat} (hx : x < 2147483648) (hy : y < 2147483648) (h0 : x = 0 → Q none (up (up w 0 8 0) 0 9 1)) (hk : 0 < x → Q none (up (up w 0 8 ((x / Nat.gcd x y : Nat) : Int)) 0 9 ((y / Nat.gcd x y : Nat) : Int))) : Call (d + 1) mX3_setFraction [vR 0, vL (x : Int), vL (y : Int)] w Q := by
  refine call_in (ls := [some (vR 0), some (vL (x : Int)), none, some (vL (y : Int)), none, none, none]) (by decide +kernel) rfl (Nat.le_of_ble_eq_true rfl) (fun κ hC hR hN => ?_)
  have hC : ctxB κ RX3 cX3_setFraction (d + 1) := hC
  have hN : mlx κ 7 := hN
  refine w_ll1 hC dX3_setFraction_0 ?_
  refine w_ll3 hC dX3_setFraction_1 ?_
  refine w_st2 hC st_X3_318 dX3_setFraction_2 rfl hN (c_gcd hx hy ?_)
  refine w_ls5 hC dX3_setFraction_5 hN (by first | rfl | assumption) ?_
  refine w_ll1 hC dX3_setFraction_7 ?_
  refine v_lconst (z := 0) hC dX3_setFraction_8 rfl ?_
  refine v_lcmp hC dX3_setFraction_9 ?_
  refine v_if_le (tgt := 20) hC dX3_setFraction_10 rfl (fun h10 => ?_) (fun h10 => ?_)
  · refine w_al0 hC dX3_setFraction_20 ?_
    refine v_lconst (z := 0) hC dX3_setFraction_21 rfl ?_
    refine v_putL hC dX3_setFraction_22 fp_X3_39 rfl rfl ?_
    refine w_al0 hC dX3_setFraction_25 ?_
    refine v_lconst (z := 1) hC dX3_setFraction_26 rfl ?_
    refine v_putL hC dX3_setFraction_27 fp_X3_43 rfl rfl ?_
    refine v_goto (tgt := 49) hC dX3_setFraction_30 rfl ?_
    refine v_vret hC hR dX3_setFraction_49 ?_
    first | exact hk (by have := cz_gt h10; omega) | exact h0 (by have := cz_le h10; omega) | exact absurd (Nat.gcd_pos_of_pos_left y (show 0 < x by have := cz_gt h10; omega)) (by have := h17; unfold cmpL at this; split at this <;> (try split at this) <;> omega)
  · refine w_ll5 hC dX3_setFraction_13 ?_
    refine v_lconst (z := 0) hC dX3_setFraction_15 rfl ?_
    refine v_lcmp hC dX3_setFraction_16 ?_
    refine v_if_gt (tgt := 33) hC dX3_setFraction_17 rfl (fun h17 => ?_) (fun h17 => ?_)
    · refine w_al0 hC dX3_setFraction_33 ?_
      refine w_ll1 hC dX3_setFraction_34 ?_
      refine w_ll5 hC dX3_setFraction_35 ?_
      have hgp : 0 < Nat.gcd x y := by have := cz_g2 h17; omega
      refine v_ldiv_n hC (by omega) (by omega) dX3_setFraction_37 ?_
      rw [show ((x : Nat) : Int) / ((Nat.gcd x y : Nat) : Int) = ((x / Nat.gcd x y : Nat) : Int) from rfl]
      refine v_putL hC dX3_setFraction_38 fp_X3_39 rfl rfl ?_
      refine w_al0 hC dX3_setFraction_41 ?_
      refine w_ll3 hC dX3_setFraction_42 ?_
      refine w_ll5 hC dX3_setFraction_43 ?_
      refine v_ldiv_n hC (by omega) (by omega) dX3_setFraction_45 ?_
      rw [show ((y : Nat) : Int) / ((Nat.gcd x y : Nat) : Int) = ((y / Nat.gcd x y : Nat) : Int) from rfl]
      refine v_putL hC dX3_setFraction_46 fp_X3_43 rfl rfl ?_
      refine v_vret hC hR dX3_setFraction_49 ?_
      first | exact hk (by have := cz_gt h10; omega) | exact h0 (by have := cz_le h10; omega) | exact absurd (Nat.gcd_pos_of_pos_left y (show 0 < x by have := cz_gt h10; omega)) (by have := h17; unfold cmpL at this; split at this <;> (try split at this) <;> omega)
    · refine w_al0 hC dX3_setFraction_20 ?_
      refine v_lconst (z := 0) hC dX3_setFraction_21 rfl ?_
      refine v_putL hC dX3_setFraction_22 fp_X3_39 rfl rfl ?_
      refine w_al0 hC dX3_setFraction_25 ?_
      refine v_lconst (z := 1) hC dX3_setFraction_26 rfl ?_
      refine v_putL hC dX3_setFraction_27 fp_X3_43 rfl rfl ?_
      refine v_goto (tgt := 49) hC dX3_setFraction_30 rfl ?_
      refine v_vret hC hR dX3_setFraction_49 ?_
      first | exact hk (by have := cz_gt h10; omega) | exact h0 (by have := cz_le h10; omega) | exact absurd (Nat.gcd_pos_of_pos_left y (show 0 < x by have := cz_gt h10; omega)) (by have := h17; unfold cmpL at this; split at this <;> (try split at this) <;> omega)

/-- rows of m unlike words -/
def roW (n : Int) : Nat → Int
  | 0 => 1
  | j + 1 => roW n j * max 0 (n - j)
theorem roW_r {n : Int} (hn : 0 ≤ n ∧ n ≤ 8) (j : Nat) (hj : j ≤ 6) : 0 ≤ roW n j ∧ roW n j ≤ 8 ^ j := by
  induction j with
  | zero => exact ⟨show (0 : Int) ≤ 1 by decide, show (1 : Int) ≤ 8 ^ 0 by decide⟩
  | succ j ih =>
    have h1 := ih (by omega)
    have h2 : 0 ≤ max 0 (n - j) ∧ max 0 (n - j) ≤ 8 := by omega
    show 0 ≤ roW n j * max 0 (n - j) ∧ roW n j * max 0 (n - j) ≤ 8 ^ (j + 1)
    rw [Int.pow_succ]
    exact ⟨Int.mul_nonneg h1.1 h2.1, Int.mul_le_mul h1.2 h2.2 h2.1 (by omega)⟩
theorem e8_le {j : Nat} (h : j ≤ 6) : (8 : Int) ^ j ≤ 262144 := by
  have : ∀ j, j ≤ 6 → (8 : Int) ^ j ≤ 262144 := by decide
  exact this j h

theorem c_rowsOfWords {d : Nat} {w : Wd} {Q : Option MV → Wd → Prop} {n m : Int} (hn : 0 ≤ n ∧ n ≤ 8) (hm : 0 ≤ m ∧ m ≤ 6) (hQ : Q (some (.inl (roW n m.toNat))) w) : Call (d + 1) mX3_rowsOfWords [vI n, vI m] w Q := by
  refine call_in (ls := [some (vI n), some (vI m), none, none]) (by decide +kernel) rfl (Nat.le_of_ble_eq_true rfl) (fun κ hC hR hN => ?_)
  have hC : ctxB κ RX3 cX3_rowsOfWords (d + 1) := hC
  have hN : mlx κ 4 := hN
  refine w_ic hC dX3_rowsOfWords_0 rfl ?_
  refine w_is2 hC dX3_rowsOfWords_1 hN (by first | rfl | assumption) ?_
  refine w_ic hC dX3_rowsOfWords_2 rfl ?_
  refine w_is3 hC dX3_rowsOfWords_3 hN (by first | rfl | assumption) ?_
  have lp4 : ∀ (K : Nat) (j : Nat), (m.toNat - j) < K → ((j : Int) ≤ m) → VV κ 4 [some (vI n), some (vI m), some (vI (roW n j)), some (vI (j : Int))] [] w := by
    intro K
    induction K with
    | zero => intros; omega
    | succ K ih4 =>
      intro j hm4 hj
      have hr := roW_r hn j (by omega)
      have he := e8_le (j := j) (by omega)
      refine w_il3 hC dX3_rowsOfWords_4 ?_
      refine w_il1 hC dX3_rowsOfWords_5 ?_
      refine v_ic_ge (tgt := 25) hC dX3_rowsOfWords_6 rfl (fun h6 => ?_) (fun h6 => ?_)
      · refine w_il2 hC dX3_rowsOfWords_25 ?_
        refine v_iret hC hR dX3_rowsOfWords_26 ?_
        rw [show j = m.toNat by omega]
        exact hQ
      · refine w_il2 hC dX3_rowsOfWords_9 ?_
        refine w_ic hC dX3_rowsOfWords_10 rfl ?_
        refine w_il0 hC dX3_rowsOfWords_11 ?_
        refine w_il3 hC dX3_rowsOfWords_12 ?_
        refine w_isub hC dX3_rowsOfWords_13 (ri_mk (by omega) (by omega)) ?_
        refine w_st2 hC st_X3_322 dX3_rowsOfWords_14 rfl hN (c_max ?_)
        have hr2 := roW_r hn (j + 1) (by omega)
        have he2 := e8_le (j := j + 1) (by omega)
        refine w_imul hC dX3_rowsOfWords_17 (ri_mk (show _ ≤ roW n (j + 1) by omega) (show roW n (j + 1) < _ by omega)) ?_
        refine w_is2 hC dX3_rowsOfWords_18 hN (by first | rfl | assumption) ?_
        refine w_inc3 hC dX3_rowsOfWords_19 hN (by first | rfl | assumption) (ri_mk (by omega) (by omega)) ?_
        refine v_goto (tgt := 4) hC dX3_rowsOfWords_22 rfl ?_
        exact ih4 (j + 1) (by omega) (by omega)
  exact lp4 (m.toNat + 1) 0 (by omega) (by omega)

/-! evenings -/
/-- a verse with other lines -/
def lnS (a g : Nat → Int) : Nat → Int := fun i => if 28 ≤ i ∧ i < 34 then g (i - 28) else a i
def evX (x : Int) : Int := (x * 1103515245 + 12345) % 2147483648
def evXs (s : Int) : Nat → Int
  | 0 => s
  | k + 1 => evX (evXs s k)
def evJ (a : Nat → Int) (x : Int) : Int := x / 65536 % a 1
def evW (x : Int) : Int := x / 1048576 % 8
def onE (a g : Nat → Int) (wd : Int) : Prop := ∃ j : Nat, (j : Int) < a 1 ∧ g j = wd
noncomputable def evS (a g : Nat → Int) (x : Int) : Nat → Int := if g (evJ a x).toNat ≠ -1 then ua g (evJ a x).toNat (-1) else if (Classical.propDecidable (evW x < a 3 ∧ ¬ onE a g (evW x))).decide = true then ua g (evJ a x).toNat (evW x) else g
theorem evS_1 {a g : Nat → Int} {x : Int} (h : g (evJ a x).toNat ≠ -1) : evS a g x = ua g (evJ a x).toNat (-1) := if_pos h
theorem evS_2 {a g : Nat → Int} {x : Int} (h : ¬ g (evJ a x).toNat ≠ -1) (h2 : evW x < a 3 ∧ ¬ onE a g (evW x)) : evS a g x = ua g (evJ a x).toNat (evW x) := by
  unfold evS
  rw [if_neg h, if_pos (@decide_eq_true _ (Classical.propDecidable _) h2)]
theorem evS_3 {a g : Nat → Int} {x : Int} (h : ¬ g (evJ a x).toNat ≠ -1) (h2 : ¬ (evW x < a 3 ∧ ¬ onE a g (evW x))) : evS a g x = g := by
  unfold evS
  rw [if_neg h, if_neg (by rw [@decide_eq_false _ (Classical.propDecidable _) h2]; decide)]
noncomputable def evG (a : Nat → Int) (s : Int) : Nat → Nat → Int
  | 0 => fun _ => -1
  | k + 1 => evS a (evG a s k) (evXs s (k + 1))
theorem evX_r {x : Int} (h : 0 ≤ x) : 0 ≤ evX x ∧ evX x < 2147483648 := by unfold evX; omega
theorem evXs_r {s : Int} (h : 0 ≤ s ∧ s ≤ 999999) (k : Nat) : 0 ≤ evXs s k ∧ evXs s k < 2147483648 := by
  induction k with
  | zero => show 0 ≤ s ∧ s < _; omega
  | succ k ih => exact evX_r ih.1
theorem evJ_r {a : Nat → Int} (hA : AOK a) (x : Int) : 0 ≤ evJ a x ∧ evJ a x < a 1 := by
  have := hA.m
  unfold evJ
  exact ⟨Int.emod_nonneg _ (by omega), Int.emod_lt_of_pos _ (by omega)⟩
theorem evW_r (x : Int) : 0 ≤ evW x ∧ evW x < 8 := by unfold evW; omega
theorem lnS_o {a g : Nat → Int} {i : Nat} (h : i < 28 ∨ 34 ≤ i) : lnS a g i = a i := if_neg (by omega)
theorem lnS_l {a g : Nat → Int} {i : Nat} (h : i < 6) : lnS a g (28 + i) = g i := by
  unfold lnS
  rw [if_pos (by omega)]
  congr 1
  omega
theorem lnS_ok {a g : Nat → Int} (hA : AOK a) (h : LOK (a 1) (a 3) g) : AOK (lnS a g) := by
  have e : ∀ i, i < 28 ∨ 34 ≤ i → lnS a g i = a i := fun i h => lnS_o h
  refine ⟨?_, ?_, ?_, ?_, ?_, ?_, ?_, ?_, ?_, ?_, ?_, ?_⟩
  · rw [e 0 (by omega)]; exact hA.f
  · rw [e 1 (by omega)]; exact hA.m
  · rw [e 1 (by omega), e 2 (by omega)]; exact hA.2.2.1
  · rw [e 3 (by omega)]; exact hA.n
  · intro k hk
    rw [e 3 (by omega)] at hk
    have := hA.n
    rw [e _ (by omega), e _ (by omega), e _ (by omega)]
    exact hA.wd hk
  · rw [e 1 (by omega), e 3 (by omega)]
    refine ⟨fun j hj => ?_, fun i j hi hj => ?_⟩
    · show -1 ≤ lnS a g (28 + j) ∧ lnS a g (28 + j) < a 3 ∧ (a 1 ≤ (j : Int) → lnS a g (28 + j) = -1)
      rw [lnS_l hj]; exact h.1 j hj
    · show lnS a g (28 + i) = lnS a g (28 + j) → lnS a g (28 + i) ≠ -1 → i = j
      rw [lnS_l hi, lnS_l hj]; exact h.2 i j hi hj
  · rw [e 34 (by omega)]; exact hA.nc
  · intro k hk
    rw [e 34 (by omega)] at hk
    rw [e _ (by omega), e _ (by omega), e _ (by omega)]; exact hA.no hk
  · rw [e 53 (by omega)]; exact hA.mc
  · intro k hk
    rw [e 53 (by omega)] at hk
    rw [e _ (by omega), e _ (by omega), e _ (by omega), e _ (by omega)]; exact hA.ma hk
  · rw [e 78 (by omega)]; exact hA.uc
  · intro k hk
    rw [e 78 (by omega)] at hk
    rw [e 1 (by omega), e 3 (by omega)]
    have := hA.un hk
    refine ⟨fun j hj => ?_, fun i j hi hj => ?_⟩
    · show -1 ≤ lnS a g (79 + 6 * k + j) ∧ lnS a g (79 + 6 * k + j) < a 3 ∧ (a 1 ≤ (j : Int) → lnS a g (79 + 6 * k + j) = -1)
      rw [e _ (by omega)]; exact this.1 j hj
    · show lnS a g (79 + 6 * k + i) = lnS a g (79 + 6 * k + j) → lnS a g (79 + 6 * k + i) ≠ -1 → i = j
      rw [e _ (by omega), e _ (by omega)]; exact this.2 i j hi hj
theorem LOK_ev {m n : Int} {g : Nat → Int} (h : LOK m n g) {j : Nat} {z : Int} (hm : m ≤ 6) (hj : (j : Int) < m) (hz : z = -1 ∨ (0 ≤ z ∧ z < n ∧ ∀ i, i < 6 → i ≠ j → g i ≠ z)) (hn : 0 ≤ n) : LOK m n (ua g j z) := by
  refine ⟨fun i hi => ?_, fun i k hi hk e1 e2 => ?_⟩
  · by_cases q : i = j
    · subst q
      rw [show ua g i z i = z from if_pos rfl]
      omega
    · rw [show ua g j z i = g i from if_neg q]
      exact h.1 i hi
  · by_cases q : i = j
    · by_cases q2 : k = j
      · omega
      · rw [show ua g j z i = z from if_pos q] at e1 e2
        rw [show ua g j z k = g k from if_neg q2] at e1
        rcases hz with hz | hz
        · omega
        · exact absurd e1.symm (hz.2.2 k hk q2)
    · by_cases q2 : k = j
      · rw [show ua g j z i = g i from if_neg q] at e1 e2
        rw [show ua g j z k = z from if_pos q2] at e1
        rcases hz with hz | hz
        · omega
        · exact absurd e1 (hz.2.2 i hi q)
      · rw [show ua g j z i = g i from if_neg q] at e1 e2
        rw [show ua g j z k = g k from if_neg q2] at e1
        exact h.2 i k hi hk e1 e2
theorem evS_ok {a g : Nat → Int} (hA : AOK a) (h : LOK (a 1) (a 3) g) (x : Int) : LOK (a 1) (a 3) (evS a g x) := by
  have hj := evJ_r hA x
  have hw := evW_r x
  have hm := hA.m
  have hn := hA.n
  by_cases q : g (evJ a x).toNat ≠ -1
  · rw [evS_1 q]
    exact LOK_ev h hm.2 (by omega) (Or.inl rfl) hn.1
  · by_cases q2 : evW x < a 3 ∧ ¬ onE a g (evW x)
    · rw [evS_2 q q2]
      refine LOK_ev h hm.2 (by omega) (Or.inr ⟨hw.1, q2.1, fun i hi _ e => ?_⟩) hn.1
      by_cases q3 : (i : Int) < a 1
      · exact q2.2 ⟨i, q3, e⟩
      · have := (h.1 i hi).2.2 (by omega)
        omega
    · rw [evS_3 q q2]
      exact h
theorem LOK_0 {m n : Int} (hn : 0 ≤ n) : LOK m n (fun _ => -1) := ⟨fun j hj => ⟨Int.le_refl _, by show (-1 : Int) < n; omega, fun _ => rfl⟩, fun i j _ _ _ h => absurd rfl h⟩
theorem evG_ok {a : Nat → Int} (hA : AOK a) (s : Int) (k : Nat) : LOK (a 1) (a 3) (evG a s k) := by
  induction k with
  | zero => exact LOK_0 hA.n.1
  | succ k ih => exact evS_ok hA ih _
theorem wOn_S {a g : Nat → Int} (hA : AOK a) {j : Nat} (hj : (j : Int) < a 1) : wOn (lnS a g) j = g j := by
  have := hA.m
  rw [wOn_n (by rw [lnS_o (by omega)]; exact hj), lnS_l (by omega)]
theorem lnOf_S {a g : Nat → Int} (hA : AOK a) {wd : Int} : lnOf (lnS a g) wd = -1 ↔ ¬ onE a g wd := by
  have hm := hA.m
  have e1 : lnS a g 1 = a 1 := lnS_o (by omega)
  rcases fstI_spec (fun j => wOn (lnS a g) j = wd) (lnS a g 1).toNat with ⟨h1, h2⟩ | ⟨j, h1, h2, h3, -⟩
  · rw [show lnOf (lnS a g) wd = -1 from h1]
    rw [e1] at h2
    exact ⟨fun _ ⟨j, q1, q2⟩ => h2 j (by omega) (by show wOn (lnS a g) j = wd; rw [wOn_S hA q1]; exact q2), fun _ => rfl⟩
  · rw [show lnOf (lnS a g) wd = (j : Int) from h2]
    rw [e1] at h1
    refine ⟨fun q => by omega, fun q => absurd ⟨j, by omega, ?_⟩ q⟩
    rw [← wOn_S (a := a) (g := g) (j := j) hA (by omega)]
    exact h3
theorem lnS_ua {a g : Nat → Int} {j : Nat} {z : Int} (hj : j < 6) : ua (lnS a g) (28 + j) z = lnS a (ua g j z) := by
  funext i
  unfold ua lnS
  by_cases q : i = 28 + j
  · rw [if_pos q, if_pos (by omega)]
    exact (if_pos (by omega)).symm
  · rw [if_neg q]
    by_cases q2 : 28 ≤ i ∧ i < 34
    · rw [if_pos q2, if_pos q2]
      exact (if_neg (by omega)).symm
    · rw [if_neg q2, if_neg q2]
noncomputable def evC (a : Nat → Int) (s : Int) : Nat → Int := sumN (fun k => if rtL (lnS a (evG a s (k + 1))) = a 1 then 1 else 0)

theorem c_playEvening {d : Nat} {w : Wd} {Q : Option MV → Wd → Prop} {a g : Nat → Int} {x : Int} (hA : AOK a) (hg : LOK (a 1) (a 3) g) (hv : VX w 9 (lnS a g)) (hx : 0 ≤ x ∧ x < 2147483648) (hQ : ∀ w2, VX w2 9 (lnS a (evS a g x)) → smB w w2 9 → Q none w2) : Call (d + 3) mX3_playEvening [vR 9, vL x] w Q := by
  have hb := vb9
  have hA2 := lnS_ok hA hg
  have hv0 := hv
  obtain ⟨⟨x0, x1, x2, x3, x4, x5, x6⟩, xw, xl, xn, xm, xu⟩ := hv
  have e1 : lnS a g 1 = a 1 := lnS_o (by omega)
  have e3 : lnS a g 3 = a 3 := lnS_o (by omega)
  have am := hA.m
  have an := hA.n
  have hj := evJ_r hA x
  have hw := evW_r x
  obtain ⟨jn, hjn⟩ := Int.eq_ofNat_of_zero_le hj.1
  have hwo : wOn (lnS a g) (evJ a x) = g (evJ a x).toNat := by
    rw [hjn, wOn_S hA (by omega)]
    rfl
  have hds : 0 ≤ x / 65536 := by omega
  refine call_in (ls := [some (vR 9), some (vL x), none, none, none]) (by decide +kernel) rfl (Nat.le_of_ble_eq_true rfl) (fun κ hC hR hN => ?_)
  have hC : ctxB κ RX3 cX3_playEvening (d + 3) := hC
  have hN : mlx κ 5 := hN
  refine w_al0 hC dX3_playEvening_0 ?_
  refine v_getI hC dX3_playEvening_1 fd_X3_186 rfl rfl ?_
  rw [x1, e1]
  refine v_if_gt (tgt := 8) hC dX3_playEvening_4 rfl (fun h4 => ?_) (fun h4 => ?_)
  · refine w_ll1 hC dX3_playEvening_8 ?_
    refine v_ldc2 (n := 65536) hC dX3_playEvening_9 kl_X3_312 rfl (ckL_ok rfl) ?_
    refine v_ldiv_n hC (by omega) (by omega) dX3_playEvening_12 ?_
    refine w_al0 hC dX3_playEvening_13 ?_
    refine v_getI hC dX3_playEvening_14 fd_X3_186 rfl rfl ?_
    rw [x1, e1]
    refine v_i2l hC dX3_playEvening_17 ?_
    refine v_lrem_n hC (by omega) (by omega) dX3_playEvening_18 ?_
    refine v_l2i hC dX3_playEvening_19 ?_
    rw [show wr (x / 65536 % a 1) = evJ a x from wr_id (ri_mk (by show -2147483648 ≤ evJ a x; omega) (by show evJ a x < 2147483648; omega))]
    refine w_is3 hC dX3_playEvening_20 hN (by first | rfl | assumption) ?_
    refine w_ll1 hC dX3_playEvening_21 ?_
    refine v_ldc2 (n := 1048576) hC dX3_playEvening_22 kl_X3_314 rfl (ckL_ok rfl) ?_
    refine v_ldiv_n hC (by omega) (by omega) dX3_playEvening_25 ?_
    refine v_ldc2 (n := 8) hC dX3_playEvening_26 kl_X3_316 rfl (ckL_ok rfl) ?_
    refine v_lrem_n hC (by omega) (by omega) dX3_playEvening_29 ?_
    refine v_l2i hC dX3_playEvening_30 ?_
    rw [show wr (x / 1048576 % 8) = evW x from wr_id (ri_mk (by show -2147483648 ≤ evW x; omega) (by show evW x < 2147483648; omega))]
    refine w_is4 hC dX3_playEvening_31 hN (by first | rfl | assumption) ?_
    refine w_al0 hC dX3_playEvening_33 ?_
    refine w_il3 hC dX3_playEvening_34 ?_
    refine w_vi1 hC vi_X3_112 rfl dX3_playEvening_35 rfl hN (c_wordOn hb hv0 hA2 ?_)
    rw [hwo]
    refine w_ic hC dX3_playEvening_38 rfl ?_
    refine v_ic_eq (tgt := 54) hC dX3_playEvening_39 rfl (fun h39 => ?_) (fun h39 => ?_)
    · refine w_al0 hC dX3_playEvening_54 ?_
      refine w_il4 hC dX3_playEvening_55 ?_
      refine w_vi1 hC vi_X3_109 rfl dX3_playEvening_57 rfl hN (c_hasWord hb hv0 hA2 (fun g1 => ?_) (fun g1 => ?_))
      · refine v_if_eq (tgt := 83) hC dX3_playEvening_60 rfl (fun h => absurd h (by decide)) (fun _ => ?_)
        refine w_al0 hC dX3_playEvening_63 ?_
        refine w_il4 hC dX3_playEvening_64 ?_
        refine w_vi1 hC vi_X3_115 rfl dX3_playEvening_66 rfl hN (c_lineOf hb hv0 hA2 ?_)
        refine w_ic hC dX3_playEvening_69 rfl ?_
        refine v_ic_ne (tgt := 83) hC dX3_playEvening_70 rfl (fun h70 => ?_) (fun h70 => ?_)
        · refine v_vret hC hR dX3_playEvening_83 ?_
          first
            | (refine hQ _ ?_ (fun i k hi => rfl)
               rw [evS_3 (by omega) (fun q => by first | exact g1 ⟨hw.1, by rw [e3]; exact q.1⟩ | exact h70 ((lnOf_S hA).mpr q.2))]
               exact hv0)
            | (rw [hjn, stV_n w (show jn < 6 by omega)]
               refine hQ _ ?_ (fun i k hi => up_id _ _ (by omega))
               rw [evS_1 (by omega), hjn, show ((jn : Nat) : Int).toNat = jn from rfl, ← lnS_ua (by omega)]
               exact hv0.ln1 (by omega) (by omega))
            | (rw [hjn, stV_n w (show jn < 6 by omega)]
               refine hQ _ ?_ (fun i k hi => up_id _ _ (by omega))
               rw [evS_2 (by omega) ⟨by rw [e3] at g1; exact g1.2, (lnOf_S hA).mp (by omega)⟩, hjn, show ((jn : Nat) : Int).toNat = jn from rfl, ← lnS_ua (by omega)]
               exact hv0.ln1 (by omega) (by omega))
        · refine w_al0 hC dX3_playEvening_73 ?_
          refine v_getR (off := 4) (j := 13) hC dX3_playEvening_74 fd_X3_121 rfl rfl rfl ?_
          refine w_il3 hC dX3_playEvening_77 ?_
          refine w_il4 hC dX3_playEvening_78 ?_
          refine w_st3 hC st_X3_125 dX3_playEvening_80 rfl hN (c_set rfl ?_)
          refine v_vret hC hR dX3_playEvening_83 ?_
          first
            | (refine hQ _ ?_ (fun i k hi => rfl)
               rw [evS_3 (by omega) (fun q => by first | exact g1 ⟨hw.1, by rw [e3]; exact q.1⟩ | exact h70 ((lnOf_S hA).mpr q.2))]
               exact hv0)
            | (rw [hjn, stV_n w (show jn < 6 by omega)]
               refine hQ _ ?_ (fun i k hi => up_id _ _ (by omega))
               rw [evS_1 (by omega), hjn, show ((jn : Nat) : Int).toNat = jn from rfl, ← lnS_ua (by omega)]
               exact hv0.ln1 (by omega) (by omega))
            | (rw [hjn, stV_n w (show jn < 6 by omega)]
               refine hQ _ ?_ (fun i k hi => up_id _ _ (by omega))
               rw [evS_2 (by omega) ⟨by rw [e3] at g1; exact g1.2, (lnOf_S hA).mp (by omega)⟩, hjn, show ((jn : Nat) : Int).toNat = jn from rfl, ← lnS_ua (by omega)]
               exact hv0.ln1 (by omega) (by omega))
      · refine v_if_eq (tgt := 83) hC dX3_playEvening_60 rfl (fun _ => ?_) (fun h => absurd h (by decide))
        refine v_vret hC hR dX3_playEvening_83 ?_
        first
          | (refine hQ _ ?_ (fun i k hi => rfl)
             rw [evS_3 (by omega) (fun q => by first | exact g1 ⟨hw.1, by rw [e3]; exact q.1⟩ | exact h70 ((lnOf_S hA).mpr q.2))]
             exact hv0)
          | (rw [hjn, stV_n w (show jn < 6 by omega)]
             refine hQ _ ?_ (fun i k hi => up_id _ _ (by omega))
             rw [evS_1 (by omega), hjn, show ((jn : Nat) : Int).toNat = jn from rfl, ← lnS_ua (by omega)]
             exact hv0.ln1 (by omega) (by omega))
          | (rw [hjn, stV_n w (show jn < 6 by omega)]
             refine hQ _ ?_ (fun i k hi => up_id _ _ (by omega))
             rw [evS_2 (by omega) ⟨by rw [e3] at g1; exact g1.2, (lnOf_S hA).mp (by omega)⟩, hjn, show ((jn : Nat) : Int).toNat = jn from rfl, ← lnS_ua (by omega)]
             exact hv0.ln1 (by omega) (by omega))
    · refine w_al0 hC dX3_playEvening_42 ?_
      refine v_getR (off := 4) (j := 13) hC dX3_playEvening_43 fd_X3_121 rfl rfl rfl ?_
      refine w_il3 hC dX3_playEvening_46 ?_
      refine w_ic hC dX3_playEvening_47 rfl ?_
      refine w_st3 hC st_X3_125 dX3_playEvening_48 rfl hN (c_set rfl ?_)
      refine v_goto (tgt := 83) hC dX3_playEvening_51 rfl ?_
      refine v_vret hC hR dX3_playEvening_83 ?_
      first
        | (refine hQ _ ?_ (fun i k hi => rfl)
           rw [evS_3 (by omega) (fun q => by first | exact g1 ⟨hw.1, by rw [e3]; exact q.1⟩ | exact h70 ((lnOf_S hA).mpr q.2))]
           exact hv0)
        | (rw [hjn, stV_n w (show jn < 6 by omega)]
           refine hQ _ ?_ (fun i k hi => up_id _ _ (by omega))
           rw [evS_1 (by omega), hjn, show ((jn : Nat) : Int).toNat = jn from rfl, ← lnS_ua (by omega)]
           exact hv0.ln1 (by omega) (by omega))
        | (rw [hjn, stV_n w (show jn < 6 by omega)]
           refine hQ _ ?_ (fun i k hi => up_id _ _ (by omega))
           rw [evS_2 (by omega) ⟨by rw [e3] at g1; exact g1.2, (lnOf_S hA).mp (by omega)⟩, hjn, show ((jn : Nat) : Int).toNat = jn from rfl, ← lnS_ua (by omega)]
           exact hv0.ln1 (by omega) (by omega))
  · refine v_vret hC hR dX3_playEvening_7 ?_
    exfalso; omega

theorem c_evenings {d : Nat} {w : Wd} {Q : Option MV → Wd → Prop} {a : Nat → Int} (hv : VX w 1 a) (hA : AOK a) {s n : Int} (hb0 : ¬ ((0 ≤ s ∧ s ≤ 999999) ∧ 0 ≤ n ∧ n ≤ 60) → Q (some (.inl (-2))) (cI w 0 10)) (hk : (0 ≤ s ∧ s ≤ 999999) ∧ 0 ≤ n ∧ n ≤ 60 → ∀ w2, smB w w2 9 → Q (some (.inl (evC a s n.toNat))) w2) : Call (d + 5) mX3_evenings [vR 0, vI s, vI n] w Q := by
  have hb : vb 1 := Or.inl rfl
  have hv0 := hv
  obtain ⟨⟨x0, x1, x2, x3, x4, x5, x6⟩, xw, xl, xn, xm, xu⟩ := hv
  have am := hA.m
  have an := hA.n
  have af := hA.f
  have anc := hA.nc
  have amc := hA.mc
  have auc := hA.uc
  refine call_in (ls := [some (vR 0), some (vI s), some (vI n), none, none, none, none]) (by decide +kernel) rfl (Nat.le_of_ble_eq_true rfl) (fun κ hC hR hN => ?_)
  have hC : ctxB κ RX3 cX3_evenings (d + 5) := hC
  have hN : mlx κ 7 := hN
  refine w_il1 hC dX3_evenings_0 ?_
  refine w_ic hC dX3_evenings_1 rfl ?_
  refine v_ldc (n := 999999) hC dX3_evenings_2 ki_X3_243 rfl (ckI_ok rfl) ?_
  refine w_st3 hC st_X3_50 dX3_evenings_4 rfl hN (c_within (fun g1 => ?_) (fun g1 => ?_))
  · refine v_if_eq (tgt := 20) hC dX3_evenings_7 rfl (fun h => absurd h (by decide)) (fun _ => ?_)
    refine w_il2 hC dX3_evenings_10 ?_
    refine w_ic hC dX3_evenings_11 rfl ?_
    refine v_bipush hC dX3_evenings_12 (by decide) ?_
    refine w_st3 hC st_X3_50 dX3_evenings_14 rfl hN (c_within (fun g2 => ?_) (fun g2 => ?_))
    · refine v_if_ne (tgt := 27) hC dX3_evenings_17 rfl (fun _ => ?_) (fun h => absurd h (by decide))
      refine w_al0 hC dX3_evenings_27 ?_
      refine v_getR (off := 9) (j := 9) hC dX3_evenings_28 fd_X3_16 rfl rfl rfl ?_
      refine w_al0 hC dX3_evenings_31 ?_
      refine v_getR (off := 1) (j := 1) hC dX3_evenings_32 fd_X3_10 rfl rfl rfl ?_
      refine w_vi1 hC vi_X3_99 rfl dX3_evenings_35 rfl hN (c_copyFrom vb9 hb (by decide) hv0 an anc amc auc (fun w1 v1 o1 => ?_))
      refine w_al0 hC dX3_evenings_38 ?_
      refine v_getR (off := 9) (j := 9) hC dX3_evenings_39 fd_X3_16 rfl rfl rfl ?_
      refine v_getR (off := 4) (j := 13) hC dX3_evenings_42 fd_X3_121 rfl rfl rfl ?_
      refine w_ic hC dX3_evenings_45 rfl ?_
      refine w_st2 hC st_X3_244 dX3_evenings_46 rfl hN (c_fill rfl (fun w2 f2 o2 => ?_))
      have v2 : VX w2 9 (lnS a (evG a s 0)) := by
        have hs := v1
        obtain ⟨⟨y0, y1, y2, y3, y4, y5, y6⟩, yw, yl, yn, ym, yu⟩ := v1
        have e : ∀ i, i < 28 ∨ 34 ≤ i → lnS a (evG a s 0) i = a i := fun i h => lnS_o h
        have u : ∀ i k : Nat, i ≠ 13 → w2 i k = w1 i k := fun i k h => o2 i k h
        refine ⟨⟨?_, ?_, ?_, ?_, ?_, ?_, ?_⟩, fun k hk => ?_, fun j hj => ?_, fun k hk => ?_, fun k hk => ?_, fun k hk => ?_⟩
        · rw [u _ _ (by omega), y0, e _ (by omega)]
        · rw [u _ _ (by omega), y1, e _ (by omega)]
        · rw [u _ _ (by omega), y2, e _ (by omega)]
        · rw [u _ _ (by omega), y3, e _ (by omega)]
        · rw [u _ _ (by omega), y4, e _ (by omega)]
        · rw [u _ _ (by omega), y5, e _ (by omega)]
        · rw [u _ _ (by omega), y6, e _ (by omega)]
        · rw [e 3 (by omega)] at hk
          rw [u _ _ (by omega), u _ _ (by omega), u _ _ (by omega), e _ (by omega), e _ (by omega), e _ (by omega)]; exact yw k hk
        · rw [lnS_l hj]; exact f2 j hj
        · rw [e 34 (by omega)] at hk
          rw [u _ _ (by omega), e _ (by omega)]; exact yn k hk
        · rw [e 53 (by omega)] at hk
          rw [u _ _ (by omega), e _ (by omega)]; exact ym k hk
        · rw [e 78 (by omega)] at hk
          rw [u _ _ (by omega), e _ (by omega)]; exact yu k hk
      have o3 : smB w w2 9 := fun i k hi => by rw [o2 i k (by omega)]; exact o1 i k hi
      refine w_il1 hC dX3_evenings_49 ?_
      refine v_i2l hC dX3_evenings_50 ?_
      refine w_ls3 hC dX3_evenings_51 hN (by first | rfl | assumption) ?_
      refine w_ic hC dX3_evenings_52 rfl ?_
      refine w_is5 hC dX3_evenings_53 hN (by first | rfl | assumption) ?_
      refine w_ic hC dX3_evenings_55 rfl ?_
      refine w_is6 hC dX3_evenings_56 hN (by first | rfl | assumption) ?_
      refine w_dr4 ?_
      have lp58 : ∀ (K : Nat) (w3 : Wd) (k : Nat), (n.toNat - k) < K → ((k : Int) ≤ n) → (VX w3 9 (lnS a (evG a s k))) → (smB w w3 9) → VV κ 58 [some (vR 0), some (vI s), some (vI n), some (vL (evXs s k)), none, some (vI (evC a s k)), some (vI (k : Int))] [] w3 := by
        intro K
        induction K with
        | zero => intros; omega
        | succ K ih58 =>
          intro w3 k hm58 hk2 v3 o4
          have hxr := evXs_r g1 k
          have hcr := sumN_r (f := fun k => if rtL (lnS a (evG a s (k + 1))) = a 1 then 1 else 0) (c := 1) k (fun i _ => by split <;> omega)
          have hcr2 : 0 ≤ evC a s k ∧ evC a s k ≤ k := by unfold evC; omega
          refine w_il6 hC dX3_evenings_58 ?_
          refine w_il2 hC dX3_evenings_60 ?_
          refine v_ic_ge (tgt := 119) hC dX3_evenings_61 rfl (fun h61 => ?_) (fun h61 => ?_)
          · refine w_il5 hC dX3_evenings_119 ?_
            refine v_iret hC hR dX3_evenings_121 ?_
            rw [show k = n.toNat by omega]
            exact hk ⟨g1, g2⟩ _ o4
          · refine w_ll3 hC dX3_evenings_64 ?_
            refine v_ldc2 (n := 1103515245) hC dX3_evenings_65 kl_X3_250 rfl (ckL_ok rfl) ?_
            refine w_lmul hC dX3_evenings_68 (ri_mkL (by omega) (by omega)) ?_
            refine v_ldc2 (n := 12345) hC dX3_evenings_69 kl_X3_252 rfl (ckL_ok rfl) ?_
            refine w_ladd hC dX3_evenings_72 (ri_mkL (by omega) (by omega)) ?_
            refine v_ldc2 (n := 2147483648) hC dX3_evenings_73 kl_X3_254 rfl (ckL_ok rfl) ?_
            refine v_lrem_n hC (by omega) (by omega) dX3_evenings_76 ?_
            rw [show (evXs s k * 1103515245 + 12345) % 2147483648 = evXs s (k + 1) from rfl]
            have hxr2 := evXs_r g1 (k + 1)
            refine w_ls3 hC dX3_evenings_77 hN (by first | rfl | assumption) ?_
            refine w_al0 hC dX3_evenings_78 ?_
            refine v_getR (off := 9) (j := 9) hC dX3_evenings_79 fd_X3_16 rfl rfl rfl ?_
            refine w_ll3 hC dX3_evenings_82 ?_
            refine w_st2 hC st_X3_256 dX3_evenings_83 rfl hN (c_playEvening hA (evG_ok hA s k) v3 hxr2 (fun w4 v4 o5 => ?_))
            have v4 : VX w4 9 (lnS a (evG a s (k + 1))) := v4
            refine w_il5 hC dX3_evenings_86 ?_
            refine w_al0 hC dX3_evenings_88 ?_
            refine v_getR (off := 9) (j := 9) hC dX3_evenings_89 fd_X3_16 rfl rfl rfl ?_
            refine w_vi0 hC vi_X3_132 rfl dX3_evenings_92 rfl hN (c_rightLines vb9 v4 (lnS_ok hA (evG_ok hA s (k + 1))) ?_)
            refine w_al0 hC dX3_evenings_95 ?_
            refine v_getR (off := 9) (j := 9) hC dX3_evenings_96 fd_X3_16 rfl rfl rfl ?_
            refine v_getI hC dX3_evenings_99 fd_X3_186 rfl rfl ?_
            rw [v4.1.2.1, show lnS a (evG a s (k + 1)) 1 = a 1 from lnS_o (by omega)]
            refine v_ic_ne (tgt := 109) hC dX3_evenings_102 rfl (fun h102 => ?_) (fun h102 => ?_)
            · refine w_ic hC dX3_evenings_109 rfl ?_
              refine w_iadd hC dX3_evenings_110 (ri_mk (by omega) (by omega)) ?_
              first | rw [show evC a s k + 1 = evC a s (k + 1) from (sumN_s rfl (if_pos h102))] | rw [show evC a s k + 0 = evC a s (k + 1) from (sumN_s rfl (if_neg h102))]
              refine w_is5 hC dX3_evenings_111 hN (by first | rfl | assumption) ?_
              refine w_inc6 hC dX3_evenings_113 hN (by first | rfl | assumption) (ri_mk (by omega) (by omega)) ?_
              refine v_goto (tgt := 58) hC dX3_evenings_116 rfl ?_
              refine w_dr4 ?_
              first | exact ih58 _ (k + 1) (by omega) (by omega) v4 (fun i q hi => by rw [o5 i q hi]; exact o4 i q hi)
            · refine w_ic hC dX3_evenings_105 rfl ?_
              refine v_goto (tgt := 110) hC dX3_evenings_106 rfl ?_
              refine w_iadd hC dX3_evenings_110 (ri_mk (by omega) (by omega)) ?_
              first | rw [show evC a s k + 1 = evC a s (k + 1) from (sumN_s rfl (if_pos h102))] | rw [show evC a s k + 0 = evC a s (k + 1) from (sumN_s rfl (if_neg h102))]
              refine w_is5 hC dX3_evenings_111 hN (by first | rfl | assumption) ?_
              refine w_inc6 hC dX3_evenings_113 hN (by first | rfl | assumption) (ri_mk (by omega) (by omega)) ?_
              refine v_goto (tgt := 58) hC dX3_evenings_116 rfl ?_
              refine w_dr4 ?_
              first | exact ih58 _ (k + 1) (by omega) (by omega) v4 (fun i q hi => by rw [o5 i q hi]; exact o4 i q hi)
      exact lp58 (n.toNat + 1) w2 0 (by omega) (by omega) v2 o3
    · refine v_if_ne (tgt := 27) hC dX3_evenings_17 rfl (fun h => absurd h (by decide)) (fun _ => ?_)
      refine w_al0 hC dX3_evenings_20 ?_
      refine v_bipush hC dX3_evenings_21 (by decide) ?_
      refine w_vi1 hC vi_X3_58 rfl dX3_evenings_23 rfl hN (c_refBad ?_)
      refine v_iret hC hR dX3_evenings_26 ?_
      exact hb0 (by omega)
  · refine v_if_eq (tgt := 20) hC dX3_evenings_7 rfl (fun _ => ?_) (fun h => absurd h (by decide))
    refine w_al0 hC dX3_evenings_20 ?_
    refine v_bipush hC dX3_evenings_21 (by decide) ?_
    refine w_vi1 hC vi_X3_58 rfl dX3_evenings_23 rfl hN (c_refBad ?_)
    refine v_iret hC hR dX3_evenings_26 ?_
    exact hb0 (by omega)
