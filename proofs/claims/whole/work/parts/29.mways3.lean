/-! the word on a line in the first, the cheapest way -/
theorem coF_0 (a : Nat → Int) (k j : Nat) : coF a 0 k j = 0 := if_pos rfl
theorem fitF_t {a : Nat → Int} {f : Int} {k j : Nat} : fitF a f k j = true ↔ fitB a f k j := fitF_iff
/-- what the reference asks of a word there -/
def ndW (F : Nat → Nat → Bool) (C : Nat → Nat → Int) (n m r u : Nat) (c : Int) (k : Nat) : Prop := (u.testBit k = false ∧ 0 < wyN F n m r (u ||| 2 ^ k) ∧ F k (pcN u) = true) ∧ (c = 0 ∨ C k (pcN u) + cmN F C n m r (u ||| 2 ^ k) = cmN F C n m (r + 1) u)
theorem nw_1 {F : Nat → Nat → Bool} {C : Nat → Nat → Int} {n m r u k : Nat} {c : Int} (h : u.testBit k = true) : ¬ ndW F C n m r u c k := fun z => by
  have := z.1.1
  rw [h] at this
  exact absurd this (by decide)
theorem nw_2 {F : Nat → Nat → Bool} {C : Nat → Nat → Int} {n m r u k : Nat} {c : Int} (h : ¬ 0 < wyN F n m r (u ||| 2 ^ k)) : ¬ ndW F C n m r u c k := fun z => h z.1.2.1
theorem nw_3 {a : Nat → Int} {f : Int} {C : Nat → Nat → Int} {n m r u k i : Nat} {c : Int} (hi : pcN u = i) (h : ¬ fitB a f k i) : ¬ ndW (fitF a f) C n m r u c k := fun z => h (by rw [← hi]; exact fitF_t.mp z.1.2.2)
theorem nw_4 {F : Nat → Nat → Bool} {C : Nat → Nat → Int} {n m r u k : Nat} {c x : Int} (he : C k (pcN u) = x) (h0 : ¬ c = 0) (h : ¬ x + cmN F C n m r (u ||| 2 ^ k) = cmN F C n m (r + 1) u) : ¬ ndW F C n m r u c k := fun z => z.2.elim h0 (fun q => h (by rw [← he]; exact q))
theorem nw_5 {F : Nat → Nat → Bool} {C : Nat → Nat → Int} {n m r u k : Nat} {c : Int} (hp : u.testBit k = false ∧ 0 < wyN F n m r (u ||| 2 ^ k) ∧ F k (pcN u) = true) (h0 : c = 0) : ndW F C n m r u c k := ⟨hp, Or.inl h0⟩
theorem nw_6 {F : Nat → Nat → Bool} {C : Nat → Nat → Int} {n m r u k : Nat} {c x : Int} (hp : u.testBit k = false ∧ 0 < wyN F n m r (u ||| 2 ^ k) ∧ F k (pcN u) = true) (he : C k (pcN u) = x) (h : x + cmN F C n m r (u ||| 2 ^ k) = cmN F C n m (r + 1) u) : ndW F C n m r u c k := ⟨hp, Or.inr (by rw [he]; exact h)⟩
theorem coF_n {a : Nat → Int} {c : Int} (h : ¬ c = 0) (k j : Nat) : coF a c k j = coF a 1 k j := by
  unfold coF
  rw [if_neg h, if_neg (by decide)]
/-- the class's next word is the first that the reference would take -/
theorem nd_nx {a : Nat → Int} {n m u r : Nat} {c : Int} (hA : AOK a) (h3 : a 3 = n) (h1 : a 1 = m) (hn : n ≤ 8) (hm : m ≤ 6) (hu : u < 2 ^ n) (hr : m - pcN u = r + 1) {F : Nat → Nat → Bool} (hw : 0 < wyN F n m (r + 1) u) {k : Nat} (hk : k < n) :
    ((u.testBit k = false ∧ F k (pcN u) = true) ∧ coF a c k (pcN u) + bsL F (coF a c) n m (u ||| 2 ^ k) = bsL F (coF a c) n m u) ↔ ndW F (coF a 1) n m r u c k := by
  by_cases hc : c = 0
  · subst hc
    rw [nx_0 hn hm (coF_0 a) hu hr hw hk]
    exact ⟨fun z => ⟨z, Or.inl rfl⟩, fun z => z.1⟩
  · have e : coF a c = coF a 1 := funext (fun k => funext (fun j => coF_n hc k j))
    rw [e, nx_1 hn hm (fun k j p q => coF_r hA h3 h1 1 p q) hu hr hw hk]
    exact ⟨fun z => ⟨z.1, Or.inr z.2⟩, fun z => ⟨z.1, z.2.resolve_left hc⟩⟩

theorem d_wordOn {d : Nat} {w : Wd} {Q : Option MV → Wd → Prop} (hA : AOK (w 40)) {c : Int} {l : Nat} (hl : (l : Int) < w 40 1) (hc01 : 0 ≤ c ∧ c ≤ 1) (ht : wyT w (fitF (w 40) (w 40 0)) (coF (w 40) 1) (w 40 3).toNat (w 40 1).toNat 0) (hw : 0 < wyA (w 40) (fitF (w 40) (w 40 0))) (hQ : Q (some (.inl (nxL (fitF (w 40) (w 40 0)) (coF (w 40) c) (w 40 3).toNat (w 40 1).toNat (uSL (fitF (w 40) (w 40 0)) (coF (w 40) c) (w 40 3).toNat (w 40 1).toNat l)))) w) : Call (d + 4) mX4_wordOn [vR 39, vI (l : Int), vI c] w Q := by
  have am := hA.m
  have an := hA.n
  have af := hA.f
  have anc := hA.nc
  have amc := hA.mc
  have auc := hA.uc
  obtain ⟨n, h3⟩ := Int.eq_ofNat_of_zero_le an.1
  obtain ⟨m, h1⟩ := Int.eq_ofNat_of_zero_le (show 0 ≤ w 40 1 by omega)
  have e3 : (w 40 3).toNat = n := by omega
  have e1 : (w 40 1).toNat = m := by omega
  rw [e3, e1] at ht
  have hwyA : wyA (w 40) (fitF (w 40) (w 40 0)) = wyN (fitF (w 40) (w 40 0)) n m m 0 := by unfold wyA; rw [e3, e1]
  rw [hwyA] at hw
  have hpow : 0 < 2 ^ n := Nat.pow_pos (by decide)
  refine call_in (ls := [some (vR 39), some (vI (l : Int)), some (vI c), none, none, none, none, none, none, none]) (by decide +kernel) rfl (Nat.le_of_ble_eq_true rfl) (fun κ hC hR hN => ?_)
  have hC : ctxB κ RX4 cX4_wordOn (d + 4) := hC
  have hN : mlx κ 10 := hN
  refine w_ic hC dX4_wordOn_0 rfl ?_
  refine w_is3 hC dX4_wordOn_1 hN (by first | rfl | assumption) ?_
  refine w_ic hC dX4_wordOn_2 rfl ?_
  refine w_is4 hC dX4_wordOn_3 hN (by first | rfl | assumption) ?_
  refine w_ic hC dX4_wordOn_5 rfl ?_
  refine w_is5 hC dX4_wordOn_6 hN (by first | rfl | assumption) ?_
  refine w_dr6 ?_
  refine w_dr7 ?_
  refine w_dr8 ?_
  refine w_dr9 ?_
  have lp8 : ∀ (K : Nat) (ch : Int) (i : Nat), (l + 1 - i) < K → (i ≤ l + 1) → (∀ q, i = q + 1 → ch = nxL (fitF (w 40) (w 40 0)) (coF (w 40) c) n m (uSL (fitF (w 40) (w 40 0)) (coF (w 40) c) n m q)) → VV κ 8 [some (vR 39), some (vI (l : Int)), some (vI c), some (vI ((uSL (fitF (w 40) (w 40 0)) (coF (w 40) c) n m i : Nat) : Int)), some (vI ch), some (vI (i : Int)), none, none, none, none] [] w := by
    intro K
    induction K with
    | zero => intros; omega
    | succ K ih8 =>
      intro ch i hm8 hi hch
      refine w_il5 hC dX4_wordOn_8 ?_
      refine w_il1 hC dX4_wordOn_10 ?_
      refine v_ic_gt (tgt := 178) hC dX4_wordOn_11 rfl (fun h11 => ?_) (fun h11 => ?_)
      · refine w_il4 hC dX4_wordOn_178 ?_
        refine v_iret hC hR dX4_wordOn_180 ?_
        rw [e3, e1] at hQ
        exact qz (hch l (by omega)).symm hQ
      · obtain ⟨us1, us2, us3⟩ := uSL_ok (F := fitF (w 40) (w 40 0)) (C := coF (w 40) c) (by omega) (by omega) (fun k j p q => coF_r hA h3 h1 c p q) hw i (by omega)
        obtain ⟨k, hkk, k2, k3, k4, k5⟩ := nxL_ok (C := coF (w 40) c) (by omega) (by omega) (fun k j p q => coF_r hA h3 h1 c p q) us1 (by omega) us3
        have husS : uSL (fitF (w 40) (w 40 0)) (coF (w 40) c) n m i ||| 2 ^ k = uSL (fitF (w 40) (w 40 0)) (coF (w 40) c) n m (i + 1) := by
          show _ = uSL (fitF (w 40) (w 40 0)) (coF (w 40) c) n m i ||| 2 ^ (nxL (fitF (w 40) (w 40 0)) (coF (w 40) c) n m (uSL (fitF (w 40) (w 40 0)) (coF (w 40) c) n m i)).toNat
          rw [hkk]
          rfl
        obtain ⟨r, hr⟩ : ∃ r, m - i = r + 1 := ⟨m - i - 1, by omega⟩
        rw [us2, hr] at us3
        have h256 := n2_le (show n ≤ 8 by omega)
        generalize hug : uSL (fitF (w 40) (w 40 0)) (coF (w 40) c) n m i = u at us1 us2 us3 hkk k3 husS ⊢
        have hri : m - pcN u = r + 1 := by omega
        have htu := ht i u (Nat.zero_le _) (by omega) (by omega)
        rw [hr] at htu
        have hhere : ∀ k' : Nat, k' < n → 256 * (i + 1) + (u ||| 2 ^ k') < 1792 ∧ (u ||| 2 ^ k') < 256 ∧ w 46 (256 * (i + 1) + (u ||| 2 ^ k')) = wyN (fitF (w 40) (w 40 0)) n m r (u ||| 2 ^ k') ∧ w 47 (256 * (i + 1) + (u ||| 2 ^ k')) = cmN (fitF (w 40) (w 40 0)) (coF (w 40) 1) n m r (u ||| 2 ^ k') := by
          intro k' hk'
          have ho : u ||| 2 ^ k' < 256 := Nat.or_lt_two_pow (n := 8) (by omega) (two_lt (by omega))
          have hh := ht (i + 1) (u ||| 2 ^ k') (Nat.zero_le _) (by omega) ho
          rw [show m - (i + 1) = r by omega] at hh
          exact ⟨by omega, ho, hh⟩
        refine w_ic hC dX4_wordOn_14 rfl ?_
        refine w_is4 hC dX4_wordOn_15 hN (by first | rfl | assumption) ?_
        refine w_al0 hC dX4_wordOn_17 ?_
        refine v_getR (off := 1) (j := 40) hC dX4_wordOn_18 fd_X4_7 rfl rfl rfl ?_
        refine w_ic hC dX4_wordOn_21 rfl ?_
        refine w_ialdk hC 127 (3) dX4_wordOn_22 rfl rfl (by omega) (by omega) ?_
        rw [h3]
        refine w_ic hC dX4_wordOn_23 rfl ?_
        refine w_isub hC dX4_wordOn_24 (ri_mk (by omega) (by omega)) ?_
        refine w_is6 hC dX4_wordOn_25 hN (by first | rfl | assumption) ?_
        refine w_dr7 ?_
        refine w_dr8 ?_
        refine w_dr9 ?_
        have lp27 : ∀ (K2 : Nat) (who : Int) (t : Nat), t < K2 → (t ≤ n) → (fsD (ndW (fitF (w 40) (w 40 0)) (coF (w 40) 1) n m r u c) n t who) → VV κ 27 [some (vR 39), some (vI (l : Int)), some (vI c), some (vI (u : Int)), some (vI who), some (vI (i : Int)), some (vI ((t : Int) - 1)), none, none, none] [] w := by
          intro K2
          induction K2 with
          | zero => intros; omega
          | succ K2 ih27 =>
            intro who t hm27 htn hwho
            refine w_il6 hC dX4_wordOn_27 ?_
            refine v_if_lt (tgt := 165) hC dX4_wordOn_29 rfl (fun h29 => ?_) (fun h29 => ?_)
            · have hwe : who = nxL (fitF (w 40) (w 40 0)) (coF (w 40) c) n m u := by
                rw [show t = 0 by omega] at hwho
                exact fsD_e hwho (fun k hk => nd_nx hA h3 h1 (by omega) (by omega) us1 hri us3 hk)
              rw [hwe, hkk]
              refine w_il3 hC dX4_wordOn_165 ?_
              refine w_ic hC dX4_wordOn_166 rfl ?_
              refine w_il4 hC dX4_wordOn_167 ?_
              refine v_ishl hC dX4_wordOn_169 ?_
              rw [bShl_1 (by omega)]
              refine v_ior hC dX4_wordOn_170 ?_
              rw [bOr_n (by omega) (by have := two_lt k2; omega), husS]
              refine w_is3 hC dX4_wordOn_171 hN (by first | rfl | assumption) ?_
              refine w_inc5 hC dX4_wordOn_172 hN (by first | rfl | assumption) (ri_mk (by omega) (by omega)) ?_
              refine v_goto (tgt := 8) hC dX4_wordOn_175 rfl ?_
              refine w_dr6 ?_
              refine w_dr7 ?_
              refine w_dr8 ?_
              refine w_dr9 ?_
              exact ih8 _ (i + 1) (by omega) (by omega) (fun q hq => by rw [show q = i by omega, hug]; exact hkk.symm)
            · obtain ⟨k', rfl⟩ : ∃ k', t = k' + 1 := ⟨t - 1, by omega⟩
              have hk'n : k' < n := by omega
              rw [show (((k' + 1 : Nat)) : Int) - 1 = (k' : Int) by omega]
              obtain ⟨hx1, hx2, hx3, hx4⟩ := hhere k' hk'n
              refine v_sipush hC dX4_wordOn_32 (by decide) ?_
              refine w_il5 hC dX4_wordOn_35 ?_
              refine w_ic hC dX4_wordOn_37 rfl ?_
              refine w_iadd hC dX4_wordOn_38 (ri_mk (by omega) (by omega)) ?_
              refine w_imul hC dX4_wordOn_39 (ri_mk (by omega) (by omega)) ?_
              rw [show (256 : Int) * ((i : Int) + 1) = ((256 * (i + 1) : Nat) : Int) by omega]
              refine w_il3 hC dX4_wordOn_40 ?_
              refine w_ic hC dX4_wordOn_41 rfl ?_
              refine w_il6 hC dX4_wordOn_42 ?_
              refine v_ishl hC dX4_wordOn_44 ?_
              rw [bShl_1 (by omega)]
              refine v_ior hC dX4_wordOn_45 ?_
              rw [bOr_n (by omega) (by have := two_lt (show k' < 8 by omega); omega)]
              refine w_iadd hC dX4_wordOn_46 (ri_mk (by omega) (by omega)) ?_
              rw [show ((256 * (i + 1) : Nat) : Int) + ((u ||| 2 ^ k' : Nat) : Int) = ((256 * (i + 1) + (u ||| 2 ^ k') : Nat) : Int) by omega]
              refine w_is7 hC dX4_wordOn_47 hN (by first | rfl | assumption) ?_
              refine w_il3 hC dX4_wordOn_49 ?_
              refine w_il6 hC dX4_wordOn_50 ?_
              refine w_st2 hC st_X4_191 dX4_wordOn_52 rfl hN (d_has (by omega) (by omega) (fun g5 => ?_) (fun g5 => ?_))
              · refine v_if_ne (tgt := 89) hC dX4_wordOn_55 rfl (fun _ => ?_) (fun h => absurd h (by decide))
                refine w_ic hC dX4_wordOn_89 rfl ?_
                refine w_is8 hC dX4_wordOn_90 hN (by first | rfl | assumption) ?_
                refine w_il8 hC dX4_wordOn_92 ?_
                refine v_if_eq (tgt := 133) hC dX4_wordOn_94 rfl (fun _ => ?_) (fun h => absurd h (by decide))
                refine w_ic hC dX4_wordOn_133 rfl ?_
                refine w_is9 hC dX4_wordOn_134 hN (by first | rfl | assumption) ?_
                refine w_il8 hC dX4_wordOn_136 ?_
                refine v_if_eq (tgt := 155) hC dX4_wordOn_138 rfl (fun _ => ?_) (fun h => absurd h (by decide))
                refine w_il4 hC dX4_wordOn_155 ?_
                refine w_is4 hC dX4_wordOn_157 hN (by first | rfl | assumption) ?_
                refine w_inc6 hC dX4_wordOn_159 hN (by first | rfl | assumption) (ri_mk (by omega) (by omega)) ?_
                rw [show (k' : Int) + -1 = (k' : Int) - 1 by omega]
                refine v_goto (tgt := 27) hC dX4_wordOn_162 rfl ?_
                refine w_dr7 ?_
                refine w_dr8 ?_
                refine w_dr9 ?_
                first
                  | exact ih27 _ k' (by omega) (by omega) (fsD_f hwho (nw_1 g5))
                  | exact ih27 _ k' (by omega) (by omega) (fsD_f hwho (nw_2 (show ¬ _ from Int.not_lt.mpr h65)))
                  | exact ih27 _ k' (by omega) (by omega) (fsD_f hwho (nw_3 us2 g6))
                  | exact ih27 _ k' (by omega) (by omega) (fsD_t (by omega) (nw_6 hp0 hcoe h126))
                  | exact ih27 _ k' (by omega) (by omega) (fsD_t (by omega) (nw_5 hp0 h142))
                  | exact ih27 _ k' (by omega) (by omega) (fsD_f hwho (nw_4 hcoe h142 h126))
              · refine v_if_ne (tgt := 89) hC dX4_wordOn_55 rfl (fun h => absurd h (by decide)) (fun _ => ?_)
                refine w_al0 hC dX4_wordOn_58 ?_
                refine v_getR (off := 7) (j := 46) hC dX4_wordOn_59 fd_X4_33 rfl rfl rfl ?_
                refine w_il7 hC dX4_wordOn_62 ?_
                refine w_ialdk hC 1792 (256 * (i + 1) + (u ||| 2 ^ k')) dX4_wordOn_64 rfl rfl (by omega) (by omega) ?_
                rw [hx3]
                have hwq := wyN_q (F := fitF (w 40) (w 40 0)) (n := n) (m := m) (by omega) (show r ≤ 6 by omega) (u ||| 2 ^ k')
                refine v_if_le (tgt := 89) hC dX4_wordOn_65 rfl (fun h65 => ?_) (fun h65 => ?_)
                · refine w_ic hC dX4_wordOn_89 rfl ?_
                  refine w_is8 hC dX4_wordOn_90 hN (by first | rfl | assumption) ?_
                  refine w_il8 hC dX4_wordOn_92 ?_
                  refine v_if_eq (tgt := 133) hC dX4_wordOn_94 rfl (fun _ => ?_) (fun h => absurd h (by decide))
                  refine w_ic hC dX4_wordOn_133 rfl ?_
                  refine w_is9 hC dX4_wordOn_134 hN (by first | rfl | assumption) ?_
                  refine w_il8 hC dX4_wordOn_136 ?_
                  refine v_if_eq (tgt := 155) hC dX4_wordOn_138 rfl (fun _ => ?_) (fun h => absurd h (by decide))
                  refine w_il4 hC dX4_wordOn_155 ?_
                  refine w_is4 hC dX4_wordOn_157 hN (by first | rfl | assumption) ?_
                  refine w_inc6 hC dX4_wordOn_159 hN (by first | rfl | assumption) (ri_mk (by omega) (by omega)) ?_
                  rw [show (k' : Int) + -1 = (k' : Int) - 1 by omega]
                  refine v_goto (tgt := 27) hC dX4_wordOn_162 rfl ?_
                  refine w_dr7 ?_
                  refine w_dr8 ?_
                  refine w_dr9 ?_
                  first
                    | exact ih27 _ k' (by omega) (by omega) (fsD_f hwho (nw_1 g5))
                    | exact ih27 _ k' (by omega) (by omega) (fsD_f hwho (nw_2 (show ¬ _ from Int.not_lt.mpr h65)))
                    | exact ih27 _ k' (by omega) (by omega) (fsD_f hwho (nw_3 us2 g6))
                    | exact ih27 _ k' (by omega) (by omega) (fsD_t (by omega) (nw_6 hp0 hcoe h126))
                    | exact ih27 _ k' (by omega) (by omega) (fsD_t (by omega) (nw_5 hp0 h142))
                    | exact ih27 _ k' (by omega) (by omega) (fsD_f hwho (nw_4 hcoe h142 h126))
                · refine w_al0 hC dX4_wordOn_68 ?_
                  refine w_al0 hC dX4_wordOn_69 ?_
                  refine v_getR (off := 1) (j := 40) hC dX4_wordOn_70 fd_X4_7 rfl rfl rfl ?_
                  refine w_ic hC dX4_wordOn_73 rfl ?_
                  refine w_ialdk hC 127 (0) dX4_wordOn_74 rfl rfl (by omega) (by omega) ?_
                  refine w_il6 hC dX4_wordOn_75 ?_
                  refine w_il5 hC dX4_wordOn_77 ?_
                  refine w_vi3 hC vi_X4_168 rfl dX4_wordOn_79 rfl hN (d_isFit hA ⟨by omega, by omega⟩ ⟨by omega, by omega⟩ (fun g6 => ?_) (fun g6 => ?_))
                  · refine v_if_eq (tgt := 89) hC dX4_wordOn_82 rfl (fun h => absurd h (by decide)) (fun _ => ?_)
                    refine w_ic hC dX4_wordOn_85 rfl ?_
                    refine v_goto (tgt := 90) hC dX4_wordOn_86 rfl ?_
                    refine w_is8 hC dX4_wordOn_90 hN (by first | rfl | assumption) ?_
                    refine w_il8 hC dX4_wordOn_92 ?_
                    refine v_if_eq (tgt := 133) hC dX4_wordOn_94 rfl (fun h => absurd h (by decide)) (fun _ => ?_)
                    refine w_al0 hC dX4_wordOn_97 ?_
                    refine w_il6 hC dX4_wordOn_98 ?_
                    refine w_il5 hC dX4_wordOn_100 ?_
                    have hp0 : u.testBit k' = false ∧ 0 < wyN (fitF (w 40) (w 40 0)) n m r (u ||| 2 ^ k') ∧ fitF (w 40) (w 40 0) k' (pcN u) = true := ⟨g5, by omega, by rw [us2]; exact fitF_t.mpr g6⟩
                    have hcoe : coF (w 40) 1 k' (pcN u) = csB (w 40) k' i := by rw [us2]; rfl
                    refine w_vi2 hC vi_X4_187 rfl dX4_wordOn_102 rfl hN (d_cost hA (by omega) ⟨by omega, by omega⟩ ?_)
                    have hcq := csB_q hA (n := (k' : Int)) (j := (i : Int)) (by omega) ⟨by omega, by omega⟩
                    refine w_al0 hC dX4_wordOn_105 ?_
                    refine v_getR (off := 8) (j := 47) hC dX4_wordOn_106 fd_X4_36 rfl rfl rfl ?_
                    refine w_il7 hC dX4_wordOn_109 ?_
                    refine w_ialdk hC 1792 (256 * (i + 1) + (u ||| 2 ^ k')) dX4_wordOn_111 rfl rfl (by omega) (by omega) ?_
                    rw [hx4]
                    have hlc := (ls_cm (F := fitF (w 40) (w 40 0)) (C := coF (w 40) 1) (n := n) (m := m) (by omega) (by omega) (fun k j p q => coF_r hA h3 h1 1 p q) r (u ||| 2 ^ k') (by omega)).resolve_left (fun z => by omega)
                    refine w_iadd hC dX4_wordOn_112 (ri_mk (by omega) (by omega)) ?_
                    refine w_al0 hC dX4_wordOn_113 ?_
                    refine v_getR (off := 8) (j := 47) hC dX4_wordOn_114 fd_X4_36 rfl rfl rfl ?_
                    refine v_sipush hC dX4_wordOn_117 (by decide) ?_
                    refine w_il5 hC dX4_wordOn_120 ?_
                    refine w_imul hC dX4_wordOn_122 (ri_mk (by omega) (by omega)) ?_
                    rw [show (256 : Int) * (i : Int) = ((256 * i : Nat) : Int) by omega]
                    refine w_il3 hC dX4_wordOn_123 ?_
                    refine w_iadd hC dX4_wordOn_124 (ri_mk (by omega) (by omega)) ?_
                    rw [show ((256 * i : Nat) : Int) + (u : Int) = ((256 * i + u : Nat) : Int) by omega]
                    refine w_ialdk hC 1792 (256 * i + u) dX4_wordOn_125 rfl rfl (by omega) (by omega) ?_
                    rw [htu.2]
                    refine v_ic_ne (tgt := 133) hC dX4_wordOn_126 rfl (fun h126 => ?_) (fun h126 => ?_)
                    · refine w_ic hC dX4_wordOn_133 rfl ?_
                      refine w_is9 hC dX4_wordOn_134 hN (by first | rfl | assumption) ?_
                      refine w_il8 hC dX4_wordOn_136 ?_
                      refine v_if_eq (tgt := 155) hC dX4_wordOn_138 rfl (fun h => absurd h (by decide)) (fun _ => ?_)
                      refine w_il2 hC dX4_wordOn_141 ?_
                      refine v_if_eq (tgt := 150) hC dX4_wordOn_142 rfl (fun h142 => ?_) (fun h142 => ?_)
                      · refine w_il6 hC dX4_wordOn_150 ?_
                        refine v_goto (tgt := 157) hC dX4_wordOn_152 rfl ?_
                        refine w_is4 hC dX4_wordOn_157 hN (by first | rfl | assumption) ?_
                        refine w_inc6 hC dX4_wordOn_159 hN (by first | rfl | assumption) (ri_mk (by omega) (by omega)) ?_
                        rw [show (k' : Int) + -1 = (k' : Int) - 1 by omega]
                        refine v_goto (tgt := 27) hC dX4_wordOn_162 rfl ?_
                        refine w_dr7 ?_
                        refine w_dr8 ?_
                        refine w_dr9 ?_
                        first
                          | exact ih27 _ k' (by omega) (by omega) (fsD_f hwho (nw_1 g5))
                          | exact ih27 _ k' (by omega) (by omega) (fsD_f hwho (nw_2 (show ¬ _ from Int.not_lt.mpr h65)))
                          | exact ih27 _ k' (by omega) (by omega) (fsD_f hwho (nw_3 us2 g6))
                          | exact ih27 _ k' (by omega) (by omega) (fsD_t (by omega) (nw_6 hp0 hcoe h126))
                          | exact ih27 _ k' (by omega) (by omega) (fsD_t (by omega) (nw_5 hp0 h142))
                          | exact ih27 _ k' (by omega) (by omega) (fsD_f hwho (nw_4 hcoe h142 h126))
                      · refine w_il9 hC dX4_wordOn_145 ?_
                        refine v_if_eq (tgt := 155) hC dX4_wordOn_147 rfl (fun _ => ?_) (fun h => absurd h (by decide))
                        refine w_il4 hC dX4_wordOn_155 ?_
                        refine w_is4 hC dX4_wordOn_157 hN (by first | rfl | assumption) ?_
                        refine w_inc6 hC dX4_wordOn_159 hN (by first | rfl | assumption) (ri_mk (by omega) (by omega)) ?_
                        rw [show (k' : Int) + -1 = (k' : Int) - 1 by omega]
                        refine v_goto (tgt := 27) hC dX4_wordOn_162 rfl ?_
                        refine w_dr7 ?_
                        refine w_dr8 ?_
                        refine w_dr9 ?_
                        first
                          | exact ih27 _ k' (by omega) (by omega) (fsD_f hwho (nw_1 g5))
                          | exact ih27 _ k' (by omega) (by omega) (fsD_f hwho (nw_2 (show ¬ _ from Int.not_lt.mpr h65)))
                          | exact ih27 _ k' (by omega) (by omega) (fsD_f hwho (nw_3 us2 g6))
                          | exact ih27 _ k' (by omega) (by omega) (fsD_t (by omega) (nw_6 hp0 hcoe h126))
                          | exact ih27 _ k' (by omega) (by omega) (fsD_t (by omega) (nw_5 hp0 h142))
                          | exact ih27 _ k' (by omega) (by omega) (fsD_f hwho (nw_4 hcoe h142 h126))
                    · refine w_ic hC dX4_wordOn_129 rfl ?_
                      refine v_goto (tgt := 134) hC dX4_wordOn_130 rfl ?_
                      refine w_is9 hC dX4_wordOn_134 hN (by first | rfl | assumption) ?_
                      refine w_il8 hC dX4_wordOn_136 ?_
                      refine v_if_eq (tgt := 155) hC dX4_wordOn_138 rfl (fun h => absurd h (by decide)) (fun _ => ?_)
                      refine w_il2 hC dX4_wordOn_141 ?_
                      refine v_if_eq (tgt := 150) hC dX4_wordOn_142 rfl (fun h142 => ?_) (fun h142 => ?_)
                      · refine w_il6 hC dX4_wordOn_150 ?_
                        refine v_goto (tgt := 157) hC dX4_wordOn_152 rfl ?_
                        refine w_is4 hC dX4_wordOn_157 hN (by first | rfl | assumption) ?_
                        refine w_inc6 hC dX4_wordOn_159 hN (by first | rfl | assumption) (ri_mk (by omega) (by omega)) ?_
                        rw [show (k' : Int) + -1 = (k' : Int) - 1 by omega]
                        refine v_goto (tgt := 27) hC dX4_wordOn_162 rfl ?_
                        refine w_dr7 ?_
                        refine w_dr8 ?_
                        refine w_dr9 ?_
                        first
                          | exact ih27 _ k' (by omega) (by omega) (fsD_f hwho (nw_1 g5))
                          | exact ih27 _ k' (by omega) (by omega) (fsD_f hwho (nw_2 (show ¬ _ from Int.not_lt.mpr h65)))
                          | exact ih27 _ k' (by omega) (by omega) (fsD_f hwho (nw_3 us2 g6))
                          | exact ih27 _ k' (by omega) (by omega) (fsD_t (by omega) (nw_6 hp0 hcoe h126))
                          | exact ih27 _ k' (by omega) (by omega) (fsD_t (by omega) (nw_5 hp0 h142))
                          | exact ih27 _ k' (by omega) (by omega) (fsD_f hwho (nw_4 hcoe h142 h126))
                      · refine w_il9 hC dX4_wordOn_145 ?_
                        refine v_if_eq (tgt := 155) hC dX4_wordOn_147 rfl (fun h => absurd h (by decide)) (fun _ => ?_)
                        refine w_il6 hC dX4_wordOn_150 ?_
                        refine v_goto (tgt := 157) hC dX4_wordOn_152 rfl ?_
                        refine w_is4 hC dX4_wordOn_157 hN (by first | rfl | assumption) ?_
                        refine w_inc6 hC dX4_wordOn_159 hN (by first | rfl | assumption) (ri_mk (by omega) (by omega)) ?_
                        rw [show (k' : Int) + -1 = (k' : Int) - 1 by omega]
                        refine v_goto (tgt := 27) hC dX4_wordOn_162 rfl ?_
                        refine w_dr7 ?_
                        refine w_dr8 ?_
                        refine w_dr9 ?_
                        first
                          | exact ih27 _ k' (by omega) (by omega) (fsD_f hwho (nw_1 g5))
                          | exact ih27 _ k' (by omega) (by omega) (fsD_f hwho (nw_2 (show ¬ _ from Int.not_lt.mpr h65)))
                          | exact ih27 _ k' (by omega) (by omega) (fsD_f hwho (nw_3 us2 g6))
                          | exact ih27 _ k' (by omega) (by omega) (fsD_t (by omega) (nw_6 hp0 hcoe h126))
                          | exact ih27 _ k' (by omega) (by omega) (fsD_t (by omega) (nw_5 hp0 h142))
                          | exact ih27 _ k' (by omega) (by omega) (fsD_f hwho (nw_4 hcoe h142 h126))
                  · refine v_if_eq (tgt := 89) hC dX4_wordOn_82 rfl (fun _ => ?_) (fun h => absurd h (by decide))
                    refine w_ic hC dX4_wordOn_89 rfl ?_
                    refine w_is8 hC dX4_wordOn_90 hN (by first | rfl | assumption) ?_
                    refine w_il8 hC dX4_wordOn_92 ?_
                    refine v_if_eq (tgt := 133) hC dX4_wordOn_94 rfl (fun _ => ?_) (fun h => absurd h (by decide))
                    refine w_ic hC dX4_wordOn_133 rfl ?_
                    refine w_is9 hC dX4_wordOn_134 hN (by first | rfl | assumption) ?_
                    refine w_il8 hC dX4_wordOn_136 ?_
                    refine v_if_eq (tgt := 155) hC dX4_wordOn_138 rfl (fun _ => ?_) (fun h => absurd h (by decide))
                    refine w_il4 hC dX4_wordOn_155 ?_
                    refine w_is4 hC dX4_wordOn_157 hN (by first | rfl | assumption) ?_
                    refine w_inc6 hC dX4_wordOn_159 hN (by first | rfl | assumption) (ri_mk (by omega) (by omega)) ?_
                    rw [show (k' : Int) + -1 = (k' : Int) - 1 by omega]
                    refine v_goto (tgt := 27) hC dX4_wordOn_162 rfl ?_
                    refine w_dr7 ?_
                    refine w_dr8 ?_
                    refine w_dr9 ?_
                    first
                      | exact ih27 _ k' (by omega) (by omega) (fsD_f hwho (nw_1 g5))
                      | exact ih27 _ k' (by omega) (by omega) (fsD_f hwho (nw_2 (show ¬ _ from Int.not_lt.mpr h65)))
                      | exact ih27 _ k' (by omega) (by omega) (fsD_f hwho (nw_3 us2 g6))
                      | exact ih27 _ k' (by omega) (by omega) (fsD_t (by omega) (nw_6 hp0 hcoe h126))
                      | exact ih27 _ k' (by omega) (by omega) (fsD_t (by omega) (nw_5 hp0 h142))
                      | exact ih27 _ k' (by omega) (by omega) (fsD_f hwho (nw_4 hcoe h142 h126))
        exact lp27 (n + 1) (-1) n (by omega) (Nat.le_refl _) (fsD_n _ _)
  exact lp8 (l + 2) (-1) 0 (by omega) (by omega) (fun q hq => by omega)

theorem d_first {d : Nat} {w : Wd} {Q : Option MV → Wd → Prop} (hA : AOK (w 40)) {j : Int} (hb0 : ¬ (0 ≤ j ∧ j < w 40 1) → Q (some (.inl (-2))) (cI w 44 0)) (hk0 : 0 ≤ j ∧ j < w 40 1 → wyA (w 40) (fitF (w 40) (w 40 0)) = 0 → ∀ w2, frW w w2 → Q (some (.inl (-1))) w2) (hk1 : 0 ≤ j ∧ j < w 40 1 → 0 < wyA (w 40) (fitF (w 40) (w 40 0)) → ∀ w2, frW w w2 → Q (some (.inl (nxL (fitF (w 40) (w 40 0)) (coF (w 40) 0) (w 40 3).toNat (w 40 1).toNat (uSL (fitF (w 40) (w 40 0)) (coF (w 40) 0) (w 40 3).toNat (w 40 1).toNat j.toNat)))) w2) : Call (d + 6) mX4_first [vR 39, vI j] w Q := by
  have am := hA.m
  have an := hA.n
  have af := hA.f
  have anc := hA.nc
  have amc := hA.mc
  have auc := hA.uc
  refine call_in (ls := [some (vR 39), some (vI j)]) (by decide +kernel) rfl (Nat.le_of_ble_eq_true rfl) (fun κ hC hR hN => ?_)
  have hC : ctxB κ RX4 cX4_first (d + 6) := hC
  have hN : mlx κ 2 := hN
  refine w_al0 hC dX4_first_0 ?_
  refine w_il1 hC dX4_first_1 ?_
  refine w_vi1 hC vi_X4_174 rfl dX4_first_2 rfl hN (d_isLine hA (fun g1 => ?_) (fun g1 => ?_))
  · refine v_if_ne (tgt := 13) hC dX4_first_5 rfl (fun _ => ?_) (fun h => absurd h (by decide))
    refine w_al0 hC dX4_first_13 ?_
    refine w_al0 hC dX4_first_14 ?_
    refine v_getR (off := 1) (j := 40) hC dX4_first_15 fd_X4_7 rfl rfl rfl ?_
    refine w_ic hC dX4_first_18 rfl ?_
    refine w_ialdk hC 127 (0) dX4_first_19 rfl rfl (by omega) (by omega) ?_
    refine w_ic hC dX4_first_20 rfl ?_
    refine w_vi2 hC vi_X4_198 rfl dX4_first_21 rfl hN (d_layWays hA (fun w2 t2 o2 => ?_))
    rw [wfF_0] at t2
    have a2 := wyT_at t2 (u := 0) (by decide)
    have hwyA : wyA (w 40) (fitF (w 40) (w 40 0)) = wyN (fitF (w 40) (w 40 0)) (w 40 3).toNat (w 40 1).toNat (w 40 1).toNat 0 := rfl
    have e40 : w2 40 = w 40 := funext (fun q => o2 40 q (by decide) (by decide))
    have hA2 : AOK (w2 40) := by rw [e40]; exact hA
    rw [← hwyA] at a2
    have hwr := wyA_r hA (fitF (w 40) (w 40 0))
    refine w_al0 hC dX4_first_24 ?_
    refine v_getR (off := 7) (j := 46) hC dX4_first_25 fd_X4_33 rfl rfl rfl ?_
    refine w_ic hC dX4_first_28 rfl ?_
    refine w_ialdk hC 1792 (0) dX4_first_29 rfl rfl (by omega) (by omega) ?_
    rw [a2.1]
    refine v_if_ne (tgt := 37) hC dX4_first_30 rfl (fun h30 => ?_) (fun h30 => ?_)
    · refine w_al0 hC dX4_first_37 ?_
      refine w_il1 hC dX4_first_38 ?_
      refine w_ic hC dX4_first_39 rfl ?_
      obtain ⟨jn, rfl⟩ := Int.eq_ofNat_of_zero_le g1.1
      refine w_vi2 hC vi_X4_202 rfl dX4_first_40 rfl hN (d_wordOn hA2 (c := 0) (l := jn) (by rw [e40]; exact g1.2) (by decide) (by rw [e40]; exact t2) (by rw [e40]; omega) ?_)
      rw [e40]
      refine v_iret hC hR dX4_first_43 ?_
      first | exact hk0 g1 h30 _ o2 | exact hk1 g1 (by omega) _ o2
    · refine w_ic hC dX4_first_33 rfl ?_
      refine v_goto (tgt := 43) hC dX4_first_34 rfl ?_
      refine v_iret hC hR dX4_first_43 ?_
      first | exact hk0 g1 h30 _ o2 | exact hk1 g1 (by omega) _ o2
  · refine v_if_ne (tgt := 13) hC dX4_first_5 rfl (fun h => absurd h (by decide)) (fun _ => ?_)
    refine w_al0 hC dX4_first_8 ?_
    refine w_vi0 hC vi_X4_60 rfl dX4_first_9 rfl hN (d_bad ?_)
    refine v_iret hC hR dX4_first_12 ?_
    exact hb0 g1

theorem d_cheap {d : Nat} {w : Wd} {Q : Option MV → Wd → Prop} (hA : AOK (w 40)) {j : Int} (hb0 : j ≠ -1 ∧ ¬ (0 ≤ j ∧ j < w 40 1) → Q (some (.inl (-10))) (cI w 44 0)) (hk0 : ¬ (j ≠ -1 ∧ ¬ (0 ≤ j ∧ j < w 40 1)) → wyA (w 40) (fitF (w 40) (w 40 0)) = 0 → ∀ w2, frW w w2 → Q (some (.inl (-6))) w2) (hk1 : j = -1 → 0 < wyA (w 40) (fitF (w 40) (w 40 0)) → ∀ w2, frW w w2 → Q (some (.inl (cmN (fitF (w 40) (w 40 0)) (coF (w 40) 1) (w 40 3).toNat (w 40 1).toNat (w 40 1).toNat 0))) w2) (hk2 : 0 ≤ j ∧ j < w 40 1 → 0 < wyA (w 40) (fitF (w 40) (w 40 0)) → ∀ w2, frW w w2 → Q (some (.inl (nxL (fitF (w 40) (w 40 0)) (coF (w 40) 1) (w 40 3).toNat (w 40 1).toNat (uSL (fitF (w 40) (w 40 0)) (coF (w 40) 1) (w 40 3).toNat (w 40 1).toNat j.toNat)))) w2) : Call (d + 6) mX4_cheap [vR 39, vI j] w Q := by
  have am := hA.m
  have an := hA.n
  have af := hA.f
  have anc := hA.nc
  have amc := hA.mc
  have auc := hA.uc
  refine call_in (ls := [some (vR 39), some (vI j)]) (by decide +kernel) rfl (Nat.le_of_ble_eq_true rfl) (fun κ hC hR hN => ?_)
  have hC : ctxB κ RX4 cX4_cheap (d + 6) := hC
  have hN : mlx κ 2 := hN
  have tl : (¬ (j ≠ -1 ∧ ¬ (0 ≤ j ∧ j < w 40 1))) → VV κ 20 [some (vR 39), some (vI j)] [] w := by
    intro  hnb
    refine w_al0 hC dX4_cheap_20 ?_
    refine w_al0 hC dX4_cheap_21 ?_
    refine v_getR (off := 1) (j := 40) hC dX4_cheap_22 fd_X4_7 rfl rfl rfl ?_
    refine w_ic hC dX4_cheap_25 rfl ?_
    refine w_ialdk hC 127 (0) dX4_cheap_26 rfl rfl (by omega) (by omega) ?_
    refine w_ic hC dX4_cheap_27 rfl ?_
    refine w_vi2 hC vi_X4_198 rfl dX4_cheap_28 rfl hN (d_layWays hA (fun w2 t2 o2 => ?_))
    rw [wfF_0] at t2
    have a2 := wyT_at t2 (u := 0) (by decide)
    have hwyA : wyA (w 40) (fitF (w 40) (w 40 0)) = wyN (fitF (w 40) (w 40 0)) (w 40 3).toNat (w 40 1).toNat (w 40 1).toNat 0 := rfl
    have e40 : w2 40 = w 40 := funext (fun q => o2 40 q (by decide) (by decide))
    have hA2 : AOK (w2 40) := by rw [e40]; exact hA
    rw [← hwyA] at a2
    have hwr := wyA_r hA (fitF (w 40) (w 40 0))
    refine w_al0 hC dX4_cheap_31 ?_
    refine v_getR (off := 7) (j := 46) hC dX4_cheap_32 fd_X4_33 rfl rfl rfl ?_
    refine w_ic hC dX4_cheap_35 rfl ?_
    refine w_ialdk hC 1792 (0) dX4_cheap_36 rfl rfl (by omega) (by omega) ?_
    rw [a2.1]
    refine v_if_ne (tgt := 43) hC dX4_cheap_37 rfl (fun h37 => ?_) (fun h37 => ?_)
    · refine w_il1 hC dX4_cheap_43 ?_
      refine w_ic hC dX4_cheap_44 rfl ?_
      refine v_ic_ne (tgt := 57) hC dX4_cheap_45 rfl (fun h45 => ?_) (fun h45 => ?_)
      · refine w_al0 hC dX4_cheap_57 ?_
        refine w_il1 hC dX4_cheap_58 ?_
        refine w_ic hC dX4_cheap_59 rfl ?_
        have g1 : 0 ≤ j ∧ j < w 40 1 := by omega
        obtain ⟨jn, rfl⟩ := Int.eq_ofNat_of_zero_le g1.1
        refine w_vi2 hC vi_X4_202 rfl dX4_cheap_60 rfl hN (d_wordOn hA2 (c := 1) (l := jn) (by rw [e40]; exact g1.2) (by decide) (by rw [e40]; exact t2) (by rw [e40]; omega) ?_)
        rw [e40]
        refine v_iret hC hR dX4_cheap_63 ?_
        first | exact hk1 h45 (by omega) _ o2 | exact hk2 (by omega) (by omega) _ o2
      · refine w_al0 hC dX4_cheap_48 ?_
        refine v_getR (off := 8) (j := 47) hC dX4_cheap_49 fd_X4_36 rfl rfl rfl ?_
        refine w_ic hC dX4_cheap_52 rfl ?_
        refine w_ialdk hC 1792 (0) dX4_cheap_53 rfl rfl (by omega) (by omega) ?_
        rw [a2.2]
        refine v_goto (tgt := 63) hC dX4_cheap_54 rfl ?_
        refine v_iret hC hR dX4_cheap_63 ?_
        first | exact hk1 h45 (by omega) _ o2 | exact hk2 (by omega) (by omega) _ o2
    · refine v_bipush hC dX4_cheap_40 (by decide) ?_
      refine v_iret hC hR dX4_cheap_42 ?_
      exact hk0 hnb h37 _ o2
  refine w_il1 hC dX4_cheap_0 ?_
  refine w_ic hC dX4_cheap_1 rfl ?_
  refine v_ic_eq (tgt := 20) hC dX4_cheap_2 rfl (fun h2 => ?_) (fun h2 => ?_)
  · exact tl (by omega)
  · refine w_al0 hC dX4_cheap_5 ?_
    refine w_il1 hC dX4_cheap_6 ?_
    refine w_vi1 hC vi_X4_174 rfl dX4_cheap_7 rfl hN (d_isLine hA (fun g1 => ?_) (fun g1 => ?_))
    · refine v_if_ne (tgt := 20) hC dX4_cheap_10 rfl (fun _ => ?_) (fun h => absurd h (by decide))
      exact tl (by omega)
    · refine v_if_ne (tgt := 20) hC dX4_cheap_10 rfl (fun h => absurd h (by decide)) (fun _ => ?_)
      refine w_al0 hC dX4_cheap_13 ?_
      refine v_bipush hC dX4_cheap_14 (by decide) ?_
      refine w_vi1 hC vi_X4_49 rfl dX4_cheap_16 rfl hN (d_badBy ?_)
      refine v_iret hC hR dX4_cheap_19 ?_
      exact hb0 ⟨by omega, g1⟩
