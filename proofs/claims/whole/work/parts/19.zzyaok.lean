/-! in order it stays -/
theorem LOK_congr {m n : Int} {f g : Nat → Int} (h : ∀ j, j < 6 → g j = f j) (hf : LOK m n f) : LOK m n g :=
  ⟨fun j hj => by rw [h j hj]; exact hf.1 j hj, fun i j hi hj => by rw [h i hi, h j hj]; exact hf.2 i j hi hj⟩
theorem LOK_n {m n n2 : Int} {f : Nat → Int} (h : n ≤ n2) (hf : LOK m n f) : LOK m n2 f :=
  ⟨fun j hj => by have := hf.1 j hj; exact ⟨this.1, by omega, this.2.2⟩, hf.2⟩
theorem AOK.cg {a b : Nat → Int} (hA : AOK a) (u : ∀ q, q < 127 → b q = a q) : AOK b := by
  have am := hA.m
  have an := hA.n
  have anc := hA.nc
  have amc := hA.mc
  have auc := hA.uc
  have e3 := u 3 (by omega)
  have e34 := u 34 (by omega)
  have e53 := u 53 (by omega)
  have e78 := u 78 (by omega)
  refine ⟨by rw [u 0 (by omega)]; exact hA.f, by rw [u 1 (by omega)]; exact hA.m, by rw [u 1 (by omega), u 2 (by omega)]; exact hA.2.2.1, by rw [e3]; exact hA.n, fun k hk => ?_, ?_, by rw [e34]; exact anc, fun k hk => ?_, by rw [e53]; exact amc, fun k hk => ?_, by rw [e78]; exact auc, fun k hk => ?_⟩
  · rw [u _ (by omega), u _ (by omega), u _ (by omega)]; exact hA.wd (by omega)
  · rw [u 1 (by omega), e3]; exact LOK_congr (fun j hj => u _ (by omega)) hA.ln
  · rw [u _ (by omega), u _ (by omega), u _ (by omega)]; exact hA.no (by omega)
  · rw [u _ (by omega), u _ (by omega), u _ (by omega), u _ (by omega)]; exact hA.ma (by omega)
  · rw [u 1 (by omega), e3]; exact LOK_congr (fun j hj => u _ (by omega)) (hA.un (by omega))
theorem VX.cg {w : Wd} {i : Nat} {a b : Nat → Int} (hv : VX w i a) (hA : AOK a) (u : ∀ q, q < 127 → b q = a q) : VX w i b := by
  have an := hA.n
  have anc := hA.nc
  have amc := hA.mc
  have auc := hA.uc
  obtain ⟨⟨x0, x1, x2, x3, x4, x5, x6⟩, xw, xl, xn, xm, xu⟩ := hv
  have e3 := u 3 (by omega)
  have e34 := u 34 (by omega)
  have e53 := u 53 (by omega)
  have e78 := u 78 (by omega)
  refine ⟨⟨by rw [u 0 (by omega)]; exact x0, by rw [u 1 (by omega)]; exact x1, by rw [u 2 (by omega)]; exact x2, by rw [e3]; exact x3, by rw [e34]; exact x4, by rw [e53]; exact x5, by rw [e78]; exact x6⟩, fun k hk => ?_, fun j hj => ?_, fun k hk => ?_, fun k hk => ?_, fun k hk => ?_⟩
  · rw [u _ (by omega), u _ (by omega), u _ (by omega)]; exact xw k (by omega)
  · rw [u _ (by omega)]; exact xl j hj
  · rw [u _ (by omega)]; exact xn k (by omega)
  · rw [u _ (by omega)]; exact xm k (by omega)
  · rw [u _ (by omega)]; exact xu k (by omega)

theorem ok_un0 {a : Nat → Int} (hA : AOK a)  : AOK (ua a 78 0) := by
  have am := hA.m
  have an := hA.n
  have anc := hA.nc
  have amc := hA.mc
  have auc := hA.uc
  have u : ∀ q : Nat, q ≠ 78 → (ua a 78 0) q = a q := fun q h => by unfold ua; rw [if_neg h]
  refine ⟨?_, ?_, ?_, ?_, ?_, ?_, ?_, ?_, ?_, ?_, ?_, ?_⟩
  · rw [u 0 (by omega)]; exact hA.f
  · rw [u 1 (by omega)]; exact hA.m
  · rw [u 1 (by omega), u 2 (by omega)]; exact hA.2.2.1
  · rw [u 3 (by omega)]; exact hA.n
  · intro k hk
    rw [u 3 (by omega)] at hk
    rw [u _ (by omega), u _ (by omega), u _ (by omega)]; exact hA.wd hk
  · rw [u 1 (by omega), u 3 (by omega)]; exact LOK_congr (fun j hj => u _ (by omega)) hA.ln
  · rw [u 34 (by omega)]; exact hA.nc
  · intro k hk
    rw [u 34 (by omega)] at hk
    rw [u _ (by omega), u _ (by omega), u _ (by omega)]; exact hA.no hk
  · rw [u 53 (by omega)]; exact hA.mc
  · intro k hk
    rw [u 53 (by omega)] at hk
    rw [u _ (by omega), u _ (by omega), u _ (by omega), u _ (by omega)]; exact hA.ma hk
  · show 0 ≤ (0 : Int) ∧ (0 : Int) ≤ 8; decide
  · intro k hk
    rw [show ua a 78 0 78 = 0 from rfl] at hk; omega

theorem ok_form {a : Nat → Int} (hA : AOK a) {f : Int} (hf : 0 ≤ f ∧ f ≤ 5) : AOK (ua (ua a 0 f) 78 0) := by
  have am := hA.m
  have an := hA.n
  have anc := hA.nc
  have amc := hA.mc
  have auc := hA.uc
  have u : ∀ q : Nat, q ≠ 0 ∧ q ≠ 78 → (ua (ua a 0 f) 78 0) q = a q := fun q h => by unfold ua; rw [if_neg h.2, if_neg h.1]
  refine ⟨?_, ?_, ?_, ?_, ?_, ?_, ?_, ?_, ?_, ?_, ?_, ?_⟩
  · exact hf
  · rw [u 1 (by omega)]; exact hA.m
  · rw [u 1 (by omega), u 2 (by omega)]; exact hA.2.2.1
  · rw [u 3 (by omega)]; exact hA.n
  · intro k hk
    rw [u 3 (by omega)] at hk
    rw [u _ (by omega), u _ (by omega), u _ (by omega)]; exact hA.wd hk
  · rw [u 1 (by omega), u 3 (by omega)]; exact LOK_congr (fun j hj => u _ (by omega)) hA.ln
  · rw [u 34 (by omega)]; exact hA.nc
  · intro k hk
    rw [u 34 (by omega)] at hk
    rw [u _ (by omega), u _ (by omega), u _ (by omega)]; exact hA.no hk
  · rw [u 53 (by omega)]; exact hA.mc
  · intro k hk
    rw [u 53 (by omega)] at hk
    rw [u _ (by omega), u _ (by omega), u _ (by omega), u _ (by omega)]; exact hA.ma hk
  · show 0 ≤ (0 : Int) ∧ (0 : Int) ≤ 8; decide
  · intro k hk
    rw [show ua (ua a 0 f) 78 0 78 = 0 from rfl] at hk; omega

theorem ok_no0 {a : Nat → Int} (hA : AOK a)  : AOK (ua a 34 0) := by
  have am := hA.m
  have an := hA.n
  have anc := hA.nc
  have amc := hA.mc
  have auc := hA.uc
  have u : ∀ q : Nat, q ≠ 34 → (ua a 34 0) q = a q := fun q h => by unfold ua; rw [if_neg h]
  refine ⟨?_, ?_, ?_, ?_, ?_, ?_, ?_, ?_, ?_, ?_, ?_, ?_⟩
  · rw [u 0 (by omega)]; exact hA.f
  · rw [u 1 (by omega)]; exact hA.m
  · rw [u 1 (by omega), u 2 (by omega)]; exact hA.2.2.1
  · rw [u 3 (by omega)]; exact hA.n
  · intro k hk
    rw [u 3 (by omega)] at hk
    rw [u _ (by omega), u _ (by omega), u _ (by omega)]; exact hA.wd hk
  · rw [u 1 (by omega), u 3 (by omega)]; exact LOK_congr (fun j hj => u _ (by omega)) hA.ln
  · show 0 ≤ (0 : Int) ∧ (0 : Int) ≤ 6; decide
  · intro k hk
    rw [show ua a 34 0 34 = 0 from rfl] at hk; omega
  · rw [u 53 (by omega)]; exact hA.mc
  · intro k hk
    rw [u 53 (by omega)] at hk
    rw [u _ (by omega), u _ (by omega), u _ (by omega), u _ (by omega)]; exact hA.ma hk
  · rw [u 78 (by omega)]; exact hA.uc
  · intro k hk
    rw [u 78 (by omega)] at hk
    rw [u 1 (by omega), u 3 (by omega)]; exact LOK_congr (fun j hj => u _ (by omega)) (hA.un hk)

theorem ok_ma0 {a : Nat → Int} (hA : AOK a)  : AOK (ua a 53 0) := by
  have am := hA.m
  have an := hA.n
  have anc := hA.nc
  have amc := hA.mc
  have auc := hA.uc
  have u : ∀ q : Nat, q ≠ 53 → (ua a 53 0) q = a q := fun q h => by unfold ua; rw [if_neg h]
  refine ⟨?_, ?_, ?_, ?_, ?_, ?_, ?_, ?_, ?_, ?_, ?_, ?_⟩
  · rw [u 0 (by omega)]; exact hA.f
  · rw [u 1 (by omega)]; exact hA.m
  · rw [u 1 (by omega), u 2 (by omega)]; exact hA.2.2.1
  · rw [u 3 (by omega)]; exact hA.n
  · intro k hk
    rw [u 3 (by omega)] at hk
    rw [u _ (by omega), u _ (by omega), u _ (by omega)]; exact hA.wd hk
  · rw [u 1 (by omega), u 3 (by omega)]; exact LOK_congr (fun j hj => u _ (by omega)) hA.ln
  · rw [u 34 (by omega)]; exact hA.nc
  · intro k hk
    rw [u 34 (by omega)] at hk
    rw [u _ (by omega), u _ (by omega), u _ (by omega)]; exact hA.no hk
  · show 0 ≤ (0 : Int) ∧ (0 : Int) ≤ 6; decide
  · intro k hk
    rw [show ua a 53 0 53 = 0 from rfl] at hk; omega
  · rw [u 78 (by omega)]; exact hA.uc
  · intro k hk
    rw [u 78 (by omega)] at hk
    rw [u 1 (by omega), u 3 (by omega)]; exact LOK_congr (fun j hj => u _ (by omega)) (hA.un hk)

theorem ua_ln {a : Nat → Int} {j : Nat} {z : Int} (i : Nat) : ua a (28 + j) z (28 + i) = ua (fun i => a (28 + i)) j z i := by
  unfold ua
  by_cases q : i = j
  · rw [if_pos (by omega), if_pos q]
  · rw [if_neg (by omega), if_neg q]

theorem ok_line {a : Nat → Int} (hA : AOK a) {j : Nat} {z : Int} (hj : (j : Int) < a 1) (hz : z = -1 ∨ (0 ≤ z ∧ z < a 3 ∧ ∀ i, i < 6 → i ≠ j → a (28 + i) ≠ z)) : AOK (ua a (28 + j) z) := by
  have am := hA.m
  have an := hA.n
  have anc := hA.nc
  have amc := hA.mc
  have auc := hA.uc
  have u : ∀ q : Nat, q ≠ 28 + j → (ua a (28 + j) z) q = a q := fun q h => by unfold ua; rw [if_neg h]
  refine ⟨?_, ?_, ?_, ?_, ?_, ?_, ?_, ?_, ?_, ?_, ?_, ?_⟩
  · rw [u 0 (by omega)]; exact hA.f
  · rw [u 1 (by omega)]; exact hA.m
  · rw [u 1 (by omega), u 2 (by omega)]; exact hA.2.2.1
  · rw [u 3 (by omega)]; exact hA.n
  · intro k hk
    rw [u 3 (by omega)] at hk
    rw [u _ (by omega), u _ (by omega), u _ (by omega)]; exact hA.wd hk
  · rw [u 1 (by omega), u 3 (by omega)]
    exact LOK_congr (fun i hi => ua_ln i) (LOK_ev hA.ln am.2 hj hz an.1)
  · rw [u 34 (by omega)]; exact hA.nc
  · intro k hk
    rw [u 34 (by omega)] at hk
    rw [u _ (by omega), u _ (by omega), u _ (by omega)]; exact hA.no hk
  · rw [u 53 (by omega)]; exact hA.mc
  · intro k hk
    rw [u 53 (by omega)] at hk
    rw [u _ (by omega), u _ (by omega), u _ (by omega), u _ (by omega)]; exact hA.ma hk
  · rw [u 78 (by omega)]; exact hA.uc
  · intro k hk
    rw [u 78 (by omega)] at hk
    rw [u 1 (by omega), u 3 (by omega)]; exact LOK_congr (fun j hj => u _ (by omega)) (hA.un hk)

theorem ok_addW {a : Nat → Int} (hA : AOK a) {f n c : Int} (h8 : a 3 < 8) (hf : 0 ≤ f ∧ f ≤ 5) (hn : 3 ≤ n ∧ n ≤ 6) (hc : 0 ≤ c ∧ c < 10 ^ n.toNat) : AOK (sAddW a f n c) := by
  have am := hA.m
  have an := hA.n
  have anc := hA.nc
  have amc := hA.mc
  have auc := hA.uc
  have s3 : sAddW a f n c 3 = a 3 + 1 := rfl
  have s4 : sAddW a f n c (4 + (a 3).toNat) = f := by unfold sAddW ua; rw [if_neg (by omega), if_neg (by omega), if_neg (by omega), if_pos rfl]
  have s12 : sAddW a f n c (12 + (a 3).toNat) = n := by unfold sAddW ua; rw [if_neg (by omega), if_neg (by omega), if_pos rfl]
  have s20 : sAddW a f n c (20 + (a 3).toNat) = c := by unfold sAddW ua; rw [if_neg (by omega), if_pos rfl]
  have u : ∀ q : Nat, (q ≠ 3 ∧ q ≠ 4 + (a 3).toNat ∧ q ≠ 12 + (a 3).toNat ∧ q ≠ 20 + (a 3).toNat) → (sAddW a f n c) q = a q := fun q h => by unfold sAddW ua; rw [if_neg h.1, if_neg h.2.2.2, if_neg h.2.2.1, if_neg h.2.1]
  refine ⟨?_, ?_, ?_, ?_, ?_, ?_, ?_, ?_, ?_, ?_, ?_, ?_⟩
  · rw [u 0 (by omega)]; exact hA.f
  · rw [u 1 (by omega)]; exact hA.m
  · rw [u 1 (by omega), u 2 (by omega)]; exact hA.2.2.1
  · rw [s3]; omega
  · intro k hk
    rw [s3] at hk
    by_cases e : k = (a 3).toNat
    · rw [e, s4, s12, s20]
      exact ⟨hf, hn, hc⟩
    · rw [u _ (by omega), u _ (by omega), u _ (by omega)]; exact hA.wd (by omega)
  · rw [u 1 (by omega), s3]; exact LOK_n (by omega) (LOK_congr (fun j hj => u _ (by omega)) hA.ln)
  · rw [u 34 (by omega)]; exact hA.nc
  · intro k hk
    rw [u 34 (by omega)] at hk
    rw [u _ (by omega), u _ (by omega), u _ (by omega)]; exact hA.no hk
  · rw [u 53 (by omega)]; exact hA.mc
  · intro k hk
    rw [u 53 (by omega)] at hk
    rw [u _ (by omega), u _ (by omega), u _ (by omega), u _ (by omega)]; exact hA.ma hk
  · rw [u 78 (by omega)]; exact hA.uc
  · intro k hk
    rw [u 78 (by omega)] at hk
    rw [u 1 (by omega), s3]; exact LOK_n (by omega) (LOK_congr (fun j hj => u _ (by omega)) (hA.un hk))

theorem ok_drop {a : Nat → Int} (hA : AOK a) (h8 : a 78 = 8) : AOK (sDrop a) := by
  have am := hA.m
  have an := hA.n
  have anc := hA.nc
  have amc := hA.mc
  have auc := hA.uc
  have u : ∀ q : Nat, (q < 78 ∨ 121 ≤ q) → (sDrop a) q = a q := fun q h => by unfold sDrop; rw [if_neg (by omega), if_neg (by omega)]
  refine ⟨?_, ?_, ?_, ?_, ?_, ?_, ?_, ?_, ?_, ?_, ?_, ?_⟩
  · rw [u 0 (by omega)]; exact hA.f
  · rw [u 1 (by omega)]; exact hA.m
  · rw [u 1 (by omega), u 2 (by omega)]; exact hA.2.2.1
  · rw [u 3 (by omega)]; exact hA.n
  · intro k hk
    rw [u 3 (by omega)] at hk
    rw [u _ (by omega), u _ (by omega), u _ (by omega)]; exact hA.wd hk
  · rw [u 1 (by omega), u 3 (by omega)]; exact LOK_congr (fun j hj => u _ (by omega)) hA.ln
  · rw [u 34 (by omega)]; exact hA.nc
  · intro k hk
    rw [u 34 (by omega)] at hk
    rw [u _ (by omega), u _ (by omega), u _ (by omega)]; exact hA.no hk
  · rw [u 53 (by omega)]; exact hA.mc
  · intro k hk
    rw [u 53 (by omega)] at hk
    rw [u _ (by omega), u _ (by omega), u _ (by omega), u _ (by omega)]; exact hA.ma hk
  · show 0 ≤ (7 : Int) ∧ (7 : Int) ≤ 8; decide
  · intro k hk
    rw [show sDrop a 78 = 7 from rfl] at hk
    rw [u 1 (by omega), u 3 (by omega)]
    refine LOK_congr (fun j hj => ?_) (hA.un (k := k + 1) (by omega))
    unfold sDrop
    rw [if_neg (by omega), if_pos (by omega)]
    congr 1
    omega

theorem ok_keep1 {a : Nat → Int} (hA : AOK a) (h8 : a 78 < 8) : AOK (sKeep1 a) := by
  have am := hA.m
  have an := hA.n
  have anc := hA.nc
  have amc := hA.mc
  have auc := hA.uc
  have u : ∀ q : Nat, (q < 78 ∨ (79 ≤ q ∧ q < 79 + 6 * (a 78).toNat)) → (sKeep1 a) q = a q := fun q h => by unfold sKeep1; rw [if_neg (by omega), if_neg (by omega)]
  refine ⟨?_, ?_, ?_, ?_, ?_, ?_, ?_, ?_, ?_, ?_, ?_, ?_⟩
  · rw [u 0 (by omega)]; exact hA.f
  · rw [u 1 (by omega)]; exact hA.m
  · rw [u 1 (by omega), u 2 (by omega)]; exact hA.2.2.1
  · rw [u 3 (by omega)]; exact hA.n
  · intro k hk
    rw [u 3 (by omega)] at hk
    rw [u _ (by omega), u _ (by omega), u _ (by omega)]; exact hA.wd hk
  · rw [u 1 (by omega), u 3 (by omega)]; exact LOK_congr (fun j hj => u _ (by omega)) hA.ln
  · rw [u 34 (by omega)]; exact hA.nc
  · intro k hk
    rw [u 34 (by omega)] at hk
    rw [u _ (by omega), u _ (by omega), u _ (by omega)]; exact hA.no hk
  · rw [u 53 (by omega)]; exact hA.mc
  · intro k hk
    rw [u 53 (by omega)] at hk
    rw [u _ (by omega), u _ (by omega), u _ (by omega), u _ (by omega)]; exact hA.ma hk
  · show 0 ≤ a 78 + 1 ∧ a 78 + 1 ≤ 8; omega
  · intro k hk
    have hk : (k : Int) < a 78 + 1 := hk
    rw [u 1 (by omega), u 3 (by omega)]
    by_cases e : k = (a 78).toNat
    · refine LOK_congr (fun j hj => ?_) hA.ln
      unfold sKeep1
      rw [if_neg (by omega), if_pos (by omega)]
      congr 1
      omega
    · exact LOK_congr (fun j hj => u _ (by omega)) (hA.un (k := k) (by omega))

theorem ok_keep {a : Nat → Int} (hA : AOK a) : AOK (sKeep a) := by
  have auc := hA.uc
  unfold sKeep
  split
  next h => exact ok_keep1 (ok_drop hA h) (show (7 : Int) < 8 by decide)
  next h => exact ok_keep1 hA (by omega)

theorem ok_undo {a : Nat → Int} (hA : AOK a) (h8 : 0 < a 78) : AOK (sUndo a) := by
  have am := hA.m
  have an := hA.n
  have anc := hA.nc
  have amc := hA.mc
  have auc := hA.uc
  have u : ∀ q : Nat, (q < 28 ∨ (34 ≤ q ∧ q ≠ 78)) → (sUndo a) q = a q := fun q h => by unfold sUndo; rw [if_neg (by omega), if_neg (by omega)]
  refine ⟨?_, ?_, ?_, ?_, ?_, ?_, ?_, ?_, ?_, ?_, ?_, ?_⟩
  · rw [u 0 (by omega)]; exact hA.f
  · rw [u 1 (by omega)]; exact hA.m
  · rw [u 1 (by omega), u 2 (by omega)]; exact hA.2.2.1
  · rw [u 3 (by omega)]; exact hA.n
  · intro k hk
    rw [u 3 (by omega)] at hk
    rw [u _ (by omega), u _ (by omega), u _ (by omega)]; exact hA.wd hk
  · rw [u 1 (by omega), u 3 (by omega)]
    refine LOK_congr (fun j hj => ?_) (hA.un (k := (a 78 - 1).toNat) (by omega))
    show sUndo a (28 + j) = a (79 + 6 * (a 78 - 1).toNat + j)
    unfold sUndo
    rw [if_neg (by omega), if_pos (by omega)]
    congr 1
    omega
  · rw [u 34 (by omega)]; exact hA.nc
  · intro k hk
    rw [u 34 (by omega)] at hk
    rw [u _ (by omega), u _ (by omega), u _ (by omega)]; exact hA.no hk
  · rw [u 53 (by omega)]; exact hA.mc
  · intro k hk
    rw [u 53 (by omega)] at hk
    rw [u _ (by omega), u _ (by omega), u _ (by omega), u _ (by omega)]; exact hA.ma hk
  · show 0 ≤ a 78 - 1 ∧ a 78 - 1 ≤ 8; omega
  · intro k hk
    have hk : (k : Int) < a 78 - 1 := hk
    rw [u 1 (by omega), u 3 (by omega)]; exact LOK_congr (fun j hj => u _ (by omega)) (hA.un (k := k) (by omega))

theorem ok_note {a : Nat → Int} (hA : AOK a) {n j x : Int} (h6 : a 34 < 6) (hn : 3 ≤ n ∧ n ≤ 6) (hj : 0 ≤ j ∧ j ≤ 5) (hx : 0 ≤ x ∧ x ≤ 5) : AOK (sNote a n j x) := by
  have am := hA.m
  have an := hA.n
  have anc := hA.nc
  have amc := hA.mc
  have auc := hA.uc
  have s3 : sNote a n j x 34 = a 34 + 1 := rfl
  have s4 : sNote a n j x (35 + 3 * (a 34).toNat) = n := by unfold sNote ua; rw [if_neg (by omega), if_neg (by omega), if_neg (by omega), if_pos rfl]
  have s12 : sNote a n j x (36 + 3 * (a 34).toNat) = j := by unfold sNote ua; rw [if_neg (by omega), if_neg (by omega), if_pos rfl]
  have s20 : sNote a n j x (37 + 3 * (a 34).toNat) = x := by unfold sNote ua; rw [if_neg (by omega), if_pos rfl]
  have u : ∀ q : Nat, (q ≠ 34 ∧ q ≠ 35 + 3 * (a 34).toNat ∧ q ≠ 36 + 3 * (a 34).toNat ∧ q ≠ 37 + 3 * (a 34).toNat) → (sNote a n j x) q = a q := fun q h => by unfold sNote ua; rw [if_neg h.1, if_neg h.2.2.2, if_neg h.2.2.1, if_neg h.2.1]
  refine ⟨?_, ?_, ?_, ?_, ?_, ?_, ?_, ?_, ?_, ?_, ?_, ?_⟩
  · rw [u 0 (by omega)]; exact hA.f
  · rw [u 1 (by omega)]; exact hA.m
  · rw [u 1 (by omega), u 2 (by omega)]; exact hA.2.2.1
  · rw [u 3 (by omega)]; exact hA.n
  · intro k hk
    rw [u 3 (by omega)] at hk
    rw [u _ (by omega), u _ (by omega), u _ (by omega)]; exact hA.wd hk
  · rw [u 1 (by omega), u 3 (by omega)]; exact LOK_congr (fun j hj => u _ (by omega)) hA.ln
  · rw [s3]; omega
  · intro k hk
    rw [s3] at hk
    by_cases e : k = (a 34).toNat
    · rw [e, s4, s12, s20]
      exact ⟨hn, hj, hx⟩
    · rw [u _ (by omega), u _ (by omega), u _ (by omega)]; exact hA.no (by omega)
  · rw [u 53 (by omega)]; exact hA.mc
  · intro k hk
    rw [u 53 (by omega)] at hk
    rw [u _ (by omega), u _ (by omega), u _ (by omega), u _ (by omega)]; exact hA.ma hk
  · rw [u 78 (by omega)]; exact hA.uc
  · intro k hk
    rw [u 78 (by omega)] at hk
    rw [u 1 (by omega), u 3 (by omega)]; exact LOK_congr (fun j hj => u _ (by omega)) (hA.un hk)

theorem ok_mark {a : Nat → Int} (hA : AOK a) {wd n j x : Int} (h6 : a 53 < 6) (hw : 0 ≤ wd ∧ wd < a 3) (hn : 3 ≤ n ∧ n ≤ 6) (hj : 0 ≤ j ∧ j ≤ 5) (hx : 0 ≤ x ∧ x ≤ 20) : AOK (sMark a wd n j x) := by
  have am := hA.m
  have an := hA.n
  have anc := hA.nc
  have amc := hA.mc
  have auc := hA.uc
  have s3 : sMark a wd n j x 53 = a 53 + 1 := rfl
  have s4 : sMark a wd n j x (54 + 4 * (a 53).toNat) = wd := by unfold sMark ua; rw [if_neg (by omega), if_neg (by omega), if_neg (by omega), if_neg (by omega), if_pos rfl]
  have s12 : sMark a wd n j x (55 + 4 * (a 53).toNat) = n := by unfold sMark ua; rw [if_neg (by omega), if_neg (by omega), if_neg (by omega), if_pos rfl]
  have s20 : sMark a wd n j x (56 + 4 * (a 53).toNat) = j := by unfold sMark ua; rw [if_neg (by omega), if_neg (by omega), if_pos rfl]
  have s21 : sMark a wd n j x (57 + 4 * (a 53).toNat) = x := by unfold sMark ua; rw [if_neg (by omega), if_pos rfl]
  have u : ∀ q : Nat, (q ≠ 53 ∧ q ≠ 54 + 4 * (a 53).toNat ∧ q ≠ 55 + 4 * (a 53).toNat ∧ q ≠ 56 + 4 * (a 53).toNat ∧ q ≠ 57 + 4 * (a 53).toNat) → (sMark a wd n j x) q = a q := fun q h => by unfold sMark ua; rw [if_neg h.1, if_neg h.2.2.2.2, if_neg h.2.2.2.1, if_neg h.2.2.1, if_neg h.2.1]
  refine ⟨?_, ?_, ?_, ?_, ?_, ?_, ?_, ?_, ?_, ?_, ?_, ?_⟩
  · rw [u 0 (by omega)]; exact hA.f
  · rw [u 1 (by omega)]; exact hA.m
  · rw [u 1 (by omega), u 2 (by omega)]; exact hA.2.2.1
  · rw [u 3 (by omega)]; exact hA.n
  · intro k hk
    rw [u 3 (by omega)] at hk
    rw [u _ (by omega), u _ (by omega), u _ (by omega)]; exact hA.wd hk
  · rw [u 1 (by omega), u 3 (by omega)]; exact LOK_congr (fun j hj => u _ (by omega)) hA.ln
  · rw [u 34 (by omega)]; exact hA.nc
  · intro k hk
    rw [u 34 (by omega)] at hk
    rw [u _ (by omega), u _ (by omega), u _ (by omega)]; exact hA.no hk
  · rw [s3]; omega
  · intro k hk
    rw [s3] at hk
    by_cases e : k = (a 53).toNat
    · rw [e, s4, s12, s20, s21]
      exact ⟨by omega, hn, hj, hx⟩
    · rw [u _ (by omega), u _ (by omega), u _ (by omega), u _ (by omega)]; exact hA.ma (by omega)
  · rw [u 78 (by omega)]; exact hA.uc
  · intro k hk
    rw [u 78 (by omega)] at hk
    rw [u 1 (by omega), u 3 (by omega)]; exact LOK_congr (fun j hj => u _ (by omega)) (hA.un hk)

theorem ok_begin {f m t : Int} (hf : 0 ≤ f ∧ f ≤ 5) (hm : 1 ≤ m ∧ m ≤ 6) (ht : 0 ≤ t ∧ t < 10 ^ m.toNat) : AOK (sBegin f m t) := by
  refine ⟨hf, hm, ht, show 0 ≤ (0 : Int) ∧ (0 : Int) ≤ 8 by decide, fun k hk => ?_, ?_, show 0 ≤ (0 : Int) ∧ (0 : Int) ≤ 6 by decide, fun k hk => ?_, show 0 ≤ (0 : Int) ∧ (0 : Int) ≤ 6 by decide, fun k hk => ?_, show 0 ≤ (0 : Int) ∧ (0 : Int) ≤ 8 by decide, fun k hk => ?_⟩
  · rw [show sBegin f m t 3 = 0 from rfl] at hk; omega
  · exact LOK_congr (fun j hj => by unfold sBegin; rw [if_neg (by omega), if_neg (by omega), if_neg (by omega), if_pos (by omega)]) (LOK_0 (Int.le_refl 0))
  · rw [show sBegin f m t 34 = 0 from rfl] at hk; omega
  · rw [show sBegin f m t 53 = 0 from rfl] at hk; omega
  · rw [show sBegin f m t 78 = 0 from rfl] at hk; omega
/-- no word on two lines -/
theorem ln_free {a : Nat → Int} (hA : AOK a) {wd : Int} (hw : 0 ≤ wd) (h : lnOf a wd = -1) : ∀ i, i < 6 → a (28 + i) ≠ wd := by
  intro i hi e
  have am := hA.m
  rcases fstI_spec (fun j => wOn a j = wd) (a 1).toNat with ⟨_, h2⟩ | ⟨j, h1, h2, _⟩
  · by_cases q : (i : Int) < a 1
    · exact h2 i (by omega) (by show wOn a i = wd; rw [wOn_n q]; exact e)
    · have := (hA.ln.1 i hi).2.2 (by omega)
      have : a (28 + i) = -1 := this
      omega
  · unfold lnOf at h
    omega
theorem ok_puts {a : Nat → Int} (hA : AOK a) {j n : Int} (hj : 0 ≤ j ∧ j < a 1) (hn : 0 ≤ n ∧ n < a 3) (h : lnOf a n = -1) : AOK (ua (sKeep a) (28 + j.toNat) n) := by
  have am := hA.m
  refine ok_line (ok_keep hA) (by rw [sKeep_at hA (by omega)]; omega) (Or.inr ⟨hn.1, by rw [sKeep_at hA (by omega)]; exact hn.2, fun i hi _ => ?_⟩)
  rw [sKeep_at hA (by omega)]
  exact ln_free hA hn.1 h i hi
theorem ok_takes {a : Nat → Int} (hA : AOK a) {j : Int} (hj : 0 ≤ j ∧ j < a 1) : AOK (ua (sKeep a) (28 + j.toNat) (-1)) := by
  have am := hA.m
  exact ok_line (ok_keep hA) (by rw [sKeep_at hA (by omega)]; omega) (Or.inl rfl)

theorem ok_swap0 {a : Nat → Int} (hA : AOK a) {j k : Nat} (hj : (j : Int) < a 1) (hk : (k : Int) < a 1) (hjk : j ≠ k) : AOK (ua (ua a (28 + j) (a (28 + k))) (28 + k) (a (28 + j))) := by
  have am := hA.m
  have an := hA.n
  have anc := hA.nc
  have amc := hA.mc
  have auc := hA.uc
  have u : ∀ q : Nat, (q ≠ 28 + j ∧ q ≠ 28 + k) → (ua (ua a (28 + j) (a (28 + k))) (28 + k) (a (28 + j))) q = a q := fun q h => by unfold ua; rw [if_neg h.2, if_neg h.1]
  refine ⟨?_, ?_, ?_, ?_, ?_, ?_, ?_, ?_, ?_, ?_, ?_, ?_⟩
  · rw [u 0 (by omega)]; exact hA.f
  · rw [u 1 (by omega)]; exact hA.m
  · rw [u 1 (by omega), u 2 (by omega)]; exact hA.2.2.1
  · rw [u 3 (by omega)]; exact hA.n
  · intro k hk
    rw [u 3 (by omega)] at hk
    rw [u _ (by omega), u _ (by omega), u _ (by omega)]; exact hA.wd hk
  · rw [u 1 (by omega), u 3 (by omega)]
    have hl := hA.ln
    have sj : ua (ua a (28 + j) (a (28 + k))) (28 + k) (a (28 + j)) (28 + j) = a (28 + k) := by unfold ua; rw [if_neg (by omega), if_pos rfl]
    have sk : ua (ua a (28 + j) (a (28 + k))) (28 + k) (a (28 + j)) (28 + k) = a (28 + j) := by unfold ua; rw [if_pos rfl]
    have key : ∀ i, i < 6 → ua (ua a (28 + j) (a (28 + k))) (28 + k) (a (28 + j)) (28 + i) = a (28 + (if i = j then k else if i = k then j else i)) := fun i hi => by
      by_cases e1 : i = j
      · rw [e1, sj, if_pos rfl]
      · by_cases e2 : i = k
        · rw [e2, sk, if_neg (by omega), if_pos rfl]
        · rw [u _ (by omega), if_neg e1, if_neg e2]
    refine ⟨fun i hi => ?_, fun i i2 hi hi2 e1 e2 => ?_⟩
    · show -1 ≤ ua (ua a (28 + j) (a (28 + k))) (28 + k) (a (28 + j)) (28 + i) ∧ ua (ua a (28 + j) (a (28 + k))) (28 + k) (a (28 + j)) (28 + i) < a 3 ∧ (a 1 ≤ (i : Int) → ua (ua a (28 + j) (a (28 + k))) (28 + k) (a (28 + j)) (28 + i) = -1)
      rw [key i hi]
      by_cases e1 : i = j
      · rw [if_pos e1]
        have := hl.1 k (by omega)
        exact ⟨this.1, this.2.1, fun z => by omega⟩
      · by_cases e2 : i = k
        · rw [if_neg e1, if_pos e2]
          have := hl.1 j (by omega)
          exact ⟨this.1, this.2.1, fun z => by omega⟩
        · rw [if_neg e1, if_neg e2]
          exact hl.1 i hi
    · have e1 : ua (ua a (28 + j) (a (28 + k))) (28 + k) (a (28 + j)) (28 + i) = ua (ua a (28 + j) (a (28 + k))) (28 + k) (a (28 + j)) (28 + i2) := e1
      have e2 : ua (ua a (28 + j) (a (28 + k))) (28 + k) (a (28 + j)) (28 + i) ≠ -1 := e2
      rw [key i hi] at e1 e2
      rw [key i2 hi2] at e1
      have h9 := hl.2 (if i = j then k else if i = k then j else i) (if i2 = j then k else if i2 = k then j else i2) (by split; omega; split <;> omega) (by split; omega; split <;> omega) e1 e2
      by_cases q1 : i = j
      · rw [if_pos q1] at h9
        by_cases q3 : i2 = j
        · omega
        · rw [if_neg q3] at h9
          by_cases q4 : i2 = k
          · rw [if_pos q4] at h9; omega
          · rw [if_neg q4] at h9; omega
      · rw [if_neg q1] at h9
        by_cases q2 : i = k
        · rw [if_pos q2] at h9
          by_cases q3 : i2 = j
          · rw [if_pos q3] at h9; omega
          · rw [if_neg q3] at h9
            by_cases q4 : i2 = k
            · omega
            · rw [if_neg q4] at h9; omega
        · rw [if_neg q2] at h9
          by_cases q3 : i2 = j
          · rw [if_pos q3] at h9; omega
          · rw [if_neg q3] at h9
            by_cases q4 : i2 = k
            · rw [if_pos q4] at h9; omega
            · rw [if_neg q4] at h9; omega
  · rw [u 34 (by omega)]; exact hA.nc
  · intro k hk
    rw [u 34 (by omega)] at hk
    rw [u _ (by omega), u _ (by omega), u _ (by omega)]; exact hA.no hk
  · rw [u 53 (by omega)]; exact hA.mc
  · intro k hk
    rw [u 53 (by omega)] at hk
    rw [u _ (by omega), u _ (by omega), u _ (by omega), u _ (by omega)]; exact hA.ma hk
  · rw [u 78 (by omega)]; exact hA.uc
  · intro k hk
    rw [u 78 (by omega)] at hk
    rw [u 1 (by omega), u 3 (by omega)]; exact LOK_congr (fun j hj => u _ (by omega)) (hA.un hk)

theorem ok_swaps {a : Nat → Int} (hA : AOK a) {j k : Int} (hj : 0 ≤ j ∧ j < a 1) (hk : 0 ≤ k ∧ k < a 1) (hjk : j ≠ k) : AOK (ua (ua (sKeep a) (28 + j.toNat) (a (28 + k.toNat))) (28 + k.toNat) (a (28 + j.toNat))) := by
  have am := hA.m
  have h := ok_swap0 (ok_keep hA) (j := j.toNat) (k := k.toNat) (by rw [sKeep_at hA (by omega)]; omega) (by rw [sKeep_at hA (by omega)]; omega) (by omega)
  rw [sKeep_at hA (q := 28 + j.toNat) (by omega), sKeep_at hA (q := 28 + k.toNat) (by omega)] at h
  exact h
