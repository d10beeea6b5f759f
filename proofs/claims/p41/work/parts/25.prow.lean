/-! rows of values: what measurements, groups and the trace answer -/
theorem b32 {x : Int} (h1 : -2147483648 ≤ x) (h2 : x < 2147483648) : x.bmod (2 ^ 32) = x := Int.bmod_eq_of_le (by omega) (by omega)
theorem ti_le {x y : Int32} : x ≤ y ↔ x.toInt ≤ y.toInt := Int32.le_iff_toInt_le
theorem ti_lt {x y : Int32} : x < y ↔ x.toInt < y.toInt := Int32.lt_iff_toInt_lt
theorem ti_eq {x y : Int32} : x = y ↔ x.toInt = y.toInt := Int32.toInt_inj.symm
def i6 (x : Int32) : Prop := -1000000 ≤ x.toInt ∧ x.toInt ≤ 1000000
theorem i6_jk6 (x : Int64) : i6 (jk6 x) := by
  unfold jk6 jkept jmaxL jminL i6
  have ha : (Int32.toInt64 (-1000000)).toInt = -1000000 := by decide +kernel
  have hb : (Int32.toInt64 1000000).toInt = 1000000 := by decide +kernel
  have key : ∀ y : Int64, -1000000 ≤ y.toInt → y.toInt ≤ 1000000 → -1000000 ≤ y.toInt32.toInt ∧ y.toInt32.toInt ≤ 1000000 := fun y h1 h2 => by
    rw [Int64.toInt_toInt32, b32 (by omega) (by omega)]; exact ⟨h1, h2⟩
  (repeat' split) <;> rename_i h1 h2 <;> (try rw [Int64.lt_iff_toInt_lt] at h1) <;> (try rw [Int64.lt_iff_toInt_lt] at h2) <;> apply key <;> omega
theorem i6_neg {x : Int32} (h : i6 x) : i6 (-x) := by
  unfold i6 at h ⊢
  rw [Int32.toInt_neg, b32 (by omega) (by omega)]; omega
theorem i6_sub0 {x : Int32} (h : i6 x) : i6 (0 - x) := by
  unfold i6 at h ⊢
  rw [Int32.toInt_sub, show (0 : Int32).toInt = 0 from rfl, b32 (by omega) (by omega)]; omega
theorem i6_abs {x : Int32} (h : i6 x) : i6 (jabs x) := by
  unfold jabs
  by_cases c : 0 ≤ x
  · rw [if_pos c]; exact h
  · rw [if_neg c]; exact i6_sub0 h
theorem i6_one {d op ca ps : Int32} (h1 : i6 op) : i6 (oneR d op ca ps) := by
  unfold oneR
  by_cases c0 : d = 0
  · rw [if_pos c0]; exact i6_neg h1
  rw [if_neg c0]
  by_cases c1 : d = 1
  · rw [if_pos c1]; exact i6_abs h1
  rw [if_neg c1]
  by_cases c2 : d = 2
  · rw [if_pos c2]; exact i6_jk6 _
  rw [if_neg c2]; exact i6_jk6 _
theorem i6_oneC {d op ca : Int32} (h1 : i6 op) (h2 : i6 ca) : i6 (oneC d op ca) := by
  unfold oneC
  by_cases c0 : d = 0
  · rw [if_pos c0]; exact h2
  rw [if_neg c0]
  by_cases c1 : d = 1
  · rw [if_pos c1]; exact h2
  rw [if_neg c1]
  by_cases c2 : d = 2
  · rw [if_pos c2]; exact h1
  rw [if_neg c2]; exact i6_jk6 _
theorem i6_two {d a b : Int32} (h1 : i6 a) (h2 : i6 b) : i6 (twoR d a b) := by
  unfold twoR jmin jmax
  by_cases c0 : d = 0
  · rw [if_pos c0]; exact i6_jk6 _
  rw [if_neg c0]
  by_cases c1 : d = 1
  · rw [if_pos c1]; exact i6_jk6 _
  rw [if_neg c1]
  by_cases c2 : d = 2
  · rw [if_pos c2]; exact i6_jk6 _
  rw [if_neg c2]
  by_cases c3 : d = 3
  · rw [if_pos c3]
    by_cases c4 : b < a
    · rw [if_pos c4]; exact h2
    · rw [if_neg c4]; exact h1
  rw [if_neg c3]
  by_cases c4 : a < b
  · rw [if_pos c4]; exact h2
  · rw [if_neg c4]; exact h1
theorem i6_rIn {x : Int32} (h : rIn x) : i6 x := by
  obtain ⟨h1, h2⟩ := h
  rw [ti_lt] at h1
  rw [ti_le] at h2
  have a : (-128 : Int32).toInt = -128 := by decide
  have b : (127 : Int32).toInt = 127 := by decide
  unfold i6
  omega
/-- two runs of the expression that agree in what counts -/
def cEq (F F' : Nat × (Nat → Int32) × (Nat → Int32)) : Prop := F.1 = F'.1 ∧ (∀ i, i < F.1 → F.2.1 i = F'.2.1 i ∧ i6 (F.2.1 i)) ∧ (∀ i, i < 16 → F.2.2 i = F'.2.2 i ∧ i6 (F.2.2 i))
theorem cEq_step {KA DA f0 f1 : Nat → Int32} {ps q : Nat} {F F' : Nat × (Nat → Int32) × (Nat → Int32)} (h : cEq F F') (hq : q < 16) (hD : i6 (DA q)) (h0 : i6 (f0 ps)) (h1 : i6 (f1 ps)) : cEq (cstep KA DA f0 f1 ps q F) (cstep KA DA f0 f1 ps q F') ∧ 1 ≤ (cstep KA DA f0 f1 ps q F).1 := by
  obtain ⟨k, s, c⟩ := F
  obtain ⟨k', s', c'⟩ := F'
  obtain ⟨e, hs, hc⟩ := h
  dsimp only at e hs hc
  subst e
  unfold cstep
  dsimp only
  by_cases g1 : KA q = 3 ∧ 2 ≤ k
  · rw [if_pos g1, if_pos g1]
    obtain ⟨a1, a2⟩ := hs (k - 1 - 1) (by omega)
    obtain ⟨a3, a4⟩ := hs (k - 1) (by omega)
    refine ⟨⟨rfl, fun i hi => ?_, hc⟩, by dsimp only; omega⟩
    dsimp only at hi ⊢
    by_cases ei : i = k - 1 - 1
    · subst ei
      rw [pk_us, pk_us, a1, a3]
      exact ⟨rfl, i6_two (a1 ▸ a2) (a3 ▸ a4)⟩
    · rw [pk_un ei, pk_un ei]; exact hs i (by omega)
  · rw [if_neg g1, if_neg g1]
    by_cases g2 : KA q = 2 ∧ 1 ≤ k
    · rw [if_pos g2, if_pos g2]
      obtain ⟨a1, a2⟩ := hs (k - 1) (by omega)
      obtain ⟨b1, b2⟩ := hc q hq
      refine ⟨⟨rfl, fun i hi => ?_, fun i hi => ?_⟩, by dsimp only; omega⟩
      · dsimp only at hi ⊢
        by_cases ei : i = k - 1
        · subst ei
          rw [pk_us, pk_us, a1, b1]
          exact ⟨rfl, i6_one (a1 ▸ a2)⟩
        · rw [pk_un ei, pk_un ei]; exact hs i hi
      · dsimp only
        by_cases ei : i = q
        · subst ei
          rw [pk_us, pk_us, a1, b1]
          exact ⟨rfl, i6_oneC (a1 ▸ a2) (b1 ▸ b2)⟩
        · rw [pk_un ei, pk_un ei]; exact hc i hi
    · rw [if_neg g2, if_neg g2]
      by_cases g3 : k < 16
      · rw [if_pos g3, if_pos g3]
        refine ⟨⟨rfl, fun i hi => ?_, hc⟩, by dsimp only; omega⟩
        dsimp only at hi ⊢
        by_cases ei : i = k
        · subst ei
          rw [pk_us, pk_us]
          refine ⟨rfl, ?_⟩
          unfold jsel
          (repeat' split) <;> first | exact h0 | exact h1 | exact hD
        · rw [pk_un ei, pk_un ei]; exact hs i (by omega)
      · rw [if_neg g3, if_neg g3]
        exact ⟨⟨rfl, hs, hc⟩, by dsimp only; omega⟩
theorem cEq_run {KA DA f0 f1 ST CA ST' CA' : Nat → Int32} {ps pn : Nat} (hpn : pn ≤ 16) (hD : ∀ z, z < pn → i6 (DA z)) (h0 : i6 (f0 ps)) (h1 : i6 (f1 ps)) (hc : ∀ i, i < 16 → CA i = CA' i ∧ i6 (CA i)) (q : Nat) (hq : q ≤ pn) : cEq (crun KA DA f0 f1 ps ST CA q) (crun KA DA f0 f1 ps ST' CA' q) ∧ (1 ≤ q → 1 ≤ (crun KA DA f0 f1 ps ST CA q).1) := by
  induction q with
  | zero => exact ⟨⟨rfl, fun i hi => absurd hi (Nat.not_lt_zero _), hc⟩, fun z => absurd z (by decide)⟩
  | succ q ih =>
    obtain ⟨a, b⟩ := cEq_step (KA := KA) (ih (by omega)).1 (show q < 16 by omega) (hD q (by omega)) h0 h1
    exact ⟨a, fun _ => b⟩
theorem fill_eq {KA DA f0 f1 RW ST CA RW' ST' CA' : Nat → Int32} {pn m : Nat} (hp1 : 1 ≤ pn) (hpn : pn ≤ 16) (hD : ∀ z, z < pn → i6 (DA z)) (hf : ∀ j, j < m → rIn (f0 j) ∧ rIn (f1 j)) (hc : ∀ i, i < 16 → CA i = CA' i ∧ i6 (CA i)) (i : Nat) (him : i ≤ m) :
    (∀ j, j < i → (cfill KA DA f0 f1 pn RW ST CA i).1 j = (cfill KA DA f0 f1 pn RW' ST' CA' i).1 j ∧ i6 ((cfill KA DA f0 f1 pn RW ST CA i).1 j)) ∧ (∀ z, z < 16 → (cfill KA DA f0 f1 pn RW ST CA i).2.2 z = (cfill KA DA f0 f1 pn RW' ST' CA' i).2.2 z ∧ i6 ((cfill KA DA f0 f1 pn RW ST CA i).2.2 z)) := by
  induction i with
  | zero => exact ⟨fun j hj => absurd hj (Nat.not_lt_zero _), hc⟩
  | succ i ih =>
    have ih := ih (by omega)
    obtain ⟨a, b⟩ := cEq_run (KA := KA) (ST := (cfill KA DA f0 f1 pn RW ST CA i).2.1) (ST' := (cfill KA DA f0 f1 pn RW' ST' CA' i).2.1) (ps := i) hpn hD (i6_rIn (hf i (by omega)).1) (i6_rIn (hf i (by omega)).2) ih.2 pn (Nat.le_refl _)
    have h0 := a.2.1 0 (b hp1)
    rw [cfill, cfill]
    refine ⟨fun j hj => ?_, a.2.2⟩
    dsimp only
    by_cases e : j = i
    · subst e; rw [pk_us, pk_us]; exact h0
    · rw [pk_un e, pk_un e]; exact ih.1 j (by omega)
/-- the trace of a record doesn't depend on what lay in the rows before -/
theorem trow {KA DA RW ST CA RW' ST' CA' : Nat → Int32} {pn : Nat} {kr : JCap} (hp1 : 1 ≤ pn) (hpn : pn ≤ 16) (hD : ∀ z, z < pn → i6 (DA z)) (hf : ∀ j, j < kr.2.2.1.toNatClampNeg → rIn (kr.2.2.2.1 j) ∧ rIn (kr.2.2.2.2 j)) (j : Nat) (hj : j < kr.2.2.1.toNatClampNeg) :
    (rowOf KA DA pn 2 kr RW ST CA).1 j = (rowOf KA DA pn 2 kr RW' ST' CA').1 j ∧ i6 ((rowOf KA DA pn 2 kr RW ST CA).1 j) := by
  unfold rowOf
  rw [if_pos rfl, if_pos rfl]
  refine (fill_eq hp1 hpn hD hf (fun i hi => ?_) _ (Nat.le_refl _)).1 j hj
  unfold jfill
  rw [if_pos hi, if_pos hi]
  exact ⟨rfl, by unfold i6; decide⟩
theorem crow {KA DA RW ST CA : Nat → Int32} {pn : Nat} {kr : JCap} {src : Int32} (hs : ¬ src = 2) (j : Nat) (hj : j < kr.2.2.1.toNatClampNeg) : (rowOf KA DA pn src kr RW ST CA).1 j = jat kr src j := by
  unfold rowOf
  rw [if_neg hs]
  exact if_pos hj
/-! least, greatest, sums -/
theorem jlo_c {f g : Nat → Int32} : ∀ (d i : Nat) (acc : Int32), (∀ j, i ≤ j → j < i + d → f j = g j) → jlo f d i acc = jlo g d i acc
  | 0, _, _, _ => rfl
  | d + 1, i, acc, h => by
    rw [jlo, jlo, h i (Nat.le_refl _) (by omega)]
    exact jlo_c d (i + 1) _ (fun j h1 h2 => h j (by omega) (by omega))
theorem jhi_c {f g : Nat → Int32} : ∀ (d i : Nat) (acc : Int32), (∀ j, i ≤ j → j < i + d → f j = g j) → jhi f d i acc = jhi g d i acc
  | 0, _, _, _ => rfl
  | d + 1, i, acc, h => by
    rw [jhi, jhi, h i (Nat.le_refl _) (by omega)]
    exact jhi_c d (i + 1) _ (fun j h1 h2 => h j (by omega) (by omega))
theorem jsum_c {f g : Nat → Int32} : ∀ (d i : Nat) (acc : Int32), (∀ j, i ≤ j → j < i + d → f j = g j) → jsum f d i acc = jsum g d i acc
  | 0, _, _, _ => rfl
  | d + 1, i, acc, h => by
    rw [jsum, jsum, h i (Nat.le_refl _) (by omega)]
    exact jsum_c d (i + 1) _ (fun j h1 h2 => h j (by omega) (by omega))
theorem jrise_c {f g : Nat → Int32} {lo hi : Int32} : ∀ (d i : Nat) (la : Int32), (∀ j, i ≤ j → j < i + d → f j = g j) → jrise f lo hi d i la = jrise g lo hi d i la
  | 0, _, _, _ => rfl
  | d + 1, i, la, h => by
    rw [jrise, jrise, h i (Nat.le_refl _) (by omega)]
    rw [jrise_c d (i + 1) _ (fun j h1 h2 => h j (by omega) (by omega))]
theorem jcrN_c {f g : Nat → Int32} {lv : Int32} (i : Nat) (h : ∀ j, j ≤ i → f j = g j) : jcrN f lv i = jcrN g lv i := by
  induction i with
  | zero => rfl
  | succ i ih =>
    rw [jcrN, jcrN, ih (fun j hj => h j (by omega))]
    unfold jcr
    rw [h (i + 1) (Nat.le_refl _), h (i + 1 - 1) (by omega)]
theorem jmin_ti (x y : Int32) : (jmin x y).toInt = min x.toInt y.toInt := by
  unfold jmin
  by_cases h : y < x
  · rw [if_pos h]; rw [ti_lt] at h; omega
  · rw [if_neg h]; rw [ti_lt] at h; omega
theorem jmax_ti (x y : Int32) : (jmax x y).toInt = max x.toInt y.toInt := by
  unfold jmax
  by_cases h : x < y
  · rw [if_pos h]; rw [ti_lt] at h; omega
  · rw [if_neg h]; rw [ti_lt] at h; omega
theorem jlo_le {f : Nat → Int32} : ∀ (d i : Nat) (acc : Int32), (jlo f d i acc).toInt ≤ acc.toInt ∧ ∀ j, i ≤ j → j < i + d → (jlo f d i acc).toInt ≤ (f j).toInt
  | 0, _, _ => ⟨Int.le_refl _, fun j h1 h2 => by omega⟩
  | d + 1, i, acc => by
    rw [jlo]
    obtain ⟨h1, h2⟩ := jlo_le (f := f) d (i + 1) (jmin acc (f i))
    rw [jmin_ti] at h1
    refine ⟨by omega, fun j h3 h4 => ?_⟩
    by_cases e : j = i
    · subst e; omega
    · exact h2 j (by omega) (by omega)
theorem jhi_ge {f : Nat → Int32} : ∀ (d i : Nat) (acc : Int32), acc.toInt ≤ (jhi f d i acc).toInt ∧ ∀ j, i ≤ j → j < i + d → (f j).toInt ≤ (jhi f d i acc).toInt
  | 0, _, _ => ⟨Int.le_refl _, fun j h1 h2 => by omega⟩
  | d + 1, i, acc => by
    rw [jhi]
    obtain ⟨h1, h2⟩ := jhi_ge (f := f) d (i + 1) (jmax acc (f i))
    rw [jmax_ti] at h1
    refine ⟨by omega, fun j h3 h4 => ?_⟩
    by_cases e : j = i
    · subst e; omega
    · exact h2 j (by omega) (by omega)
theorem rIn_ti {x : Int32} (h : rIn x) : -128 ≤ x.toInt ∧ x.toInt ≤ 127 := by
  obtain ⟨h1, h2⟩ := h
  rw [ti_lt] at h1
  rw [ti_le] at h2
  have a : (-128 : Int32).toInt = -128 := by decide
  have b : (127 : Int32).toInt = 127 := by decide
  omega
/-- the sum of d values from i on, as a whole number -/
def zsum (f : Nat → Int32) : Nat → Nat → Int
  | 0, _ => 0
  | d + 1, i => (f i).toInt + zsum f d (i + 1)
theorem jsum_z {f : Nat → Int32} : ∀ (d i : Nat) (acc : Int32), (∀ j, i ≤ j → j < i + d → rIn (f j)) → d ≤ 49 → -10000 ≤ acc.toInt - 128 * d → acc.toInt + 128 * d ≤ 10000 → (jsum f d i acc).toInt = acc.toInt + zsum f d i
  | 0, _, acc, _, _, _, _ => by rw [jsum, zsum]; omega
  | d + 1, i, acc, hf, h, h1, h2 => by
    have hr := rIn_ti (hf i (Nat.le_refl _) (by omega))
    have e : (acc + f i).toInt = acc.toInt + (f i).toInt := by rw [Int32.toInt_add, b32 (by omega) (by omega)]
    rw [jsum, zsum, jsum_z d (i + 1) (acc + f i) (fun j h3 h4 => hf j (by omega) (by omega)) (by omega) (by omega) (by omega), e]
    omega
theorem zsum_b {f : Nat → Int32} (lo hi : Int) : ∀ (d i : Nat), (∀ j, i ≤ j → j < i + d → lo ≤ (f j).toInt ∧ (f j).toInt ≤ hi) → lo * d ≤ zsum f d i ∧ zsum f d i ≤ hi * d
  | 0, _, _ => by rw [zsum]; omega
  | d + 1, i, h => by
    obtain ⟨h1, h2⟩ := zsum_b lo hi d (i + 1) (fun j h3 h4 => h j (by omega) (by omega))
    have h5 := h i (Nat.le_refl _) (by omega)
    rw [zsum]
    rw [Int.natCast_add, Int.mul_add, Int.mul_add]
    omega
theorem xor_neg (x y : Int32) (hy : 0 ≤ y.toInt) : x ^^^ y < 0 ↔ x.toInt < 0 := by
  have h1 : ∀ z : Int32, z < 0 ↔ z.toBitVec.msb = true := fun z => by
    rw [ti_lt, show (0 : Int32).toInt = 0 from rfl, BitVec.msb_eq_toInt]
    simp [Int32.toInt_toBitVec]
  rw [← show (0 : Int32).toInt = 0 from rfl, ← ti_lt, h1, h1, Int32.toBitVec_xor, BitVec.msb_xor]
  have h2 : y.toBitVec.msb = false := by
    rw [BitVec.msb_eq_toInt]
    simp [Int32.toInt_toBitVec]
    exact hy
  rw [h2, Bool.xor_false]
/-- floorDiv by a positive number -/
theorem jfdiv_z {x : Int32} {N : Nat} (hN : 0 < N) (hN2 : N < 1000) (h1 : -10000 ≤ x.toInt) (h2 : x.toInt ≤ 10000) : (jfdiv x (nI N)).toInt * N ≤ x.toInt ∧ x.toInt < ((jfdiv x (nI N)).toInt + 1) * N ∧ -10001 ≤ (jfdiv x (nI N)).toInt ∧ (jfdiv x (nI N)).toInt ≤ 10000 := by
  have hn : (nI N).toInt = N := nI_toInt (by omega)
  have hd : (x / nI N).toInt = x.toInt.tdiv N := by rw [Int32.toInt_div_of_ne_left _ _ (fun z => by rw [z] at h1; exact absurd h1 (by decide)), hn]
  have hNN : (0 : Int) < N := by omega
  have q1 := Int.mul_tdiv_add_tmod x.toInt N
  have b1 : -10000 ≤ x.toInt.tdiv N ∧ x.toInt.tdiv N ≤ 10000 := by
    have := Int.natAbs_tdiv_le_natAbs x.toInt N
    omega
  unfold jfdiv
  by_cases c : x ^^^ nI N < 0
  · rw [if_pos c]
    rw [xor_neg _ _ (by omega)] at c
    have q2 := Int.lt_tmod_of_pos x.toInt hNN
    have q3 : x.toInt.tmod N ≤ 0 := by
      have := Int.tmod_nonneg (a := -x.toInt) (N : Int) (by omega)
      rw [Int.neg_tmod] at this
      omega
    by_cases e : x / nI N * nI N = x
    · rw [if_pos e, hd]
      have e2 : (x / nI N * nI N).toInt = x.toInt.tdiv N * N := by
        rw [Int32.toInt_mul, hd, hn, b32 ?_ ?_]
        · rw [Int.mul_comm]; omega
        · rw [Int.mul_comm]; omega
      rw [e] at e2
      refine ⟨by omega, ?_, by omega, b1.2⟩
      rw [Int.add_mul]; omega
    · rw [if_neg e]
      have e2 : (x / nI N * nI N).toInt = x.toInt.tdiv N * N := by
        rw [Int32.toInt_mul, hd, hn, b32 ?_ ?_]
        · rw [Int.mul_comm]; omega
        · rw [Int.mul_comm]; omega
      have e3 : x.toInt.tmod N ≠ 0 := fun z => e (ti_eq.mpr (by rw [e2, Int.mul_comm]; omega))
      have e4 : (x / nI N - 1).toInt = x.toInt.tdiv N - 1 := by rw [Int32.toInt_sub, hd, show (1 : Int32).toInt = 1 from rfl, b32 (by omega) (by omega)]
      rw [e4, Int.sub_mul, Int.sub_add_cancel, Int.mul_comm]
      omega
  · rw [if_neg c, hd]
    rw [xor_neg _ _ (by omega)] at c
    have q2 := Int.tmod_lt_of_pos x.toInt hNN
    have q3 := Int.tmod_nonneg (a := x.toInt) (N : Int) (by omega)
    rw [Int.add_mul, Int.mul_comm]
    omega
