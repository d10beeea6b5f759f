/-! the traces of a record, both sides -/
/-- the class's rows f0 f1 and the reference's table W of the k places of record r speak of the same expression of pn parts -/
def trOK (KA DA f0 f1 PT ON TW CU W : Nat → Int32) (r pn kk : Nat) : Prop := pn ≤ 16 ∧ kk ≤ 49 ∧ (∀ i, i < pn → parR KA DA PT ON TW i) ∧ (∀ i j, i < pn → j < kk → W (49 * i + j) = tPart CU PT ON TW W r i j) ∧ ∀ j, j < kk → f0 j = mcol CU r 0 j ∧ f1 j = mcol CU r 1 j ∧ rIn (mcol CU r 0 j) ∧ rIn (mcol CU r 1 j)
def skOne (KA : Nat → Int32) (i : Nat) : Nat := (skx KA i).2 ((skx KA i).1 - 1)
def skTwo (KA : Nat → Int32) (i : Nat) : Nat := (skx KA i).2 ((skx KA i).1 - 2)
theorem jin1000 {d : Int32} (h : jin d (-1000) 1000) : bIn d := by
  have h1 : ¬ d.toInt < (-1000 : Int32).toInt := fun q => h.1 (Int32.lt_iff_toInt_lt.mpr q)
  have h2 := Int32.le_iff_toInt_le.mp h.2
  have e1 : (-1000 : Int32).toInt = -1000 := by decide
  have e2 : (1000 : Int32).toInt = 1000 := by decide
  rw [e1] at h1
  rw [e2] at h2
  unfold bIn
  omega
theorem bIn_0 : bIn 0 := by unfold bIn; decide
theorem tr_bIn {KA DA f0 f1 PT ON TW CU W : Nat → Int32} {r pn kk : Nat} (h : trOK KA DA f0 f1 PT ON TW CU W r pn kk) {j : Nat} (hj : j < kk) (m : Nat) : ∀ i, i < m → i < pn → bIn (W (49 * i + j)) := by
  obtain ⟨hp, hk, hR, hW, hf⟩ := h
  induction m with
  | zero => intro i hi; omega
  | succ m ih =>
    intro i hi hpn
    by_cases e : i < m
    · exact ih i e hpn
    · have hs := skx_le KA i
      rw [hW i j hpn hj]
      have hq := hf j hj
      rcases hR i hpn with ⟨-, h1, h2⟩ | ⟨-, h1, h2, h3⟩ | ⟨-, h1, h2, h3, h4⟩ | ⟨-, h1, h2, h3, h4, h5⟩
      · rcases h2 with h2 | h2
        · rw [tPart_0 (h1.trans h2)]; exact rIn_b hq.2.2.1
        · rw [tPart_1 (h1.trans h2)]; exact rIn_b hq.2.2.2
      · rw [tPart_2 h1, h2]; exact jin1000 h3
      · rcases four h2 with z | z | z | z
        · rw [tPart_10 (by rw [h1, z]; rfl), bnd_k6]; exact k6_bIn _
        · rw [tPart_11 (by rw [h1, z]; rfl), bnd_k6]; exact k6_bIn _
        · rw [tPart_12 (by rw [h1, z]; rfl)]
          split
          · exact bIn_0
          · rw [bnd_k6]; exact k6_bIn _
        · rw [tPart_13 (by rw [h1, z]; rfl)]
          split <;> (rw [bnd_k6]; exact k6_bIn _)
      · have l1 := hs.2 _ (show (skx KA i).1 - 2 < (skx KA i).1 by omega)
        have l2 := hs.2 _ (show (skx KA i).1 - 1 < (skx KA i).1 by omega)
        rcases five h2 with z | z | z | z | z
        · rw [tPart_20 (by rw [h1, z]; rfl), bnd_k6]; exact k6_bIn _
        · rw [tPart_21 (by rw [h1, z]; rfl), bnd_k6]; exact k6_bIn _
        · rw [tPart_22 (by rw [h1, z]; rfl), bnd_k6]; exact k6_bIn _
        · rw [tPart_23 (by rw [h1, z]; rfl), h4, h5, nI_tn (by omega), nI_tn (by omega)]
          split
          · exact ih _ (by omega) (by omega)
          · exact ih _ (by omega) (by omega)
        · rw [tPart_24 (by rw [h1, z]; rfl), h4, h5, nI_tn (by omega), nI_tn (by omega)]
          split
          · exact ih _ (by omega) (by omega)
          · exact ih _ (by omega) (by omega)
theorem tr_pre {KA DA f0 f1 PT ON TW CU W : Nat → Int32} {r pn kk i : Nat} (h : trOK KA DA f0 f1 PT ON TW CU W r pn kk) (hi : i < pn) (hk : KA i = 0 ∨ KA i = 1) {j : Nat} (hj : j < kk) : W (49 * i + j) = if KA i = 0 then jsel (DA i) (f0 j) (f1 j) else DA i := by
  obtain ⟨hp, hq, hR, hW, hf⟩ := h
  obtain ⟨q0, q1, -, -⟩ := hf j hj
  rw [hW i j hi hj]
  rcases hR i hi with ⟨h0, h1, h2⟩ | ⟨h0, h1, h2, h3⟩ | ⟨h0, -⟩ | ⟨h0, -⟩
  · rw [if_pos h0, q0, q1]
    rcases h2 with h2 | h2
    · rw [tPart_0 (h1.trans h2), h2]; rfl
    · rw [tPart_1 (h1.trans h2), h2]; rfl
  · rw [if_neg (by rw [h0]; decide), tPart_2 h1, h2]
  · rw [h0] at hk; exact absurd hk (by decide)
  · rw [h0] at hk; exact absurd hk (by decide)
theorem nI_z0 {j : Nat} (hj : j < 49) : nI j = 0 ↔ j = 0 := by
  constructor
  · intro q
    have := congrArg Int32.toNatClampNeg q
    rw [nI_tn (by omega)] at this
    exact this
  · intro q; rw [q]; rfl
theorem tr_one {KA DA f0 f1 PT ON TW CU W : Nat → Int32} {r pn kk i : Nat} (h : trOK KA DA f0 f1 PT ON TW CU W r pn kk) (hi : i < pn) (hk : KA i = 2) {j : Nat} (hj : j < kk) (ca : Int32) (c2 : DA i = 2 → 0 < j → ca = W (49 * skOne KA i + (j - 1))) (c3 : DA i = 3 → ca = if j = 0 then 0 else W (49 * i + (j - 1))) :
    1 ≤ (skx KA i).1 ∧ skOne KA i < i ∧ W (49 * i + j) = oneR (DA i) (W (49 * skOne KA i + j)) ca (nI j) ∧ (DA i = 2 → oneC (DA i) (W (49 * skOne KA i + j)) ca = W (49 * skOne KA i + j)) ∧ (DA i = 3 → oneC (DA i) (W (49 * skOne KA i + j)) ca = W (49 * i + j)) := by
  have hb := tr_bIn h hj
  obtain ⟨hp, hq, hR, hW, hf⟩ := h
  have hs := skx_le KA i
  rcases hR i hi with ⟨h0, -⟩ | ⟨h0, -⟩ | ⟨-, h1, h2, h3, h4⟩ | ⟨h0, -⟩
  · rw [hk] at h0; exact absurd h0 (by decide)
  · rw [hk] at h0; exact absurd h0 (by decide)
  · have la : skOne KA i < i := hs.2 _ (by omega)
    have ba := hb (skOne KA i + 1) (skOne KA i) (by omega) (by omega)
    have hO : (ON i).toNatClampNeg = skOne KA i := by rw [h4]; exact nI_tn (show skOne KA i < 2147483648 by omega)
    refine ⟨h3, la, ?_⟩
    rw [hW i j hi hj]
    generalize hop : W (49 * skOne KA i + j) = op at ba
    have n10 : ¬ (1 : Int32) = 0 := by decide
    have n20 : ¬ (2 : Int32) = 0 := by decide
    have n21 : ¬ (2 : Int32) = 1 := by decide
    have n30 : ¬ (3 : Int32) = 0 := by decide
    have n31 : ¬ (3 : Int32) = 1 := by decide
    have n32 : ¬ (3 : Int32) = 2 := by decide
    rcases four h2 with z | z | z | z
    · rw [tPart_10 (by rw [h1, z]; rfl), hO, hop, bnd_k6, k6_self (bIn_neg ba), z]
      exact ⟨rfl, fun q => absurd q (by decide), fun q => absurd q (by decide)⟩
    · rw [tPart_11 (by rw [h1, z]; rfl), hO, hop, bnd_k6, z]
      refine ⟨?_, fun q => absurd q (by decide), fun q => absurd q (by decide)⟩
      unfold oneR jabs
      rw [if_neg n10, if_pos rfl]
      by_cases c : 0 ≤ op
      · rw [if_pos c, if_pos c, k6_self ba]
      · rw [if_neg c, if_neg c, k6_self (bIn_neg ba), Int32.zero_sub]
    · rw [tPart_12 (by rw [h1, z]; rfl), hO, hop, bnd_k6, z]
      refine ⟨?_, fun _ => rfl, fun q => absurd q (by decide)⟩
      unfold oneR
      rw [if_neg n20, if_neg n21, if_pos rfl]
      by_cases c : j = 0
      · rw [if_pos c, if_pos ((nI_z0 (by omega)).mpr c), Int32.sub_self]; decide
      · rw [if_neg c, if_neg (fun q => c ((nI_z0 (by omega)).mp q)), c2 z (by omega), show 49 * skOne KA i + j - 1 = 49 * skOne KA i + (j - 1) by omega]
    · have e : (if j = 0 then mBnd op.toInt64 else mBnd (op + W (49 * i + j - 1)).toInt64) = jk6 (ca + op).toInt64 := by
        rw [c3 z, bnd_k6, bnd_k6]
        by_cases c : j = 0
        · rw [if_pos c, if_pos c, Int32.zero_add]
        · rw [if_neg c, if_neg c, show 49 * i + j - 1 = 49 * i + (j - 1) by omega, Int32.add_comm]
      rw [tPart_13 (by rw [h1, z]; rfl), hO, hop, e, z]
      refine ⟨?_, fun q => absurd q (by decide), fun _ => ?_⟩
      · unfold oneR; rw [if_neg n30, if_neg n31, if_neg n32]
      · unfold oneC; rw [if_neg n30, if_neg n31, if_neg n32]
  · rw [hk] at h0; exact absurd h0 (by decide)
theorem tr_two {KA DA f0 f1 PT ON TW CU W : Nat → Int32} {r pn kk i : Nat} (h : trOK KA DA f0 f1 PT ON TW CU W r pn kk) (hi : i < pn) (hk : KA i = 3) {j : Nat} (hj : j < kk) :
    2 ≤ (skx KA i).1 ∧ W (49 * i + j) = twoR (DA i) (W (49 * skTwo KA i + j)) (W (49 * skOne KA i + j)) := by
  obtain ⟨hp, hq, hR, hW, hf⟩ := h
  have hs := skx_le KA i
  rcases hR i hi with ⟨h0, -⟩ | ⟨h0, -⟩ | ⟨h0, -⟩ | ⟨-, h1, h2, h3, h4, h5⟩
  · rw [hk] at h0; exact absurd h0 (by decide)
  · rw [hk] at h0; exact absurd h0 (by decide)
  · rw [hk] at h0; exact absurd h0 (by decide)
  · have la : skOne KA i < i := hs.2 _ (by omega)
    have lb : skTwo KA i < i := hs.2 _ (by omega)
    have hO : (ON i).toNatClampNeg = skTwo KA i := by rw [h4]; exact nI_tn (show skTwo KA i < 2147483648 by omega)
    have hT : (TW i).toNatClampNeg = skOne KA i := by rw [h5]; exact nI_tn (show skOne KA i < 2147483648 by omega)
    refine ⟨h3, ?_⟩
    rw [hW i j hi hj]
    have n10 : ¬ (1 : Int32) = 0 := by decide
    have n20 : ¬ (2 : Int32) = 0 := by decide
    have n21 : ¬ (2 : Int32) = 1 := by decide
    have n30 : ¬ (3 : Int32) = 0 := by decide
    have n31 : ¬ (3 : Int32) = 1 := by decide
    have n32 : ¬ (3 : Int32) = 2 := by decide
    have n40 : ¬ (4 : Int32) = 0 := by decide
    have n41 : ¬ (4 : Int32) = 1 := by decide
    have n42 : ¬ (4 : Int32) = 2 := by decide
    have n43 : ¬ (4 : Int32) = 3 := by decide
    rcases five h2 with z | z | z | z | z
    · rw [tPart_20 (by rw [h1, z]; rfl), hO, hT, bnd_k6, z]; unfold twoR; rw [if_pos rfl]
    · rw [tPart_21 (by rw [h1, z]; rfl), hO, hT, bnd_k6, z]; unfold twoR; rw [if_neg n10, if_pos rfl]
    · rw [tPart_22 (by rw [h1, z]; rfl), hO, hT, bnd_k6, z]; unfold twoR; rw [if_neg n20, if_neg n21, if_pos rfl]
    · rw [tPart_23 (by rw [h1, z]; rfl), hO, hT, z]; unfold twoR jmin; rw [if_neg n30, if_neg n31, if_neg n32, if_pos rfl]
      generalize W (49 * skOne KA i + j) = b
      generalize W (49 * skTwo KA i + j) = a
      by_cases c : b < a
      · rw [if_pos c, if_pos (Int32.le_of_lt c)]
      · rw [if_neg c]
        by_cases c2 : b ≤ a
        · rw [if_pos c2]; exact Int32.le_antisymm c2 (Int32.not_lt.mp c)
        · rw [if_neg c2]
    · rw [tPart_24 (by rw [h1, z]; rfl), hO, hT, z]; unfold twoR jmax; rw [if_neg n40, if_neg n41, if_neg n42, if_neg n43]
      generalize W (49 * skOne KA i + j) = b
      generalize W (49 * skTwo KA i + j) = a
      by_cases c : b ≤ a
      · rw [if_pos c, if_neg (Int32.not_lt.mpr c)]
      · rw [if_neg c, if_pos (Int32.not_le.mp c)]
/-- what is carried ahead of place j -/
def caOK (KA DA W CA : Nat → Int32) (pn j : Nat) : Prop := ∀ i, i < pn → KA i = 2 → (DA i = 2 → 0 < j → CA i = W (49 * skOne KA i + (j - 1))) ∧ (DA i = 3 → CA i = if j = 0 then 0 else W (49 * i + (j - 1)))
theorem tr_run {KA DA f0 f1 PT ON TW CU W : Nat → Int32} {r pn kk : Nat} (h : trOK KA DA f0 f1 PT ON TW CU W r pn kk) {j : Nat} (hj : j < kk) (ST CA : Nat → Int32) (hC : caOK KA DA W CA pn j) (q : Nat) (hq : q ≤ pn) :
    (crun KA DA f0 f1 j ST CA q).1 = (skx KA q).1 ∧ (∀ z, z < (skx KA q).1 → (crun KA DA f0 f1 j ST CA q).2.1 z = W (49 * (skx KA q).2 z + j)) ∧ (∀ i, q ≤ i → (crun KA DA f0 f1 j ST CA q).2.2 i = CA i) ∧ ∀ i, i < q → KA i = 2 → (DA i = 2 → (crun KA DA f0 f1 j ST CA q).2.2 i = W (49 * skOne KA i + j)) ∧ (DA i = 3 → (crun KA DA f0 f1 j ST CA q).2.2 i = W (49 * i + j)) := by
  induction q with
  | zero => exact ⟨rfl, fun z hz => absurd hz (Nat.not_lt_zero _), fun _ _ => rfl, fun i hi => absurd hi (Nat.not_lt_zero _)⟩
  | succ q ih =>
    obtain ⟨i1, i2, i3, i4⟩ := ih (by omega)
    have hl := skx_le KA q
    have hp := h.1
    rw [crun]
    generalize crun KA DA f0 f1 j ST CA q = F at i1 i2 i3 i4 ⊢
    unfold cstep
    rw [skx, i1]
    by_cases c3 : KA q = 3
    · obtain ⟨t1, t2⟩ := tr_two h (show q < pn by omega) c3 hj
      rw [if_pos c3, if_pos ⟨c3, t1⟩]
      refine ⟨rfl, fun z hz => ?_, fun i hi => i3 i (by omega), fun i hi hk => ?_⟩
      · show upd F.2.1 ((skx KA q).1 - 1 - 1) _ z = W (49 * updN (skx KA q).2 ((skx KA q).1 - 2) q z + j)
        have hz2 : z < (skx KA q).1 - 1 := hz
        by_cases e : z = (skx KA q).1 - 2
        · rw [e, updN_s, show (skx KA q).1 - 1 - 1 = (skx KA q).1 - 2 by omega, pk_us, i2 _ (by omega), i2 _ (by omega), t2]; rfl
        · rw [updN_n e, pk_un (by omega)]; exact i2 z (by omega)
      · have e : i ≠ q := fun e => by rw [e, c3] at hk; exact absurd hk (by decide)
        exact i4 i (by omega) hk
    · rw [if_neg c3, if_neg (fun y => c3 y.1)]
      by_cases c2 : KA q = 2
      · obtain ⟨b1, b2⟩ := hC q (by omega) c2
        obtain ⟨t1, t2, t3, t4, t5⟩ := tr_one h (show q < pn by omega) c2 hj (CA q) b1 b2
        rw [if_pos c2, if_pos ⟨c2, t1⟩, i3 q (Nat.le_refl _), i2 _ (show (skx KA q).1 - 1 < (skx KA q).1 by omega)]
        refine ⟨rfl, fun z hz => ?_, fun i hi => ?_, fun i hi hk => ?_⟩
        · show upd F.2.1 ((skx KA q).1 - 1) _ z = W (49 * updN (skx KA q).2 ((skx KA q).1 - 1) q z + j)
          by_cases e : z = (skx KA q).1 - 1
          · rw [e, updN_s, pk_us, t3]; rfl
          · rw [updN_n e, pk_un e]; exact i2 z hz
        · show upd F.2.2 q _ i = CA i
          rw [pk_un (by omega)]; exact i3 i (by omega)
        · show (_ → upd F.2.2 q _ i = _) ∧ (_ → upd F.2.2 q _ i = _)
          by_cases e : i = q
          · subst e; rw [pk_us]; exact ⟨t4, t5⟩
          · rw [pk_un e]; exact i4 i (by omega) hk
      · rw [if_neg c2, if_neg (fun y => c2 y.1)]
        have hk : KA q = 0 ∨ KA q = 1 := by
          rcases h.2.2.1 q (by omega) with ⟨y, -⟩ | ⟨y, -⟩ | ⟨y, -⟩ | ⟨y, -⟩
          · exact Or.inl y
          · exact Or.inr y
          · exact absurd y c2
          · exact absurd y c3
        rw [if_pos (show (skx KA q).1 < 16 by omega), ← tr_pre h (by omega) hk hj]
        refine ⟨rfl, fun z hz => ?_, fun i hi => i3 i (by omega), fun i hi hk2 => ?_⟩
        · show upd F.2.1 (skx KA q).1 _ z = W (49 * updN (skx KA q).2 (skx KA q).1 q z + j)
          have hz2 : z < (skx KA q).1 + 1 := hz
          by_cases e : z = (skx KA q).1
          · rw [e, updN_s, pk_us]
          · rw [updN_n e, pk_un e]; exact i2 z (by omega)
        · have e : i ≠ q := fun e => by rw [e] at hk2; exact c2 hk2
          exact i4 i (by omega) hk2
theorem tr_fill {KA DA f0 f1 PT ON TW CU W : Nat → Int32} {r pn kk : Nat} (h : trOK KA DA f0 f1 PT ON TW CU W r pn kk) (h1 : 1 ≤ (skx KA pn).1) (RW ST CA : Nat → Int32) (n : Nat) (hn : n ≤ kk) :
    caOK KA DA W (cfill KA DA f0 f1 pn RW ST (jfill 16 0 CA) n).2.2 pn n ∧ ∀ j, j < n → (cfill KA DA f0 f1 pn RW ST (jfill 16 0 CA) n).1 j = W (49 * (skx KA pn).2 0 + j) := by
  induction n with
  | zero =>
    have hp := h.1
    refine ⟨fun i hi _ => ⟨fun _ q => absurd q (by decide), fun _ => ?_⟩, fun j hj => absurd hj (Nat.not_lt_zero _)⟩
    show jfill 16 0 CA i = _
    unfold jfill
    rw [if_pos (show i < 16 by omega), if_pos rfl]
  | succ n ih =>
    obtain ⟨a1, a2⟩ := ih (by omega)
    have hr := tr_run h (show n < kk by omega) (cfill KA DA f0 f1 pn RW ST (jfill 16 0 CA) n).2.1 _ a1 pn (Nat.le_refl _)
    rw [cfill]
    refine ⟨fun i hi hk => ?_, fun j hj => ?_⟩
    · obtain ⟨b1, b2⟩ := hr.2.2.2 i hi hk
      refine ⟨fun q _ => b1 q, fun q => ?_⟩
      rw [if_neg (Nat.succ_ne_zero n)]
      exact b2 q
    · show upd _ n _ j = _
      by_cases e : j = n
      · rw [e, pk_us]; exact hr.2.1 0 h1
      · rw [pk_un e]; exact a2 j (by omega)
