/-! the expression, both sides -/
def updN (f : Nat → Nat) (k v : Nat) : Nat → Nat := fun j => if j = k then v else f j
theorem updN_s {f : Nat → Nat} {k v : Nat} : updN f k v k = v := if_pos rfl
theorem updN_n {f : Nat → Nat} {k v j : Nat} (h : j ≠ k) : updN f k v j = f j := if_neg h
/-- the stack of part numbers behind q parts -/
def skx (KA : Nat → Int32) : Nat → Nat × (Nat → Nat)
  | 0 => (0, fun _ => 0)
  | q + 1 => if KA q = 3 then ((skx KA q).1 - 1, updN (skx KA q).2 ((skx KA q).1 - 2) q) else if KA q = 2 then ((skx KA q).1, updN (skx KA q).2 ((skx KA q).1 - 1) q) else ((skx KA q).1 + 1, updN (skx KA q).2 (skx KA q).1 q)
theorem skx_le (KA : Nat → Int32) (q : Nat) : (skx KA q).1 ≤ q ∧ ∀ j, j < (skx KA q).1 → (skx KA q).2 j < q := by
  induction q with
  | zero => exact ⟨Nat.le_refl _, fun j hj => absurd hj (Nat.not_lt_zero _)⟩
  | succ q ih =>
    obtain ⟨h1, h2⟩ := ih
    rw [skx]
    have hu : ∀ (p z : Nat), (∀ j, j < z → j ≠ p → j < (skx KA q).1) → ∀ j, j < z → updN (skx KA q).2 p q j < q + 1 := by
      intro p z hz j hj
      by_cases e : j = p
      · rw [e, updN_s]; omega
      · rw [updN_n e]; have := h2 j (hz j hj e); omega
    by_cases c3 : KA q = 3
    · rw [if_pos c3]; exact ⟨by dsimp only; omega, hu _ _ (fun j hj _ => by dsimp only at hj; omega)⟩
    · rw [if_neg c3]
      by_cases c2 : KA q = 2
      · rw [if_pos c2]; exact ⟨by dsimp only; omega, hu _ _ (fun j hj _ => hj)⟩
      · rw [if_neg c2]; exact ⟨by dsimp only; omega, hu _ _ (fun j hj e => by dsimp only at hj; omega)⟩
theorem skx_congr {KA KB : Nat → Int32} (q : Nat) (h : ∀ i, i < q → KA i = KB i) : skx KA q = skx KB q := by
  induction q with
  | zero => rfl
  | succ q ih => rw [skx, skx, ih (fun i hi => h i (by omega)), h q (by omega)]
/-- part i says the same on both sides -/
def parR (KA DA PT ON TW : Nat → Int32) (i : Nat) : Prop :=
  (KA i = 0 ∧ PT i = DA i ∧ (DA i = 0 ∨ DA i = 1)) ∨ (KA i = 1 ∧ PT i = 2 ∧ ON i = DA i ∧ jin (DA i) (-1000) 1000) ∨
  (KA i = 2 ∧ PT i = 10 + DA i ∧ jin (DA i) 0 3 ∧ 1 ≤ (skx KA i).1 ∧ ON i = nI ((skx KA i).2 ((skx KA i).1 - 1))) ∨
  (KA i = 3 ∧ PT i = 20 + DA i ∧ jin (DA i) 0 4 ∧ 2 ≤ (skx KA i).1 ∧ ON i = nI ((skx KA i).2 ((skx KA i).1 - 2)) ∧ TW i = nI ((skx KA i).2 ((skx KA i).1 - 1)))
def expR (KA DA PT ON TW SK : Nat → Int32) (pn ht : Nat) : Prop := pn ≤ 16 ∧ (skx KA pn).1 = ht ∧ (∀ j, j < ht → SK j = nI ((skx KA pn).2 j)) ∧ ∀ i, i < pn → parR KA DA PT ON TW i
theorem four {x : Int32} (h : jin x 0 3) : x = 0 ∨ x = 1 ∨ x = 2 ∨ x = 3 := by
  obtain ⟨j, hj, rfl⟩ := jin_nat 3 h (by decide) rfl
  have : j = 0 ∨ j = 1 ∨ j = 2 ∨ j = 3 := by omega
  rcases this with rfl | rfl | rfl | rfl
  · exact Or.inl rfl
  · exact Or.inr (Or.inl rfl)
  · exact Or.inr (Or.inr (Or.inl rfl))
  · exact Or.inr (Or.inr (Or.inr rfl))
theorem five {x : Int32} (h : jin x 0 4) : x = 0 ∨ x = 1 ∨ x = 2 ∨ x = 3 ∨ x = 4 := by
  obtain ⟨j, hj, rfl⟩ := jin_nat 4 h (by decide) rfl
  have : j = 0 ∨ j = 1 ∨ j = 2 ∨ j = 3 ∨ j = 4 := by omega
  rcases this with rfl | rfl | rfl | rfl | rfl
  · exact Or.inl rfl
  · exact Or.inr (Or.inl rfl)
  · exact Or.inr (Or.inr (Or.inl rfl))
  · exact Or.inr (Or.inr (Or.inr (Or.inl rfl)))
  · exact Or.inr (Or.inr (Or.inr (Or.inr rfl)))
theorem parR_ok {KA DA PT ON TW : Nat → Int32} {i : Nat} (h : parR KA DA PT ON TW i) : pOK PT ON TW i := by
  have hs := skx_le KA i
  rcases h with ⟨-, h1, h2⟩ | ⟨-, h1, -⟩ | ⟨-, h1, h2, h3, h4⟩ | ⟨-, h1, h2, h3, h4, h5⟩
  · rcases h2 with h2 | h2
    · exact Or.inl (h1.trans h2)
    · exact Or.inr (Or.inl (h1.trans h2))
  · exact Or.inr (Or.inr (Or.inl h1))
  · refine Or.inr (Or.inr (Or.inr (Or.inl ⟨?_, _, hs.2 _ (by omega), h4⟩)))
    rcases four h2 with z | z | z | z <;> rw [h1, z] <;> decide
  · refine Or.inr (Or.inr (Or.inr (Or.inr ⟨?_, _, _, hs.2 _ (by omega), hs.2 _ (by omega), h4, h5⟩)))
    rcases five h2 with z | z | z | z | z <;> rw [h1, z] <;> decide
theorem parR_congr {KA DA PT ON TW KB DB PU OM TX : Nat → Int32} {i : Nat} (h : parR KA DA PT ON TW i) (hk : ∀ j, j ≤ i → KB j = KA j) (hd : DB i = DA i) (hp : PU i = PT i) (ho : OM i = ON i) (ht : TX i = TW i) : parR KB DB PU OM TX i := by
  unfold parR at h ⊢
  rw [hk i (Nat.le_refl _), hd, hp, ho, ht, skx_congr i (fun j hj => hk j (by omega))]
  exact h
theorem expR_0 (KA DA PT ON TW SK : Nat → Int32) : expR KA DA PT ON TW SK 0 0 := ⟨by decide, rfl, fun j hj => absurd hj (Nat.not_lt_zero _), fun i hi => absurd hi (Nat.not_lt_zero _)⟩
theorem expR_put {KA DA PT ON TW SK : Nat → Int32} {pn ht : Nat} (h : expR KA DA PT ON TW SK pn ht) (hp : pn < 16) (kd d wh a b : Int32) (np : Nat) (hk : (kd = 0 ∧ wh = d ∧ (d = 0 ∨ d = 1) ∧ np = ht) ∨ (kd = 1 ∧ wh = 2 ∧ a = d ∧ jin d (-1000) 1000 ∧ np = ht) ∨ (kd = 2 ∧ wh = 10 + d ∧ jin d 0 3 ∧ 1 ≤ ht ∧ a = SK (ht - 1) ∧ np = ht - 1) ∨ (kd = 3 ∧ wh = 20 + d ∧ jin d 0 4 ∧ 2 ≤ ht ∧ a = SK (ht - 2) ∧ b = SK (ht - 2 + 1) ∧ np = ht - 2)) :
    expR (upd KA pn kd) (upd DA pn d) (upd PT pn wh) (upd ON pn a) (upd TW pn b) (upd SK np (nI pn)) (pn + 1) (np + 1) := by
  obtain ⟨h1, h2, h3, h4⟩ := h
  have ek : ∀ j, j < pn → upd KA pn kd j = KA j := fun j hj => pk_un (by omega)
  have es : skx (upd KA pn kd) pn = skx KA pn := skx_congr pn ek
  have hn : skx (upd KA pn kd) (pn + 1) = (np + 1, updN (skx KA pn).2 np pn) := by
    rw [skx, es, pk_us, h2]
    rcases hk with ⟨z, -, -, q⟩ | ⟨z, -, -, -, q⟩ | ⟨z, -, -, q1, -, q⟩ | ⟨z, -, -, q1, -, -, q⟩
    · rw [z, if_neg (by decide), if_neg (by decide), q]
    · rw [z, if_neg (by decide), if_neg (by decide), q]
    · rw [z, if_neg (by decide), if_pos rfl, q, show ht - 1 + 1 = ht by omega]
    · rw [z, if_pos rfl, q, show ht - 2 + 1 = ht - 1 by omega]
  have hnp : np ≤ ht := by rcases hk with ⟨-, -, -, q⟩ | ⟨-, -, -, -, q⟩ | ⟨-, -, -, -, -, q⟩ | ⟨-, -, -, -, -, -, q⟩ <;> omega
  refine ⟨by omega, by rw [hn], fun j hj => ?_, fun i hi => ?_⟩
  · rw [hn]
    show upd SK np (nI pn) j = nI (updN (skx KA pn).2 np pn j)
    by_cases e : j = np
    · rw [e, pk_us, updN_s]
    · rw [pk_un e, updN_n e]; exact h3 j (by omega)
  · by_cases e : i = pn
    · subst e
      unfold parR
      rw [pk_us, pk_us, pk_us, pk_us, pk_us, es, h2]
      rcases hk with ⟨z1, z2, z3, -⟩ | ⟨z1, z2, z3, z4, -⟩ | ⟨z1, z2, z3, z4, z5, -⟩ | ⟨z1, z2, z3, z4, z5, z6, -⟩
      · exact Or.inl ⟨z1, z2, z3⟩
      · exact Or.inr (Or.inl ⟨z1, z2, z3, z4⟩)
      · exact Or.inr (Or.inr (Or.inl ⟨z1, z2, z3, z4, z5.trans (h3 _ (by omega))⟩))
      · refine Or.inr (Or.inr (Or.inr ⟨z1, z2, z3, z4, z5.trans (h3 _ (by omega)), ?_⟩))
        rw [z6, show ht - 2 + 1 = ht - 1 by omega]; exact h3 _ (by omega)
    · exact parR_congr (h4 i (by omega)) (fun j hj => pk_un (by omega)) (pk_un e) (pk_un e) (pk_un e) (pk_un e)
/-! the traces' own equation -/
theorem tPart_0 {CU PT ON TW TC : Nat → Int32} {r i j : Nat} (h : PT i = 0) : tPart CU PT ON TW TC r i j = mcol CU r 0 j := by simp [tPart, h]
theorem tPart_1 {CU PT ON TW TC : Nat → Int32} {r i j : Nat} (h : PT i = 1) : tPart CU PT ON TW TC r i j = mcol CU r 1 j := by simp [tPart, h]
theorem tPart_2 {CU PT ON TW TC : Nat → Int32} {r i j : Nat} (h : PT i = 2) : tPart CU PT ON TW TC r i j = ON i := by simp [tPart, h]
theorem tPart_10 {CU PT ON TW TC : Nat → Int32} {r i j : Nat} (h : PT i = 10) : tPart CU PT ON TW TC r i j = mBnd (-(TC (49 * (ON i).toNatClampNeg + j))).toInt64 := by simp [tPart, h]
theorem tPart_11 {CU PT ON TW TC : Nat → Int32} {r i j : Nat} (h : PT i = 11) : tPart CU PT ON TW TC r i j = mBnd (if 0 ≤ TC (49 * (ON i).toNatClampNeg + j) then (TC (49 * (ON i).toNatClampNeg + j)).toInt64 else (-(TC (49 * (ON i).toNatClampNeg + j))).toInt64) := by simp [tPart, h]
theorem tPart_12 {CU PT ON TW TC : Nat → Int32} {r i j : Nat} (h : PT i = 12) : tPart CU PT ON TW TC r i j = (if j = 0 then 0 else mBnd (TC (49 * (ON i).toNatClampNeg + j) - TC (49 * (ON i).toNatClampNeg + j - 1)).toInt64) := by simp [tPart, h]
theorem tPart_13 {CU PT ON TW TC : Nat → Int32} {r i j : Nat} (h : PT i = 13) : tPart CU PT ON TW TC r i j = (if j = 0 then mBnd (TC (49 * (ON i).toNatClampNeg + j)).toInt64 else mBnd (TC (49 * (ON i).toNatClampNeg + j) + TC (49 * i + j - 1)).toInt64) := by simp [tPart, h]
theorem tPart_20 {CU PT ON TW TC : Nat → Int32} {r i j : Nat} (h : PT i = 20) : tPart CU PT ON TW TC r i j = mBnd (TC (49 * (ON i).toNatClampNeg + j) + TC (49 * (TW i).toNatClampNeg + j)).toInt64 := by simp [tPart, h]
theorem tPart_21 {CU PT ON TW TC : Nat → Int32} {r i j : Nat} (h : PT i = 21) : tPart CU PT ON TW TC r i j = mBnd (TC (49 * (ON i).toNatClampNeg + j) - TC (49 * (TW i).toNatClampNeg + j)).toInt64 := by simp [tPart, h]
theorem tPart_22 {CU PT ON TW TC : Nat → Int32} {r i j : Nat} (h : PT i = 22) : tPart CU PT ON TW TC r i j = mBnd ((TC (49 * (ON i).toNatClampNeg + j)).toInt64 * (TC (49 * (TW i).toNatClampNeg + j)).toInt64) := by simp [tPart, h]
theorem tPart_23 {CU PT ON TW TC : Nat → Int32} {r i j : Nat} (h : PT i = 23) : tPart CU PT ON TW TC r i j = (if TC (49 * (TW i).toNatClampNeg + j) ≤ TC (49 * (ON i).toNatClampNeg + j) then TC (49 * (TW i).toNatClampNeg + j) else TC (49 * (ON i).toNatClampNeg + j)) := by simp [tPart, h]
theorem tPart_24 {CU PT ON TW TC : Nat → Int32} {r i j : Nat} (h : PT i = 24) : tPart CU PT ON TW TC r i j = (if TC (49 * (TW i).toNatClampNeg + j) ≤ TC (49 * (ON i).toNatClampNeg + j) then TC (49 * (ON i).toNatClampNeg + j) else TC (49 * (TW i).toNatClampNeg + j)) := by simp [tPart, h]
theorem tPart_congr (CU PT ON TW : Nat → Int32) {TC TD : Nat → Int32} {r i j : Nat} (hok : pOK PT ON TW i) (hi : i < 16) (h1 : ∀ a, a < i → TC (49 * a + j) = TD (49 * a + j)) (h2 : 0 < j → ∀ a, a ≤ i → TC (49 * a + j - 1) = TD (49 * a + j - 1)) : tPart CU PT ON TW TC r i j = tPart CU PT ON TW TD r i j := by
  rcases hok with h | h | h | ⟨h, a, ha, hO⟩ | ⟨h, a, b, ha, hb, hO, hT⟩
  · rw [tPart_0 h, tPart_0 h]
  · rw [tPart_1 h, tPart_1 h]
  · rw [tPart_2 h, tPart_2 h]
  · have ea := h1 a ha
    rcases h with h | h | h | h
    · rw [tPart_10 h, tPart_10 h, hO, nI_tn (by omega), ea]
    · rw [tPart_11 h, tPart_11 h, hO, nI_tn (by omega), ea]
    · rw [tPart_12 h, tPart_12 h, hO, nI_tn (by omega), ea]
      by_cases z : j = 0
      · rw [if_pos z, if_pos z]
      · rw [if_neg z, if_neg z, h2 (by omega) a (by omega)]
    · rw [tPart_13 h, tPart_13 h, hO, nI_tn (by omega), ea]
      by_cases z : j = 0
      · rw [if_pos z, if_pos z]
      · rw [if_neg z, if_neg z, h2 (by omega) i (by omega)]
  · have ea := h1 a ha
    have eb := h1 b hb
    rcases h with h | h | h | h | h
    · rw [tPart_20 h, tPart_20 h, hO, hT, nI_tn (by omega), nI_tn (by omega), ea, eb]
    · rw [tPart_21 h, tPart_21 h, hO, hT, nI_tn (by omega), nI_tn (by omega), ea, eb]
    · rw [tPart_22 h, tPart_22 h, hO, hT, nI_tn (by omega), nI_tn (by omega), ea, eb]
    · rw [tPart_23 h, tPart_23 h, hO, hT, nI_tn (by omega), nI_tn (by omega), ea, eb]
    · rw [tPart_24 h, tPart_24 h, hO, hT, nI_tn (by omega), nI_tn (by omega), ea, eb]
theorem wrow_out (CU PT ON TW : Nat → Int32) (r i : Nat) (TC : Nat → Int32) (n z : Nat) (h : z < 49 * i ∨ 49 * i + n ≤ z) : wrow CU PT ON TW r i TC n z = TC z := by
  induction n with
  | zero => rfl
  | succ n ih => rw [wrow_s, pk_un (by omega)]; exact ih (by omega)
theorem wrow_in (CU PT ON TW : Nat → Int32) (r i : Nat) (TC : Nat → Int32) (n j : Nat) (hj : j < n) : wrow CU PT ON TW r i TC n (49 * i + j) = tPart CU PT ON TW (wrow CU PT ON TW r i TC j) r i j := by
  induction n with
  | zero => omega
  | succ n ih =>
    rw [wrow_s]
    by_cases e : j = n
    · subst e; rw [pk_us]
    · rw [pk_un (by omega)]; exact ih (by omega)
theorem wrow_keep (CU PT ON TW : Nat → Int32) (r i : Nat) (TC : Nat → Int32) (n m z : Nat) (hm : m ≤ n) (h : z < 49 * i + m) : wrow CU PT ON TW r i TC n z = wrow CU PT ON TW r i TC m z := by
  induction n with
  | zero => rw [show m = 0 by omega]
  | succ n ih =>
    by_cases e : m = n + 1
    · rw [e]
    · rw [wrow_s, pk_un (by omega)]; exact ih (by omega)
theorem wall_keep (CU PT ON TW : Nat → Int32) (r kk : Nat) (TC : Nat → Int32) (hk : kk ≤ 49) (n m z : Nat) (hm : m ≤ n) (h : z < 49 * m) : wall CU PT ON TW r kk TC n z = wall CU PT ON TW r kk TC m z := by
  induction n with
  | zero => rw [show m = 0 by omega]
  | succ n ih =>
    by_cases e : m = n + 1
    · rw [e]
    · rw [wall_s, wrow_out _ _ _ _ _ _ _ _ _ (by omega)]; exact ih (by omega)
theorem wall_fix {CU PT ON TW : Nat → Int32} {r kk : Nat} (TC : Nat → Int32) {pn : Nat} (hk : kk ≤ 49) (hp : pn ≤ 16) (hok : ∀ i, i < pn → pOK PT ON TW i) {i j : Nat} (hi : i < pn) (hj : j < kk) : wall CU PT ON TW r kk TC pn (49 * i + j) = tPart CU PT ON TW (wall CU PT ON TW r kk TC pn) r i j := by
  rw [wall_keep CU PT ON TW r kk TC hk pn (i + 1) (49 * i + j) (by omega) (by omega), wall_s, wrow_in _ _ _ _ _ _ _ _ _ hj]
  refine tPart_congr CU PT ON TW (hok i hi) (by omega) (fun a ha => ?_) (fun h0 a ha => ?_)
  · rw [wrow_out _ _ _ _ _ _ _ _ _ (by omega), wall_keep CU PT ON TW r kk TC hk pn i (49 * a + j) (by omega) (by omega)]
  · by_cases e : a = i
    · subst e
      rw [wall_keep CU PT ON TW r kk TC hk pn (a + 1) (49 * a + j - 1) (by omega) (by omega), wall_s, wrow_keep CU PT ON TW r a _ kk j (49 * a + j - 1) (by omega) (by omega)]
    · rw [wrow_out _ _ _ _ _ _ _ _ _ (by omega), wall_keep CU PT ON TW r kk TC hk pn i (49 * a + j - 1) (by omega) (by omega)]
/-! bounds -/
theorem mBnd_eq (v : Int64) : mBnd v = if -1000000 ≤ v then (if v ≤ 1000000 then v.toInt32 else 1000000) else -1000000 := by
  unfold mBnd
  by_cases c1 : -1000000 ≤ v
  · rw [if_pos c1, if_pos ((lg_cmp_ge _ _).mpr c1)]
    by_cases c2 : v ≤ 1000000
    · rw [if_pos c2, if_pos ((lg_cmp_le _ _).mpr c2)]
    · rw [if_neg c2, if_neg (fun q => c2 ((lg_cmp_le _ _).mp q))]
  · rw [if_neg c1, if_neg (fun q => c1 ((lg_cmp_ge _ _).mp q))]
theorem bnd_k6 (v : Int64) : mBnd v = jk6 v := by
  rw [mBnd_eq]
  unfold jk6 jkept jmaxL jminL
  have e1 : (1000000 : Int32).toInt64 = 1000000 := by decide
  have e2 : (-1000000 : Int32).toInt64 = -1000000 := by decide
  have e3 : (-1000000 : Int64).toInt = -1000000 := by decide
  have e4 : (1000000 : Int64).toInt = 1000000 := by decide
  rw [e1, e2]
  by_cases c1 : -1000000 ≤ v
  · rw [if_pos c1]
    have d1 := Int64.le_iff_toInt_le.mp c1
    by_cases c2 : v ≤ 1000000
    · rw [if_pos c2]
      have d2 := Int64.le_iff_toInt_le.mp c2
      by_cases c3 : v < 1000000
      · rw [if_pos c3, if_neg (show ¬ v < -1000000 from fun q => by have := Int64.lt_iff_toInt_lt.mp q; omega)]
      · have e5 : v = 1000000 := by
          apply Int64.toInt_inj.mp
          have : ¬ v.toInt < (1000000 : Int64).toInt := fun y => c3 (Int64.lt_iff_toInt_lt.mpr y)
          omega
        rw [e5]; rfl
    · rw [if_neg c2]
      have d2 : ¬ v.toInt ≤ (1000000 : Int64).toInt := fun y => c2 (Int64.le_iff_toInt_le.mpr y)
      rw [if_neg (show ¬ v < 1000000 from fun q => by have := Int64.lt_iff_toInt_lt.mp q; omega)]; rfl
  · rw [if_neg c1]
    have d1 : ¬ (-1000000 : Int64).toInt ≤ v.toInt := fun y => c1 (Int64.le_iff_toInt_le.mpr y)
    rw [if_pos (show v < 1000000 from Int64.lt_iff_toInt_lt.mpr (by omega)), if_pos (show v < -1000000 from Int64.lt_iff_toInt_lt.mpr (by omega))]; rfl
/-- a value of a trace -/
def bIn (x : Int32) : Prop := -1000000 ≤ x.toInt ∧ x.toInt ≤ 1000000
theorem k6_in {v : Int64} (h1 : -1000000 ≤ v.toInt) (h2 : v.toInt ≤ 1000000) : jk6 v = v.toInt32 := by
  have e3 : (-1000000 : Int64).toInt = -1000000 := by decide
  have e4 : (1000000 : Int64).toInt = 1000000 := by decide
  rw [← bnd_k6, mBnd_eq, if_pos (Int64.le_iff_toInt_le.mpr (by omega)), if_pos (Int64.le_iff_toInt_le.mpr (by omega))]
theorem k6_bIn (v : Int64) : bIn (jk6 v) := by
  have e3 : (-1000000 : Int64).toInt = -1000000 := by decide
  have e4 : (1000000 : Int64).toInt = 1000000 := by decide
  rw [← bnd_k6, mBnd_eq]
  by_cases c1 : -1000000 ≤ v
  · rw [if_pos c1]
    have d1 := Int64.le_iff_toInt_le.mp c1
    by_cases c2 : v ≤ 1000000
    · rw [if_pos c2]
      have d2 := Int64.le_iff_toInt_le.mp c2
      unfold bIn
      have : v.toInt32.toInt = v.toInt := by
        rw [Int64.toInt_toInt32]
        exact Int.bmod_eq_of_le (by omega) (by omega)
      rw [this]
      omega
    · rw [if_neg c2]; unfold bIn; decide
  · rw [if_neg c1]; unfold bIn; decide
theorem k6_self {x : Int32} (h : bIn x) : jk6 x.toInt64 = x := by
  rw [k6_in (by rw [Int32.toInt_toInt64]; exact h.1) (by rw [Int32.toInt_toInt64]; exact h.2), Int32.toInt32_toInt64]
theorem bIn_neg {x : Int32} (h : bIn x) : bIn (-x) := by
  have e : (-x).toInt = -x.toInt := by
    rw [Int32.toInt_neg]
    obtain ⟨a, b⟩ := h
    apply Int.bmod_eq_of_le <;> omega
  unfold bIn at h ⊢
  rw [e]
  omega
theorem rIn_b {x : Int32} (h : rIn x) : bIn x := by
  have := rIn_T h
  unfold bIn
  omega
