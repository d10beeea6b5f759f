/-! samples: the class's memory and the reference's rows, side by side -/
def rIn (x : Int32) : Prop := jin x (-128) 127
/-- the numbers of the memory M and of the reference R -/
def numR (fi : Int32) (n : Nat) (M R : Nat → Int32) (P q r : Nat) : Prop :=
  R 24 = nI n ∧ R 17 = nI P ∧ R 18 = nI q ∧ R 28 = nI r ∧ M 1 = nI r ∧ M 4 = nI P ∧ M 5 = nI q ∧ R 19 = M 6 ∧ R 20 = M 3 ∧ R 22 = M 7 ∧ (¬ M 7 = 0 → R 23 = M 8) ∧ R 25 = fi ∧ r ≤ 8 ∧ P ≤ 16 ∧ q ≤ 32 ∧ (¬ M 3 = 0 → r < 8) ∧
  ∃ fc : Nat, fc ≤ r ∧ M 9 = nI fc ∧ R 35 = nI fc ∧ (M 10 = -1 ↔ fc = 0) ∧ (0 < fc → R 36 = M 10)
/-- the complete records -/
def cmpR (r : Nat) (K : Nat → JCap) (CU LN TG : Nat → Int32) : Prop := ∀ i, i < r → (K i).1 = TG i ∧ ∃ k : Nat, LN i = nI k ∧ 1 ≤ k ∧ k ≤ 49 ∧ (K i).2.2.1 = nI k ∧ ∀ j, j < k → (K i).2.2.2.1 j = CU (98 * i + j) ∧ (K i).2.2.2.2 j = CU (98 * i + 49 + j) ∧ rIn (CU (98 * i + j)) ∧ rIn (CU (98 * i + 49 + j))
/-- the record that is being caught, of k samples so far, with its trigger tl -/
def capR (n P q r tl k : Nat) (K : Nat → JCap) (F1 F2 : Nat → Int32) : Prop := (K r).1 = nI tl ∧ (K r).2.1 = nI (P + 1 + q) ∧ (K r).2.2.1 = nI k ∧ ∀ j, j < k → (K r).2.2.2.1 j = F1 ((n - k + j) % 64) ∧ (K r).2.2.2.2 j = F2 ((n - k + j) % 64)
def mskR (fl ce MK LO HI : Nat → Int32) : Prop := ∀ j, j < 49 → (MK j = 0 ∧ fl j = -128 ∧ ce j = 127) ∨ (MK j = 1 ∧ fl j = LO j ∧ ce j = HI j)
def rngR (F1 F2 : Nat → Int32) : Prop := ∀ z, rIn (F1 z) ∧ rIn (F2 z)
theorem rngR_u {F1 F2 : Nat → Int32} (h : rngR F1 F2) (z : Nat) {a b : Int32} (ha : rIn a) (hb : rIn b) : rngR (upd F1 z a) (upd F2 z b) := by
  intro y
  unfold upd
  split
  · exact ⟨ha, hb⟩
  · exact h y
/-- whether place j of a record offends -/
theorem off_iff {f fl ce MK LO HI : Nat → Int32} (hm : mskR fl ce MK LO HI) {j : Nat} (hj : j < 49) {g : Int32} (hg : f j = g) (hr : rIn g) : (f j < fl j ∨ ¬ f j ≤ ce j) ↔ (¬ MK j = 0 ∧ mIn g (LO j) (HI j) = 0) := by
  rw [hg]
  rcases hm j hj with ⟨m0, m1, m2⟩ | ⟨m0, m1, m2⟩
  · rw [m0, m1, m2]
    constructor
    · intro h
      rcases h with h | h
      · exact absurd h hr.1
      · exact absurd hr.2 h
    · intro h; exact absurd rfl h.1
  · rw [m0, m1, m2]
    unfold mIn
    constructor
    · intro h
      refine ⟨by decide, ?_⟩
      rcases h with h | h
      · rw [if_pos h]
      · split
        · rfl
        · rfl
    · rintro ⟨-, h⟩
      by_cases c : g < LO j
      · exact Or.inl c
      · rw [if_neg c] at h
        by_cases c2 : g ≤ HI j
        · rw [if_pos c2] at h; exact absurd h (by decide)
        · exact Or.inr c2
theorem mfnd_v (F1 MK LO HI : Nat → Int32) (s n : Nat) (i : Nat) : mfnd F1 MK LO HI s n i = -1 ∨ ∃ j : Nat, j < i ∧ mfnd F1 MK LO HI s n i = nI j := by
  induction i with
  | zero => exact Or.inl rfl
  | succ i ih =>
    have ih2 : mfnd F1 MK LO HI s n i = -1 ∨ ∃ j : Nat, j < i + 1 ∧ mfnd F1 MK LO HI s n i = nI j := ih.imp id (fun ⟨j, h1, h2⟩ => ⟨j, by omega, h2⟩)
    rw [mfnd]
    (repeat' split)
    · exact ih2
    · exact Or.inr ⟨i, by omega, rfl⟩
    · exact ih2
    · exact ih2
theorem find_eq {f fl ce F1 MK LO HI : Nat → Int32} {s w : Nat} (hm : mskR fl ce MK LO HI) (hw : w ≤ 49) (hf : ∀ j, j < w → f j = F1 ((s - w + j) % 64)) (hr : ∀ z, rIn (F1 z)) (i : Nat) (hi : i ≤ w) : jlow f fl ce w 0 = if mfnd F1 MK LO HI s w i < 0 then jlow f fl ce (w - i) i else mfnd F1 MK LO HI s w i := by
  induction i with
  | zero => rw [show mfnd F1 MK LO HI s w 0 = -1 from rfl, if_pos (show (-1 : Int32) < 0 by decide)]; rfl
  | succ i ih =>
    have ho := off_iff hm (show i < 49 by omega) (hf i (by omega)) (hr ((s - w + i) % 64))
    rw [ih (by omega)]
    have hv := mfnd_v F1 MK LO HI s w i
    rw [mfnd]
    by_cases c0 : mfnd F1 MK LO HI s w i < 0
    · rw [if_pos c0, show w - i = (w - (i + 1)) + 1 by omega, jlow]
      by_cases off : f i < fl i ∨ ¬ f i ≤ ce i
      · obtain ⟨o1, o2⟩ := ho.mp off
        rw [if_neg o1, if_pos o2, if_pos c0, if_neg (nI_pos (show i < 2147483648 by omega))]
        rcases off with q | q
        · rw [if_pos q]
        · split
          · rfl
          · rfl
      · have h1 : ¬ f i < fl i := fun q => off (Or.inl q)
        have h2 : f i ≤ ce i := Classical.byContradiction fun q => off (Or.inr q)
        have e : (if MK i = 0 then mfnd F1 MK LO HI s w i else if mIn (F1 ((s - w + i) % 64)) (LO i) (HI i) = 0 then (if mfnd F1 MK LO HI s w i < 0 then nI i else mfnd F1 MK LO HI s w i) else mfnd F1 MK LO HI s w i) = mfnd F1 MK LO HI s w i := by
          by_cases k1 : MK i = 0
          · rw [if_pos k1]
          · rw [if_neg k1, if_neg (fun q => off (ho.mpr ⟨k1, q⟩))]
        rw [e, if_pos c0, if_neg h1, if_pos h2]
    · have e : (if MK i = 0 then mfnd F1 MK LO HI s w i else if mIn (F1 ((s - w + i) % 64)) (LO i) (HI i) = 0 then (if mfnd F1 MK LO HI s w i < 0 then nI i else mfnd F1 MK LO HI s w i) else mfnd F1 MK LO HI s w i) = mfnd F1 MK LO HI s w i := by
        by_cases k1 : MK i = 0
        · rw [if_pos k1]
        · rw [if_neg k1]
          split
          · rfl
          · rfl
      rw [e, if_neg c0, if_neg c0]
theorem find_fin {f fl ce F1 MK LO HI : Nat → Int32} {s w : Nat} (hm : mskR fl ce MK LO HI) (hw : w ≤ 49) (hf : ∀ j, j < w → f j = F1 ((s - w + j) % 64)) (hr : ∀ z, rIn (F1 z)) : jlow f fl ce w 0 = mfnd F1 MK LO HI s w w := by
  rw [find_eq hm hw hf hr w (Nat.le_refl _)]
  rcases mfnd_v F1 MK LO HI s w w with h | ⟨j, hj, h⟩
  · rw [h, if_pos (show (-1 : Int32) < 0 by decide), Nat.sub_self]; rfl
  · rw [h, if_neg (nI_pos (show j < 2147483648 by omega))]
theorem jlt8 (a : Nat) (h : a < 2147483648) : nI a < (8 : Int32) ↔ a < 8 := nI_ltI (a := a) (b := 8) h (by decide)
theorem jle8 (a : Nat) (h : a < 2147483648) : (8 : Int32) ≤ nI a ↔ 8 ≤ a := nI_leI (a := 8) (b := a) (by decide) h
theorem mDone_M (M : Nat → Int32) (r : Nat) (h : M 1 = nI r) (hr : r < 8) : mDone M 1 = nI (r + 1) ∧ mDone M 3 = (if r + 1 < 8 then M 3 else 0) ∧ ∀ k, k ≠ 1 → k ≠ 3 → mDone M k = M k := by
  refine ⟨by rw [mDone_1, h, nI_1], ?_, fun k h1 h3 => mDone_k M k h1 h3⟩
  unfold mDone
  rw [h, nI_1]
  by_cases c : r + 1 < 8
  · rw [if_pos ((jlt8 _ (by omega)).mpr c), if_pos c, pk_un (by decide)]
  · rw [if_neg (fun z => c ((jlt8 _ (by omega)).mp z)), if_neg c, pk_us]
theorem mod_ne {n a : Nat} (h1 : a < n) (h2 : n < a + 64) : ¬ a % 64 = n % 64 := by omega
theorem mod_ne16 {n a : Nat} (h1 : a < n) (h2 : n < a + 16) : ¬ a % 16 = n % 16 := by omega
/-- a sample joins the record that is being caught -/
theorem cont_step {fi : Int32} {n P q r tl k : Nat} {M R fl ce F1 F2 CU LN TG MK LO HI : Nat → Int32} {K : Nat → JCap} {a b : Int32} (hN : numR fi (n + 1) M R P q r) (h7 : ¬ M 7 = 0) (h3 : M 3 = 1) (h8 : M 8 = nI tl) (hr : r < 8) (ht1 : P ≤ tl) (ht2 : tl ≤ n) (hk : k = P + (n - tl)) (hkq : k < P + 1 + q) (hn : n + 1 < 1000000)
    (hC : capR n P q r tl k K F1 F2) (hD : cmpR r K CU LN TG) (hm : mskR fl ce MK LO HI) (hg : rngR F1 F2) (ha : rIn a) (hb : rIn b) :
    (¬ nI n - R 23 = R 18 ∧ mCont M K r k a b fl ce = (M, true, mAddK K r k a b, 0) ∧ k + 1 < P + 1 + q ∧ capR (n + 1) P q r tl (k + 1) (mAddK K r k a b) (upd F1 (n % 64) a) (upd F2 (n % 64) b) ∧ cmpR r (mAddK K r k a b) CU LN TG) ∨
    (nI n - R 23 = R 18 ∧ mCont M K r k a b fl ce = (mJudge (mDone M) (upd (K r).2.2.2.1 k a) fl ce r (k + 1), false, mAddK K r k a b, 1) ∧
      numR fi (n + 1) (mJudge (mDone M) (upd (K r).2.2.2.1 k a) fl ce r (k + 1)) (mFin R r (mfnd (upd F1 (n % 64) a) MK LO HI (n + 1) (P + 1 + q) (P + 1 + q))) P q (r + 1) ∧
      cmpR (r + 1) (mAddK K r k a b) (mcau (upd F1 (n % 64) a) (upd F2 (n % 64) b) r (n + 1) (P + 1 + q) (P + 1 + q) CU) (upd LN r (nI (P + 1 + q))) (upd TG r (R 23))) := by
  obtain ⟨n24, n17, n18, n28, m1, m4, m5, n19, n20, n22, n23, n25, hr8, hP, hq, har, fc, hfc, m9, r35, hof, hoo⟩ := hN
  have e23 : R 23 = nI tl := (n23 h7).trans h8
  obtain ⟨c1, c2, c3, c4⟩ := hC
  have hk49 : k < 49 := by omega
  have hkn : k ≤ n := by omega
  -- the rows behind the sample
  have hj0 : ∀ j, j < k + 1 → upd (K r).2.2.2.1 k a j = upd F1 (n % 64) a ((n + 1 - (k + 1) + j) % 64) ∧ upd (K r).2.2.2.2 k b j = upd F2 (n % 64) b ((n + 1 - (k + 1) + j) % 64) := by
    intro j hj
    by_cases e : j = k
    · subst e
      rw [pk_us, pk_us, show n + 1 - (j + 1) + j = n by omega, pk_us, pk_us]; exact ⟨rfl, rfl⟩
    · have hne : ¬ (n + 1 - (k + 1) + j) % 64 = n % 64 := mod_ne (by omega) (by omega)
      rw [pk_un e, pk_un e, pk_un hne, pk_un hne, show n + 1 - (k + 1) = n - k by omega]
      exact c4 j (by omega)
  have hKr : mAddK K r k a b r = ((K r).1, (K r).2.1, nI (k + 1), upd (K r).2.2.2.1 k a, upd (K r).2.2.2.2 k b) := upK_s
  have hKn : ∀ i, i ≠ r → mAddK K r k a b i = K i := fun i hi => if_neg hi
  by_cases c : k + 1 < P + 1 + q
  · refine Or.inl ⟨?_, ?_, c, ?_, ?_⟩
    · rw [e23, n18, pk_sub ht2]
      intro z
      have := (nI_eq (by omega) (by omega)).mp z
      omega
    · unfold mCont
      rw [c2, if_pos (nI_lt c (by omega))]
    · unfold capR
      rw [hKr]
      exact ⟨c1, c2, rfl, hj0⟩
    · intro i hi
      rw [hKn i (by omega)]
      exact hD i hi
  · have hkw : k + 1 = P + 1 + q := by omega
    refine Or.inr ⟨?_, ?_, ?_, ?_⟩
    · rw [e23, n18, pk_sub ht2]
      exact congrArg nI (by omega)
    · unfold mCont
      rw [c2, if_neg (nI_nlt (by omega) (by omega))]
    · -- the numbers
      have hfind : jlow (upd (K r).2.2.2.1 k a) fl ce (k + 1) 0 = mfnd (upd F1 (n % 64) a) MK LO HI (n + 1) (P + 1 + q) (P + 1 + q) := by
        rw [← hkw]
        exact find_fin hm (by omega) (fun j hj => (hj0 j hj).1) (fun z => (rngR_u hg (n % 64) ha hb z).1)
      rw [← hfind]
      have hv : jlow (upd (K r).2.2.2.1 k a) fl ce (k + 1) 0 = -1 ∨ ∃ j : Nat, j < 49 ∧ jlow (upd (K r).2.2.2.1 k a) fl ce (k + 1) 0 = nI j := by
        rw [hfind]
        exact (mfnd_v _ _ _ _ _ _ _).imp id (fun ⟨j, h1, h2⟩ => ⟨j, by omega, h2⟩)
      generalize hfd : jlow (upd (K r).2.2.2.1 k a) fl ce (k + 1) 0 = fd at hv
      obtain ⟨d1, d3, dk⟩ := mDone_M M r m1 hr
      have jk : ∀ z, z ≠ 9 → z ≠ 10 → mJudge (mDone M) (upd (K r).2.2.2.1 k a) fl ce r (k + 1) z = mDone M z := fun z h9 h10 => mJudge_k _ _ _ _ _ _ _ h9 h10
      refine ⟨(mFin_k _ _ _ 24 (by decide)).trans n24, (mFin_k _ _ _ 17 (by decide)).trans n17, (mFin_k _ _ _ 18 (by decide)).trans n18, mFin_28 _ _ _, (jk 1 (by decide) (by decide)).trans d1, ?_, ?_, ?_, ?_, ?_, ?_, (mFin_k _ _ _ 25 (by decide)).trans n25, hr, hP, hq, ?_, ?_⟩
      · rw [jk 4 (by decide) (by decide), dk 4 (by decide) (by decide)]; exact m4
      · rw [jk 5 (by decide) (by decide), dk 5 (by decide) (by decide)]; exact m5
      · rw [jk 6 (by decide) (by decide), dk 6 (by decide) (by decide)]; exact (mFin_k _ _ _ 19 (by decide)).trans n19
      · rw [jk 3 (by decide) (by decide), d3, mFin_20]
        unfold mAr
        by_cases z : r + 1 < 8
        · rw [if_pos z, if_neg (fun y => by have := (jle8 _ (by omega)).mp y; omega), h3]
        · rw [if_neg z, if_pos ((jle8 _ (by omega)).mpr (by omega))]
      · rw [jk 7 (by decide) (by decide), dk 7 (by decide) (by decide)]; exact (mFin_k _ _ _ 22 (by decide)).trans n22
      · rw [jk 7 (by decide) (by decide), dk 7 (by decide) (by decide), jk 8 (by decide) (by decide), dk 8 (by decide) (by decide)]
        intro z; exact (mFin_k _ _ _ 23 (by decide)).trans (n23 z)
      · rw [jk 3 (by decide) (by decide), d3]
        intro z
        by_cases y : r + 1 < 8
        · exact y
        · rw [if_neg y] at z; exact absurd rfl z
      · -- failures
        rcases hv with hv | ⟨j, hj, hv⟩
        · have e9 : mJudge (mDone M) (upd (K r).2.2.2.1 k a) fl ce r (k + 1) = mDone M := by unfold mJudge; rw [hfd, hv, if_pos rfl]
          rw [e9, dk 9 (by decide) (by decide), dk 10 (by decide) (by decide)]
          refine ⟨fc, by omega, m9, ?_, hof, ?_⟩
          · show mFin R r fd 35 = _
            unfold mFin
            rw [pk_un (by decide), pk_un (by decide), pk_un (by decide), pk_us]
            unfold mFa
            rw [hv, if_pos (show (-1 : Int32) < 0 by decide), r35, Int32.add_zero]
          · intro z
            show mFin R r fd 36 = _
            unfold mFin
            rw [pk_un (by decide), pk_un (by decide), pk_un (by decide), pk_un (by decide), pk_us]
            unfold mOf
            rw [hv, if_pos (show (-1 : Int32) < 0 by decide)]
            exact hoo z
        · have hnm : ¬ nI j = -1 := fun z => absurd (z ▸ nI_pos (show j < 2147483648 by omega) : ¬ (-1 : Int32) < 0) (by decide)
          have hng : ¬ nI j < 0 := nI_pos (by omega)
          have e35 : mFin R r fd 35 = nI (fc + 1) := by
            unfold mFin
            rw [pk_un (by decide), pk_un (by decide), pk_un (by decide), pk_us]
            unfold mFa
            rw [hv, if_neg hng, r35, nI_1]
          have e36 : mFin R r fd 36 = if fc = 0 then nI (100 * r) + nI j else R 36 := by
            unfold mFin
            rw [pk_un (by decide), pk_un (by decide), pk_un (by decide), pk_un (by decide), pk_us]
            unfold mOf
            rw [hv, if_neg hng, r35]
            by_cases z : fc = 0
            · rw [if_pos z, if_pos (by rw [z]; rfl)]
            · rw [if_neg z, if_neg (show ¬ nI fc = 0 from fun y => z ((nI_eq (a := fc) (b := 0) (by omega) (by decide)).mp y))]
          by_cases z : fc = 0
          · have e9 : mJudge (mDone M) (upd (K r).2.2.2.1 k a) fl ce r (k + 1) = upd (upd (mDone M) 9 (mDone M 9 + 1)) 10 (100 * nI r + nI j) := by
              unfold mJudge
              rw [hfd, hv, if_neg hnm, dk 10 (by decide) (by decide), if_pos (hof.mpr z)]
            have e100 : (100 : Int32) * nI r + nI j = nI (100 * r + j) := by
              rw [show (100 : Int32) * nI r = nI (100 * r) from pk_mul 100 r, nI_add]
            refine ⟨fc + 1, by omega, ?_, e35, ?_, ?_⟩
            · rw [e9, pk_un (by decide), pk_us, dk 9 (by decide) (by decide), m9, nI_1]
            · rw [e9, pk_us, e100]
              constructor
              · intro y; exact absurd (y ▸ nI_pos (show 100 * r + j < 2147483648 by omega) : ¬ (-1 : Int32) < 0) (by decide)
              · intro y; omega
            · intro _
              rw [e36, if_pos z, e9, pk_us, e100, nI_add]
          · have e9 : mJudge (mDone M) (upd (K r).2.2.2.1 k a) fl ce r (k + 1) = upd (mDone M) 9 (mDone M 9 + 1) := by
              unfold mJudge
              rw [hfd, hv, if_neg hnm, dk 10 (by decide) (by decide), if_neg (fun y => z (hof.mp y))]
            refine ⟨fc + 1, by omega, ?_, e35, ?_, ?_⟩
            · rw [e9, pk_us, dk 9 (by decide) (by decide), m9, nI_1]
            · rw [e9, pk_un (by decide), dk 10 (by decide) (by decide)]
              constructor
              · intro y; exact absurd (hof.mp y) z
              · intro y; omega
            · intro _
              rw [e36, if_neg z, e9, pk_un (by decide), dk 10 (by decide) (by decide)]
              exact hoo (by omega)
    · -- the records
      intro i hi
      by_cases e : i = r
      · subst e
        rw [hKr, pk_us, pk_us, e23]
        refine ⟨c1, P + 1 + q, rfl, by omega, by omega, congrArg nI hkw, fun j hj => ?_⟩
        have h9 := hj0 j (by omega)
        rw [hkw] at h9
        have hc1 : mcau (upd F1 (n % 64) a) (upd F2 (n % 64) b) i (n + 1) (P + 1 + q) (P + 1 + q) CU (98 * i + j) = upd F1 (n % 64) a ((n + 1 - (P + 1 + q) + j) % 64) := by
          unfold mcau
          rw [if_pos (by omega), show 98 * i + j - 98 * i = j by omega]
        have hc2 : mcau (upd F1 (n % 64) a) (upd F2 (n % 64) b) i (n + 1) (P + 1 + q) (P + 1 + q) CU (98 * i + 49 + j) = upd F2 (n % 64) b ((n + 1 - (P + 1 + q) + j) % 64) := by
          unfold mcau
          rw [if_neg (by omega), if_pos (by omega), show 98 * i + 49 + j - (98 * i + 49) = j by omega]
        rw [hc1, hc2]
        exact ⟨h9.1, h9.2, (rngR_u hg (n % 64) ha hb _).1, (rngR_u hg (n % 64) ha hb _).2⟩
      · rw [hKn i e, pk_un e, pk_un e]
        obtain ⟨g1, k', g2, g3, g4, g5, g6⟩ := hD i (by omega)
        refine ⟨g1, k', g2, g3, g4, g5, fun j hj => ?_⟩
        have hc1 : mcau (upd F1 (n % 64) a) (upd F2 (n % 64) b) r (n + 1) (P + 1 + q) (P + 1 + q) CU (98 * i + j) = CU (98 * i + j) := by
          unfold mcau
          rw [if_neg (by omega), if_neg (by omega)]
        have hc2 : mcau (upd F1 (n % 64) a) (upd F2 (n % 64) b) r (n + 1) (P + 1 + q) (P + 1 + q) CU (98 * i + 49 + j) = CU (98 * i + 49 + j) := by
          unfold mcau
          rw [if_neg (by omega), if_neg (by omega)]
        rw [hc1, hc2]
        exact g6 j hj
