def mHeld (v a b : Int32) : Int32 := if a ≤ v then (if v ≤ b then v else b) else a
def tStepU (MK LO HI : Nat → Int32) (T : MS) (a b : Int32) : MS × Int32 := tStep MK LO HI (T.1 24).toNatClampNeg (T.1 17).toNatClampNeg (T.1 18).toNatClampNeg (T.1 28).toNatClampNeg T a b
def tInv (T : MS) : Prop := mBool T.1 ∧ ∃ s P q r : Nat, tOK T.1 s P q r
def tThr (T : MS) : MS := (upd T.1 44 0, T.2)
def tRun (MK LO HI : Nat → Int32) (T : MS) (va vb : Nat → Int32) : Nat → MS × Int32
  | 0 => (T, 0)
  | i + 1 => ((tStepU MK LO HI (tRun MK LO HI T va vb i).1 (va i) (vb i)).1, (tRun MK LO HI T va vb i).2 + (tStepU MK LO HI (tRun MK LO HI T va vb i).1 (va i) (vb i)).2)
theorem tOK_c {R : Nat → Int32} {s P q r : Nat} (h : tOK R s P q r) : (R 24).toNatClampNeg = s ∧ (R 17).toNatClampNeg = P ∧ (R 18).toNatClampNeg = q ∧ (R 28).toNatClampNeg = r := by
  obtain ⟨h1, h2, h3, h4, h5, h6, h7, h8, -⟩ := h
  exact ⟨by rw [h1, nI_tn (by omega)], by rw [h2, nI_tn (by omega)], by rw [h3, nI_tn (by omega)], by rw [h4, nI_tn (by omega)]⟩
theorem tStepU_eq (MK LO HI : Nat → Int32) {T : MS} {s P q r : Nat} (h : tOK T.1 s P q r) (a b : Int32) : tStepU MK LO HI T a b = tStep MK LO HI s P q r T a b := by
  obtain ⟨h1, h2, h3, h4⟩ := tOK_c h
  unfold tStepU
  rw [h1, h2, h3, h4]
theorem mBool_T {R : Nat → Int32} (h : mBool R) (s : Nat) (a b : Int32) : mBool (tT R s a b) := by
  have hg : mBool (tG R s a b) := mBool_u (mBool_G (mBool_u h 24 _ (Or.inl (by decide))) a b) 25 _ (Or.inl (by decide))
  unfold tT
  (repeat' split)
  · exact hg
  · exact hg
  · exact mBool_u (mBool_u (mBool_u hg 22 1 (Or.inr (Or.inr rfl))) 23 _ (Or.inl (by decide))) 21 1 (Or.inr (Or.inr rfl))
theorem mAr01 (r : Nat) : mAr r = 0 ∨ mAr r = 1 := by unfold mAr; split <;> simp
theorem mBool_F {R : Nat → Int32} (h : mBool R) (r : Nat) (fd : Int32) : mBool (mFin R r fd) :=
  mBool_u (mBool_u (mBool_u (mBool_u (mBool_u h 36 _ (Or.inl (by decide))) 35 _ (Or.inl (by decide))) 28 _ (Or.inl (by decide))) 21 0 (Or.inr (Or.inl rfl))) 20 _ (Or.inr (mAr01 r))
theorem tT_21 {R : Nat → Int32} {s P q r : Nat} (h : tOK R s P q r) (a b : Int32) (h21 : ¬ tT R s a b 21 = 0) : r < 8 ∧ ∃ u : Nat, tT R s a b 23 = nI u ∧ P ≤ u ∧ u ≤ s := by
  obtain ⟨h1, h2, h3, h4, h5, h6, h7, h8, h9, h10⟩ := h
  by_cases g : mR (upd R 24 (nI (s + 1))) a b = 0
  · have e : tT R s a b = tG R s a b := if_pos g
    rw [e, tG_k _ _ _ _ _ (by decide) (by decide) (by decide)] at h21
    rw [e, tG_k _ _ _ _ _ (by decide) (by decide) (by decide)]
    exact h10 h21
  · by_cases g2 : mCan (tG R s a b) (nI s) = 0
    · have e : tT R s a b = tG R s a b := (if_neg g).trans (if_pos g2)
      rw [e, tG_k _ _ _ _ _ (by decide) (by decide) (by decide)] at h21
      rw [e, tG_k _ _ _ _ _ (by decide) (by decide) (by decide)]
      exact h10 h21
    · have e : tT R s a b = upd (upd (upd (tG R s a b) 22 1) 23 (nI s)) 21 1 := (if_neg g).trans (if_neg g2)
      rw [e, pk_un (by decide), pk_us]
      unfold mCan at g2
      rw [tG_k _ _ _ _ 20 (by decide) (by decide) (by decide), tG_k _ _ _ _ 17 (by decide) (by decide) (by decide)] at g2
      by_cases k1 : R 20 = 0
      · rw [if_pos k1] at g2; exact absurd rfl g2
      rw [if_neg k1] at g2
      split at g2
      · by_cases k3 : nI s < R 17
        · rw [if_pos k3] at g2; exact absurd rfl g2
        · rw [h2] at k3
          have := jlt_not k3 (by omega) (by omega)
          exact ⟨h9 k1, s, rfl, this, Nat.le_refl _⟩
      · exact absurd rfl g2
theorem tT_20 (R : Nat → Int32) (s : Nat) (a b : Int32) : tT R s a b 20 = R 20 := tT_k _ _ _ _ _ (by decide) (by decide) (by decide) (by decide) (by decide) (by decide)
theorem tT_24 (R : Nat → Int32) (s : Nat) (a b : Int32) : tT R s a b 24 = nI (s + 1) := by
  unfold tT
  (repeat' split)
  · exact tG_24 _ _ _ _
  · exact tG_24 _ _ _ _
  · rw [pk_un (by decide), pk_un (by decide), pk_un (by decide)]; exact tG_24 _ _ _ _
theorem mFin_k (R : Nat → Int32) (r : Nat) (fd : Int32) (k : Nat) (h : k ≠ 20 ∧ k ≠ 21 ∧ k ≠ 28 ∧ k ≠ 35 ∧ k ≠ 36) : mFin R r fd k = R k := by
  unfold mFin
  rw [pk_un h.1, pk_un h.2.1, pk_un h.2.2.1, pk_un h.2.2.2.1, pk_un h.2.2.2.2]
theorem mFin_20 (R : Nat → Int32) (r : Nat) (fd : Int32) : mFin R r fd 20 = mAr r := by unfold mFin; rw [pk_us]
theorem mFin_21 (R : Nat → Int32) (r : Nat) (fd : Int32) : mFin R r fd 21 = 0 := by unfold mFin; rw [pk_un (by decide), pk_us]
theorem mFin_28 (R : Nat → Int32) (r : Nat) (fd : Int32) : mFin R r fd 28 = nI (r + 1) := by unfold mFin; rw [pk_un (by decide), pk_un (by decide), pk_us]
theorem tStep_0 (MK LO HI : Nat → Int32) {s P q r : Nat} (T : MS) (a b : Int32) (h : tD (tT T.1 s a b) s = 0) : (tStep MK LO HI s P q r T a b).1.1 = tT T.1 s a b := by
  unfold tStep; rw [if_pos h]
theorem tStep_1 (MK LO HI : Nat → Int32) {s P q r : Nat} (T : MS) (a b : Int32) (h : ¬ tD (tT T.1 s a b) s = 0) : (tStep MK LO HI s P q r T a b).1.1 = mFin (tT T.1 s a b) r (mfnd (upd T.2.1 (s % 64) a) MK LO HI (s + 1) (P + 1 + q) (P + 1 + q)) := by
  unfold tStep; rw [if_neg h]
theorem tOK_step {MK LO HI : Nat → Int32} {T : MS} {s P q r : Nat} (h : tOK T.1 s P q r) (a b : Int32) (hs : s + 1 < 1000000) : tOK (tStep MK LO HI s P q r T a b).1.1 (s + 1) P q (if tD (tT T.1 s a b) s = 0 then r else r + 1) := by
  have h0 := h
  obtain ⟨h1, h2, h3, h4, h5, h6, h7, h8, h9, h10⟩ := h
  have e17 : tT T.1 s a b 17 = nI P := (tT_k _ _ _ _ _ (by decide) (by decide) (by decide) (by decide) (by decide) (by decide)).trans h2
  have e18 : tT T.1 s a b 18 = nI q := (tT_k _ _ _ _ _ (by decide) (by decide) (by decide) (by decide) (by decide) (by decide)).trans h3
  have e28 : tT T.1 s a b 28 = nI r := (tT_k _ _ _ _ _ (by decide) (by decide) (by decide) (by decide) (by decide) (by decide)).trans h4
  by_cases hd : tD (tT T.1 s a b) s = 0
  · rw [if_pos hd, tStep_0 MK LO HI T a b hd]
    refine ⟨tT_24 _ _ _ _, e17, e18, e28, hs, h6, h7, h8, fun q20 => h9 (by rw [← tT_20 T.1 s a b]; exact q20), fun q21 => ?_⟩
    obtain ⟨hr, u, hu, hu1, hu2⟩ := tT_21 h0 a b q21
    exact ⟨hr, u, hu, hu1, by omega⟩
  · rw [if_neg hd, tStep_1 MK LO HI T a b hd]
    have hr := (tOK_go h0 a b hd).1
    refine ⟨?_, ?_, ?_, ?_, hs, h6, h7, hr, ?_, ?_⟩
    · exact (mFin_k _ _ _ 24 (by decide)).trans (tT_24 _ _ _ _)
    · exact (mFin_k _ _ _ 17 (by decide)).trans e17
    · exact (mFin_k _ _ _ 18 (by decide)).trans e18
    · exact mFin_28 _ _ _
    · intro q20
      have q20' : ¬ mAr r = 0 := fun q => q20 ((mFin_20 _ _ _).trans q)
      unfold mAr at q20'
      by_cases z : (8 : Int32) ≤ nI (r + 1)
      · rw [if_pos z] at q20'; exact absurd rfl q20'
      · exact jle_not (a := 8) z (by decide) (by omega)
    · intro q21
      exact absurd (mFin_21 _ _ _) q21
theorem tInv_step {MK LO HI : Nat → Int32} {T : MS} (h : tInv T) (a b : Int32) (hs : (T.1 24).toNatClampNeg + 1 < 1000000) : tInv (tStepU MK LO HI T a b).1 ∧ ((tStepU MK LO HI T a b).1.1 24).toNatClampNeg = (T.1 24).toNatClampNeg + 1 := by
  obtain ⟨hB, s, P, q, r, hO⟩ := h
  have hc := tOK_c hO
  rw [hc.1] at hs
  rw [tStepU_eq MK LO HI hO, hc.1]
  have h2 := tOK_step (MK := MK) (LO := LO) (HI := HI) hO a b hs
  refine ⟨⟨?_, _, _, _, _, h2⟩, (tOK_c h2).1⟩
  by_cases hd : tD (tT T.1 s a b) s = 0
  · rw [tStep_0 MK LO HI T a b hd]; exact mBool_T hB _ _ _
  · rw [tStep_1 MK LO HI T a b hd]; exact mBool_F (mBool_T hB _ _ _) _ _
theorem tThr_k (T : MS) (j : Nat) (h : j ≠ 44) : (tThr T).1 j = T.1 j := pk_un (f := T.1) (k := 44) (x := 0) h
theorem tThr_inv {T : MS} (h : tInv T) : tInv (tThr T) ∧ ((tThr T).1 24) = T.1 24 := by
  obtain ⟨hB, s, P, q, r, h1, h2, h3, h4, h5, h6, h7, h8, h9, h10⟩ := h
  have hB2 : mBool (tThr T).1 := mBool_u hB 44 0 (Or.inl (by decide))
  refine ⟨⟨hB2, s, P, q, r, ?_⟩, tThr_k T 24 (by decide)⟩
  unfold tOK
  rw [tThr_k T 24 (by decide), tThr_k T 17 (by decide), tThr_k T 18 (by decide), tThr_k T 28 (by decide), tThr_k T 20 (by decide), tThr_k T 21 (by decide), tThr_k T 23 (by decide)]
  exact ⟨h1, h2, h3, h4, h5, h6, h7, h8, h9, h10⟩
theorem tRun_s (MK LO HI : Nat → Int32) (T : MS) (va vb : Nat → Int32) (i : Nat) : tRun MK LO HI T va vb (i + 1) = ((tStepU MK LO HI (tRun MK LO HI T va vb i).1 (va i) (vb i)).1, (tRun MK LO HI T va vb i).2 + (tStepU MK LO HI (tRun MK LO HI T va vb i).1 (va i) (vb i)).2) := rfl
theorem tRun_inv {MK LO HI : Nat → Int32} {T : MS} (h : tInv T) (va vb : Nat → Int32) (i : Nat) : (T.1 24).toNatClampNeg + i < 1000000 → tInv (tRun MK LO HI T va vb i).1 ∧ ((tRun MK LO HI T va vb i).1.1 24).toNatClampNeg = (T.1 24).toNatClampNeg + i := by
  induction i with
  | zero => intro _; exact ⟨h, rfl⟩
  | succ i ih =>
    intro hi
    have ih2 := ih (by omega)
    rw [tRun_s]
    generalize tRun MK LO HI T va vb i = X at ih2 ⊢
    have h3 := tInv_step (MK := MK) (LO := LO) (HI := HI) ih2.1 (va i) (vb i) (by rw [ih2.2]; omega)
    refine ⟨h3.1, ?_⟩
    rw [h3.2, ih2.2]
    omega
theorem tRun_p (MK LO HI : Nat → Int32) (T : MS) (a b : Int32) (i : Nat) : tRun MK LO HI T (fun _ => a) (fun _ => b) (i + 1) = ((tStepU MK LO HI (tRun MK LO HI T (fun _ => a) (fun _ => b) i).1 a b).1, (tRun MK LO HI T (fun _ => a) (fun _ => b) i).2 + (tStepU MK LO HI (tRun MK LO HI T (fun _ => a) (fun _ => b) i).1 a b).2) := tRun_s _ _ _ _ _ _ _
def rmpV (a da : Int32) : Nat → Int32 := fun i => mHeld (a + nI i * da) (-128) 127
theorem tRun_r (MK LO HI : Nat → Int32) (T : MS) (a b da db : Int32) (i : Nat) : tRun MK LO HI T (rmpV a da) (rmpV b db) (i + 1) = ((tStepU MK LO HI (tRun MK LO HI T (rmpV a da) (rmpV b db) i).1 (mHeld (a + nI i * da) (-128) 127) (mHeld (b + nI i * db) (-128) 127)).1, (tRun MK LO HI T (rmpV a da) (rmpV b db) i).2 + (tStepU MK LO HI (tRun MK LO HI T (rmpV a da) (rmpV b db) i).1 (mHeld (a + nI i * da) (-128) 127) (mHeld (b + nI i * db) (-128) 127)).2) := tRun_s _ _ _ _ _ _ _
