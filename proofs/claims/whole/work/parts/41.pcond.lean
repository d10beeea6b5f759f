/-! the conditions of the class and of the reference, side by side -/
/-- the class's condition (kind ci, numbers G) and the reference's numbers R say the same at the sample number nr; W bounds the pulse -/
def cRel (ci : Nat) (G R : Nat → Int32) (nr : Int32) (W : Nat) : Prop :=
  (ci = 1 ∧ R 0 = 0 ∧ R 1 = G 0 ∧ R 2 = G 1 ∧ R 3 = G 2 ∧ R 5 = G 3 ∧ R 9 = G 4 ∧ (G 3 = 0 ∨ G 3 = 1) ∧ (G 4 = 0 ∨ G 4 = 1)) ∨
  (ci = 8 ∧ R 0 = 1 ∧ R 1 = G 0 ∧ R 2 = G 1 ∧ R 3 = G 2 ∧ R 4 = G 3 ∧ R 5 = G 4 ∧ (G 4 = 0 ∨ G 4 = 1) ∧ 1 ≤ G 2 ∧ ∃ w : Nat, w ≤ W ∧ R 10 = nI w ∧ G 6 = nI w ∧ (w = 0 → R 6 = G 5) ∧ (0 < w → R 12 = G 5)) ∨
  (ci = 6 ∧ R 0 = 2 ∧ R 1 = G 0 ∧ R 2 = G 1 ∧ R 3 = G 2 ∧ ∃ w : Nat, w ≤ W ∧ R 10 = nI w ∧ (w = 0 → R 6 = G 3 ∧ G 4 = 0 ∧ G 5 = 0) ∧ (0 < w → R 12 = G 3 ∧ G 4 = 1 ∧ R 13 = G 5)) ∨
  (ci = 7 ∧ R 0 = 3 ∧ R 2 = G 0 ∧ R 3 = G 1 ∧ R 4 = G 2 ∧ R 6 = G 3 ∧ (¬ R 6 = 0 → R 7 = G 4 ∧ R 8 = G 5) ∧ R 14 = G 6 ∧ (G 6 = 0 ∨ G 6 = 1) ∧ (¬ G 6 = 0 → nr - G 7 = R 16 - R 15))
theorem cRel_ci {ci : Nat} {G R : Nat → Int32} {nr : Int32} {W : Nat} (h : cRel ci G R nr W) : (ci = 1 ∨ ci = 6 ∨ ci = 7 ∨ ci = 8) ∧ cOK ci G := by
  rcases h with ⟨rfl, h⟩ | ⟨rfl, h⟩ | ⟨rfl, h⟩ | ⟨rfl, h⟩
  · exact ⟨Or.inl rfl, fun _ => h.2.2.2.2.2.2.1, fun q => by cases q⟩
  · exact ⟨Or.inr (Or.inr (Or.inr rfl)), (fun q => by cases q), fun _ => h.2.2.2.2.2.2.1⟩
  · exact ⟨Or.inr (Or.inl rfl), (fun q => by cases q), (fun q => by cases q)⟩
  · exact ⟨Or.inr (Or.inr (Or.inl rfl)), (fun q => by cases q), (fun q => by cases q)⟩
theorem cRel_congr {ci : Nat} {G R R' : Nat → Int32} {nr : Int32} {W : Nat} (h : cRel ci G R nr W) (e : ∀ k, k < 17 → R' k = R k) : cRel ci G R' nr W := by
  unfold cRel at h ⊢
  rw [e 0 (by decide), e 1 (by decide), e 2 (by decide), e 3 (by decide), e 4 (by decide), e 5 (by decide), e 6 (by decide), e 7 (by decide), e 8 (by decide), e 9 (by decide), e 10 (by decide), e 12 (by decide), e 13 (by decide), e 14 (by decide), e 15 (by decide), e 16 (by decide)]
  exact h
theorem jsub_s (x y : Int32) : x + 1 - y = x - y + 1 := by
  simp only [Int32.sub_eq_add_neg, Int32.add_assoc, Int32.add_comm 1]
theorem nIw0 {w : Nat} (h : w < 1000000) : nI w ≤ 0 ↔ w = 0 := by
  rw [show (0 : Int32) = nI 0 from rfl, nI_leI (by omega) (by decide)]
  omega
theorem mG_6 (R : Nat → Int32) (a b : Int32) : mG R a b 6 = 1 := by unfold mG; rw [pk_un (by decide), pk_un (by decide), pk_un (by decide), pk_us]
theorem mG_7 (R : Nat → Int32) (a b : Int32) : mG R a b 7 = a := by unfold mG; rw [pk_un (by decide), pk_un (by decide), pk_us]
theorem mG_8 (R : Nat → Int32) (a b : Int32) : mG R a b 8 = b := by unfold mG; rw [pk_un (by decide), pk_us]
theorem mG_16 (R : Nat → Int32) (a b : Int32) : mG R a b 16 = mG0 R a b 16 + 1 := by unfold mG; rw [pk_us]
theorem mG_m (R : Nat → Int32) (a b : Int32) (k : Nat) (h : 9 ≤ k) (h2 : k ≤ 15) : mG R a b k = mG0 R a b k := by
  unfold mG; rw [pk_un (by omega), pk_un (by omega), pk_un (by omega), pk_un (by omega)]
theorem mG0_16 (R : Nat → Int32) (a b : Int32) : mG0 R a b 16 = R 16 := by
  unfold mG0
  (repeat' split)
  · rw [pk_un (by decide)]
  · rw [mBg_k _ _ _ _ (by decide)]
  · rw [mBg_k _ _ _ _ (by decide)]
  · rw [pk_un (by decide), pk_un (by decide), pk_un (by decide)]
theorem eN_k (G : Nat → Int32) (v f : Int32) (k : Nat) (h : k ≠ 4) : eN G v f k = G k := by
  unfold eN; (repeat' split) <;> first | rfl | exact pk_un h
theorem cRel_edge {G R : Nat → Int32} {nr : Int32} {W : Nat} (h0 : R 0 = 0) (h1 : R 1 = G 0) (h2 : R 2 = G 1) (h3 : R 3 = G 2) (h5 : R 5 = G 3) (h9 : R 9 = G 4) (hG : G 3 = 0 ∨ G 3 = 1) (hG4 : G 4 = 0 ∨ G 4 = 1) (a b : Int32) : cR 1 G nr a b = mR R a b ∧ cRel 1 (cG 1 G nr a b) (mG R a b) (nr + 1) (W + 1) := by
  have ev : mV R a b = eV G a b := by unfold mV eV; rw [h1]
  have eE : mE R (mV R a b) = eF G (eP G (eV G a b)) := by
    rw [ev]
    unfold mE eF eP
    rw [h9, h5, h2]
    by_cases c1 : G 4 = 0
    · simp [c1]
    · by_cases c2 : G 3 = 0
      · by_cases c3 : G 1 ≤ eV G a b <;> simp [c1, c2, c3]
      · by_cases c3 : eV G a b ≤ G 1 <;> simp [c1, c2, c3]
  have e4 : mG R a b 9 = eN G (eV G a b) (eF G (eP G (eV G a b))) 4 := by
    rw [mG_m _ _ _ _ (by decide) (by decide)]
    unfold mG0
    rw [if_pos h0, pk_us, eE, ev]
    unfold mEr eN
    rw [h9, h5, h2, h3]
    have hq : ¬ G 4 = 0 → G 4 = 1 := fun q => hG4.resolve_left q
    by_cases c0 : eF G (eP G (eV G a b)) = 0
    · rw [if_pos c0, if_pos c0]
      by_cases c1 : G 4 = 0
      · rw [if_pos c1]
        by_cases c2 : G 3 = 0
        · rw [if_pos c2, if_pos c2]
          by_cases c3 : eV G a b < G 1 + G 2
          · rw [if_pos c3, if_pos c3]; exact c1.symm
          · rw [if_neg c3, if_neg c3, pk_us]
        · rw [if_neg c2, if_neg c2]
          by_cases c3 : G 1 - G 2 < eV G a b
          · rw [if_pos c3, if_pos c3]; exact c1.symm
          · rw [if_neg c3, if_neg c3, pk_us]
      · rw [if_neg c1]
        have c9 := hq c1
        by_cases c2 : G 3 = 0
        · rw [if_pos c2]
          by_cases c3 : eV G a b < G 1 + G 2
          · rw [if_pos c3]; exact c9.symm
          · rw [if_neg c3, pk_us]
        · rw [if_neg c2]
          by_cases c3 : G 1 - G 2 < eV G a b
          · rw [if_pos c3]; exact c9.symm
          · rw [if_neg c3, pk_us]
    · rw [if_neg c0, if_neg c0, pk_us]
  refine ⟨?_, Or.inl ⟨rfl, ?_, ?_, ?_, ?_, ?_, e4, ?_, ?_⟩⟩
  · show eF G (eP G (eV G a b)) = _
    unfold mR
    rw [if_pos h0, eE]
  · rw [mG_k _ _ _ _ (by decide), h0]
  · rw [mG_k _ _ _ _ (by decide), h1]; exact (eN_k _ _ _ _ (by decide)).symm
  · rw [mG_k _ _ _ _ (by decide), h2]; exact (eN_k _ _ _ _ (by decide)).symm
  · rw [mG_k _ _ _ _ (by decide), h3]; exact (eN_k _ _ _ _ (by decide)).symm
  · rw [mG_k _ _ _ _ (by decide), h5]; exact (eN_k _ _ _ _ (by decide)).symm
  · show eN G (eV G a b) (eF G (eP G (eV G a b))) 3 = 0 ∨ eN G (eV G a b) (eF G (eP G (eV G a b))) 3 = 1
    rw [eN_k _ _ _ _ (by decide)]; exact hG
  · show eN G (eV G a b) (eF G (eP G (eV G a b))) 4 = 0 ∨ eN G (eV G a b) (eF G (eP G (eV G a b))) 4 = 1
    rw [← e4, mG_m _ _ _ _ (by decide) (by decide)]
    unfold mG0
    rw [if_pos h0, pk_us]
    exact mEr01 _ _ _
theorem mBg_o (R : Nat → Int32) (t : Int32) (k : Nat) (h : k ≠ 10) (h2 : k ≠ 11) : mBg R 0 t k = R k := by
  unfold mBg; rw [if_pos rfl, pk_un h, pk_un h2]
theorem mBg_o10 (R : Nat → Int32) (t : Int32) : mBg R 0 t 10 = 0 := by
  unfold mBg; rw [if_pos rfl, pk_us]
theorem mBg_o11 (R : Nat → Int32) (t : Int32) : mBg R 0 t 11 = R 10 := by
  unfold mBg; rw [if_pos rfl, pk_un (by decide), pk_us]
theorem cRel_width {G R : Nat → Int32} {nr : Int32} {W w : Nat} (h0 : R 0 = 1) (h1 : R 1 = G 0) (h2 : R 2 = G 1) (h3 : R 3 = G 2) (h4 : R 4 = G 3) (h5 : R 5 = G 4) (hG : G 4 = 0 ∨ G 4 = 1) (hl : 1 ≤ G 2) (hw : w ≤ W) (hW : W < 1000000) (hm : R 10 = nI w) (hg : G 6 = nI w) (hz : w = 0 → R 6 = G 5) (hp : 0 < w → R 12 = G 5) (a b : Int32) : cR 8 G nr a b = mR R a b ∧ cRel 8 (cG 8 G nr a b) (mG R a b) (nr + 1) (W + 1) := by
  have n0 : ¬ R 0 = 0 := by rw [h0]; decide
  have ev : mV R a b = eV G a b := by unfold mV eV; rw [h1]
  have ei : mWi R (mV R a b) = wI G (eV G a b) := by rw [ev]; unfold mWi wI; rw [h2]
  have es : mWs R (mWi R (mV R a b)) = wS G (wI G (eV G a b)) := by rw [ei]; unfold mWs wS; rw [h5]
  have eR : mR R a b = mWr R (wS G (wI G (eV G a b))) := by unfold mR; rw [if_neg n0, if_pos h0, es]
  have eG : mG0 R a b = mBg R (wS G (wI G (eV G a b))) 0 := by unfold mG0; rw [if_neg n0, if_pos h0, es]
  rw [eR]
  generalize hq : wS G (wI G (eV G a b)) = q at eG
  have hcR : cR 8 G nr a b = if q = 0 then wF G else 0 := by rw [← hq]; rfl
  have hcG : cG 8 G nr a b = if q = 0 then upd (upd G 5 1) 6 0 else upd G 6 (G 6 + 1) := by rw [← hq]; rfl
  rw [hcR, hcG]
  by_cases c : q = 0
  · subst c
    rw [if_pos rfl, if_pos rfl]
    refine ⟨?_, Or.inr (Or.inl ⟨rfl, ?_, ?_, ?_, ?_, ?_, ?_, ?_, ?_, 0, by omega, ?_, ?_, ?_, ?_⟩)⟩
    · unfold mWr mBf
      rw [if_pos rfl, hm]
      unfold wF
      rw [hg]
      by_cases w0 : w = 0
      · rw [if_pos ((nIw0 (by omega)).mpr w0), if_pos rfl]
        subst w0
        split
        · rfl
        · rw [if_pos (Int32.lt_of_lt_of_le (by decide) hl)]
      · rw [if_neg (fun z => w0 ((nIw0 (by omega)).mp z)), hp (by omega)]
        by_cases g5 : G 5 = 0
        · simp [g5]
        · rw [if_neg g5, if_neg g5, if_neg (show ¬ (1 : Int32) = 0 by decide), mBg_o11, mBg_o _ _ 3 (by decide) (by decide), mBg_o _ _ 4 (by decide) (by decide), hm, h3, h4]
          unfold mIn
          by_cases k1 : nI w < G 2
          · rw [if_pos k1, if_pos k1]
          · rw [if_neg k1, if_neg k1]
            by_cases k2 : G 3 < nI w
            · rw [if_pos k2, if_neg (Int32.not_le.mpr k2)]
            · rw [if_neg k2, if_pos (Int32.not_lt.mp k2)]
    · rw [mG_k _ _ _ _ (by decide), h0]
    · rw [mG_k _ _ _ _ (by decide), h1, pk_un (by decide), pk_un (by decide)]
    · rw [mG_k _ _ _ _ (by decide), h2, pk_un (by decide), pk_un (by decide)]
    · rw [mG_k _ _ _ _ (by decide), h3, pk_un (by decide), pk_un (by decide)]
    · rw [mG_k _ _ _ _ (by decide), h4, pk_un (by decide), pk_un (by decide)]
    · rw [mG_k _ _ _ _ (by decide), h5, pk_un (by decide), pk_un (by decide)]
    · rw [pk_un (by decide), pk_un (by decide)]; exact hG
    · rw [pk_un (by decide), pk_un (by decide)]; exact hl
    · rw [mG_m _ _ _ _ (by decide) (by decide), eG, mBg_o10]; rfl
    · rw [pk_us]; rfl
    · intro _; rw [mG_6, pk_un (by decide), pk_us]
    · intro z; omega
  · rw [if_neg c, if_neg c]
    refine ⟨?_, Or.inr (Or.inl ⟨rfl, ?_, ?_, ?_, ?_, ?_, ?_, ?_, ?_, w + 1, by omega, ?_, ?_, ?_, ?_⟩)⟩
    · unfold mWr mBf; rw [if_neg c, if_pos rfl]
    · rw [mG_k _ _ _ _ (by decide), h0]
    · rw [mG_k _ _ _ _ (by decide), h1, pk_un (by decide)]
    · rw [mG_k _ _ _ _ (by decide), h2, pk_un (by decide)]
    · rw [mG_k _ _ _ _ (by decide), h3, pk_un (by decide)]
    · rw [mG_k _ _ _ _ (by decide), h4, pk_un (by decide)]
    · rw [mG_k _ _ _ _ (by decide), h5, pk_un (by decide)]
    · rw [pk_un (by decide)]; exact hG
    · rw [pk_un (by decide)]; exact hl
    · rw [mG_m _ _ _ _ (by decide) (by decide), eG]
      unfold mBg
      rw [if_neg c, hm]
      split <;> rw [pk_us, nI_1]
    · rw [pk_us, hg, nI_1]
    · intro z; omega
    · intro _
      rw [mG_m _ _ _ _ (by decide) (by decide), eG, pk_un (by decide)]
      unfold mBg
      rw [if_neg c, hm]
      by_cases w0 : w = 0
      · rw [if_pos ((nIw0 (by omega)).mpr w0), pk_un (by decide), pk_un (by decide), pk_us]; exact hz w0
      · rw [if_neg (fun z => w0 ((nIw0 (by omega)).mp z)), pk_un (by decide), pk_un (by decide), pk_us]; exact hp (by omega)
theorem cRel_runt {G R : Nat → Int32} {nr : Int32} {W w : Nat} (h0 : R 0 = 2) (h1 : R 1 = G 0) (h2 : R 2 = G 1) (h3 : R 3 = G 2) (hw : w ≤ W) (hW : W < 1000000) (hm : R 10 = nI w) (hz : w = 0 → R 6 = G 3 ∧ G 4 = 0 ∧ G 5 = 0) (hp : 0 < w → R 12 = G 3 ∧ G 4 = 1 ∧ R 13 = G 5) (a b : Int32) : cR 6 G nr a b = mR R a b ∧ cRel 6 (cG 6 G nr a b) (mG R a b) (nr + 1) (W + 1) := by
  have n0 : ¬ R 0 = 0 := by rw [h0]; decide
  have n1 : ¬ R 0 = 1 := by rw [h0]; decide
  have ev : mV R a b = eV G a b := by unfold mV eV; rw [h1]
  have ei : mWi R (mV R a b) = if eV G a b ≤ G 1 then 0 else 1 := by rw [ev]; unfold mWi; rw [h2]
  have et : mRt R (mV R a b) = if eV G a b ≤ G 2 then 0 else 1 := by rw [ev]; unfold mRt; rw [h3]
  have eR : mR R a b = mRr R (if eV G a b ≤ G 1 then 0 else 1) (if eV G a b ≤ G 2 then 0 else 1) := by unfold mR; rw [if_neg n0, if_neg n1, if_pos h0, ei, et]
  have eG : mG0 R a b = mBg R (if eV G a b ≤ G 1 then 0 else 1) (if eV G a b ≤ G 2 then 0 else 1) := by unfold mG0; rw [if_neg n0, if_neg n1, if_pos h0, ei, et]
  rw [eR]
  have hcR : cR 6 G nr a b = if eV G a b ≤ G 1 then rF G else 0 := rfl
  have hcG : cG 6 G nr a b = if eV G a b ≤ G 1 then upd (upd (upd G 3 1) 4 0) 5 0 else upd (upd G 4 1) 5 (rT G (eV G a b)) := rfl
  rw [hcR, hcG]
  generalize ht : (if eV G a b ≤ G 2 then (0 : Int32) else 1) = t at eG
  by_cases c : eV G a b ≤ G 1
  · rw [if_pos c, if_pos c, if_pos c]
    rw [if_pos c] at eG
    refine ⟨?_, Or.inr (Or.inr (Or.inl ⟨rfl, ?_, ?_, ?_, ?_, 0, by omega, ?_, ?_, ?_⟩))⟩
    · unfold mRr mBf
      rw [if_pos rfl, hm, mBg_o _ _ 13 (by decide) (by decide)]
      unfold rF
      by_cases w0 : w = 0
      · rw [if_pos ((nIw0 (by omega)).mpr w0), if_pos rfl, (hz w0).2.1]; split <;> simp
      · obtain ⟨p1, p2, p3⟩ := hp (by omega)
        rw [if_neg (fun z => w0 ((nIw0 (by omega)).mp z)), p1, p2, p3]
        by_cases g3 : G 3 = 0
        · simp [g3]
        · simp [g3]
    · rw [mG_k _ _ _ _ (by decide), h0]
    · rw [mG_k _ _ _ _ (by decide), h1, pk_un (by decide), pk_un (by decide), pk_un (by decide)]
    · rw [mG_k _ _ _ _ (by decide), h2, pk_un (by decide), pk_un (by decide), pk_un (by decide)]
    · rw [mG_k _ _ _ _ (by decide), h3, pk_un (by decide), pk_un (by decide), pk_un (by decide)]
    · rw [mG_m _ _ _ _ (by decide) (by decide), eG, mBg_o10]; rfl
    · intro _; rw [mG_6]; exact ⟨by rw [pk_un (by decide), pk_un (by decide), pk_us], by rw [pk_un (by decide), pk_us], pk_us⟩
    · intro z; omega
  · rw [if_neg c, if_neg c, if_neg c]
    rw [if_neg c] at eG
    have n2 : ¬ (1 : Int32) = 0 := by decide
    refine ⟨?_, Or.inr (Or.inr (Or.inl ⟨rfl, ?_, ?_, ?_, ?_, w + 1, by omega, ?_, ?_, ?_⟩))⟩
    · unfold mRr mBf; rw [if_neg n2, if_pos rfl]
    · rw [mG_k _ _ _ _ (by decide), h0]
    · rw [mG_k _ _ _ _ (by decide), h1, pk_un (by decide), pk_un (by decide)]
    · rw [mG_k _ _ _ _ (by decide), h2, pk_un (by decide), pk_un (by decide)]
    · rw [mG_k _ _ _ _ (by decide), h3, pk_un (by decide), pk_un (by decide)]
    · rw [mG_m _ _ _ _ (by decide) (by decide), eG]
      unfold mBg
      rw [if_neg n2, hm]
      split <;> rw [pk_us, nI_1]
    · intro z; omega
    · intro _
      rw [mG_m _ _ _ _ (by decide) (by decide), mG_m _ _ _ 13 (by decide) (by decide), eG, pk_un (by decide), pk_un (by decide), pk_un (by decide), pk_us, pk_us]
      unfold mBg
      rw [if_neg n2, hm]
      by_cases w0 : w = 0
      · obtain ⟨z1, z2, z3⟩ := hz w0
        rw [if_pos ((nIw0 (by omega)).mpr w0), pk_un (by decide), pk_un (by decide), pk_us, pk_un (by decide), pk_us]
        refine ⟨z1, rfl, ?_⟩
        unfold rT
        rw [if_pos z3, ht]
      · obtain ⟨p1, p2, p3⟩ := hp (by omega)
        rw [if_neg (fun z => w0 ((nIw0 (by omega)).mp z)), pk_un (by decide), pk_un (by decide), pk_us, pk_un (by decide), pk_us]
        refine ⟨p1, rfl, ?_⟩
        unfold rT mOv
        rw [p3]
        by_cases g5 : G 5 = 0
        · rw [if_pos g5, if_pos g5, ← ht]
          by_cases k : eV G a b ≤ G 2 <;> simp [k]
        · rw [if_neg g5, if_neg g5]
theorem cRel_seq {G R : Nat → Int32} {nr : Int32} {W : Nat} (h0 : R 0 = 3) (h2 : R 2 = G 0) (h3 : R 3 = G 1) (h4 : R 4 = G 2) (h6 : R 6 = G 3) (h78 : ¬ R 6 = 0 → R 7 = G 4 ∧ R 8 = G 5) (h14 : R 14 = G 6) (hG6 : G 6 = 0 ∨ G 6 = 1) (hr : ¬ G 6 = 0 → nr - G 7 = R 16 - R 15) (a b : Int32) : cR 7 G nr a b = mR R a b ∧ cRel 7 (cG 7 G nr a b) (mG R a b) (nr + 1) (W + 1) := by
  have n0 : ¬ R 0 = 0 := by rw [h0]; decide
  have n1 : ¬ R 0 = 1 := by rw [h0]; decide
  have n2 : ¬ R 0 = 2 := by rw [h0]; decide
  have eA : mSa R a = sA G a := by
    unfold mSa sA
    rw [h6] at h78 ⊢
    by_cases q : G 3 = 0
    · rw [if_pos q, if_pos q]
    · rw [if_neg q, if_neg q, h2, (h78 q).1]
  have eB : mSb R b = sB G b := by
    unfold mSb sB
    rw [h6] at h78 ⊢
    by_cases q : G 3 = 0
    · rw [if_pos q, if_pos q]
    · rw [if_neg q, if_neg q, h3, (h78 q).2]
  generalize hf : sA G a = f at eA
  generalize hg : sB G b = g at eB
  -- what is remembered behind the rise
  have hM6 : sM G nr a b 6 = if f = 0 then G 6 else 1 := by
    unfold sM; rw [hf]
    by_cases c : f = 0
    · rw [if_pos c, if_pos c, pk_un (by decide), pk_un (by decide), pk_un (by decide)]
    · rw [if_neg c, if_neg c, pk_un (by decide), pk_us]
  have hM7 : sM G nr a b 7 = if f = 0 then G 7 else nr := by
    unfold sM; rw [hf]
    by_cases c : f = 0
    · rw [if_pos c, if_pos c, pk_un (by decide), pk_un (by decide), pk_un (by decide)]
    · rw [if_neg c, if_neg c, pk_us]
  have hMk : ∀ k, k < 3 → sM G nr a b k = G k := by
    intro k hk
    unfold sM; rw [hf]
    by_cases c : f = 0
    · rw [if_pos c, pk_un (by omega), pk_un (by omega), pk_un (by omega)]
    · rw [if_neg c, pk_un (by omega), pk_un (by omega), pk_un (by omega), pk_un (by omega), pk_un (by omega)]
  have hM345 : sM G nr a b 3 = 1 ∧ sM G nr a b 4 = a ∧ sM G nr a b 5 = b := by
    unfold sM; rw [hf]
    by_cases c : f = 0
    · rw [if_pos c]; exact ⟨by rw [pk_un (by decide), pk_un (by decide), pk_us], by rw [pk_un (by decide), pk_us], pk_us⟩
    · rw [if_neg c]; exact ⟨by rw [pk_un (by decide), pk_un (by decide), pk_un (by decide), pk_un (by decide), pk_us], by rw [pk_un (by decide), pk_un (by decide), pk_un (by decide), pk_us], by rw [pk_un (by decide), pk_un (by decide), pk_us]⟩
  have hm : mSm R f = sM G nr a b 6 := by
    rw [hM6]; unfold mSm; rw [h14]
    by_cases c : f = 0
    · rw [if_pos c, if_pos c]
      rcases hG6 with q | q <;> rw [q] <;> decide
    · rw [if_neg c, if_neg c]; split <;> rfl
  have hd : ¬ sM G nr a b 6 = 0 → nr - sM G nr a b 7 = R 16 - mSr R f := by
    rw [hM6, hM7]; unfold mSr
    by_cases c : f = 0
    · rw [if_pos c, if_pos c, if_pos c]; exact hr
    · rw [if_neg c, if_neg c, if_neg c]; intro _; rw [Int32.sub_self, Int32.sub_self]
  have eF : mSf R f g = sF (sM G nr a b) g nr := by
    unfold mSf sF
    rw [hm, h4, hMk 2 (by decide)]
    by_cases c1 : g = 0
    · rw [if_pos c1, if_pos c1]
    · rw [if_neg c1, if_neg c1]
      by_cases c2 : sM G nr a b 6 = 0
      · rw [if_pos c2, if_pos c2]
      · rw [if_neg c2, if_neg c2, hd c2]
  have eR : mR R a b = sF (sM G nr a b) g nr := by unfold mR; rw [if_neg n0, if_neg n1, if_neg n2, eA, eB, eF]
  have eG : mG0 R a b = upd (upd (upd R 15 (mSr R f)) 14 (mSm R f)) 14 (mSz R f g) := by unfold mG0; rw [if_neg n0, if_neg n1, if_neg n2, eA, eB]
  have hcR : cR 7 G nr a b = sF (sM G nr a b) g nr := by rw [← hg]; rfl
  have hcG : cG 7 G nr a b = if sF (sM G nr a b) g nr = 0 then sM G nr a b else upd (sM G nr a b) 6 0 := by rw [← hg]; rfl
  have hcGk : ∀ k, k ≠ 6 → cG 7 G nr a b k = sM G nr a b k := by
    intro k hk
    rw [hcG]; split
    · rfl
    · rw [pk_un hk]
  have hcG6 : cG 7 G nr a b 6 = mSz R f g := by
    rw [hcG]; unfold mSz; rw [eF, hm]
    by_cases c1 : sF (sM G nr a b) g nr = 0
    · rw [if_pos c1, if_pos c1]
      by_cases c2 : sM G nr a b 6 = 0
      · rw [if_pos c2]; exact c2
      · rw [if_neg c2]
        rw [hM6] at c2 ⊢
        by_cases c : f = 0
        · rw [if_pos c] at c2 ⊢; exact hG6.resolve_left c2
        · rw [if_neg c]
    · rw [if_neg c1, if_neg c1, pk_us]; split <;> rfl
  refine ⟨hcR.trans eR.symm, Or.inr (Or.inr (Or.inr ⟨rfl, ?_, ?_, ?_, ?_, ?_, ?_, ?_, ?_, ?_⟩))⟩
  · rw [mG_k _ _ _ _ (by decide), h0]
  · rw [mG_k _ _ _ _ (by decide), h2, hcGk 0 (by decide), hMk 0 (by decide)]
  · rw [mG_k _ _ _ _ (by decide), h3, hcGk 1 (by decide), hMk 1 (by decide)]
  · rw [mG_k _ _ _ _ (by decide), h4, hcGk 2 (by decide), hMk 2 (by decide)]
  · rw [mG_6, hcGk 3 (by decide), hM345.1]
  · intro _; exact ⟨by rw [mG_7, hcGk 4 (by decide), hM345.2.1], by rw [mG_8, hcGk 5 (by decide), hM345.2.2]⟩
  · rw [mG_m _ _ _ _ (by decide) (by decide), eG, pk_us, hcG6]
  · rw [hcG6]; exact mSz01 _ _ _
  · intro q
    rw [hcGk 7 (by decide), mG_16, mG0_16, mG_m _ _ _ _ (by decide) (by decide), eG, pk_un (by decide), pk_un (by decide), pk_us, jsub_s, jsub_s]
    have c2 : ¬ sM G nr a b 6 = 0 := by
      intro z
      apply q
      rw [hcG6]; unfold mSz; rw [hm, if_pos z]
    rw [hd c2]
/-- a sample and both conditions -/
theorem cRel_step {ci : Nat} {G R : Nat → Int32} {nr : Int32} {W : Nat} (h : cRel ci G R nr W) (hW : W < 1000000) (a b : Int32) : cR ci G nr a b = mR R a b ∧ cRel ci (cG ci G nr a b) (mG R a b) (nr + 1) (W + 1) := by
  rcases h with ⟨rfl, h0, h1, h2, h3, h5, h9, hG, hG4⟩ | ⟨rfl, h0, h1, h2, h3, h4, h5, hG, hl, w, hw, hm, hg, hz, hp⟩ | ⟨rfl, h0, h1, h2, h3, w, hw, hm, hz, hp⟩ | ⟨rfl, h0, h2, h3, h4, h6, h78, h14, hG6, hr⟩
  · exact cRel_edge h0 h1 h2 h3 h5 h9 hG hG4 a b
  · exact cRel_width h0 h1 h2 h3 h4 h5 hG hl hw hW hm hg hz hp a b
  · exact cRel_runt h0 h1 h2 h3 hw hW hm hz hp a b
  · exact cRel_seq h0 h2 h3 h4 h6 h78 h14 hG6 hr a b
theorem mBegins_k (R : Nat → Int32) (k : Nat) (h : k < 6 ∨ k = 7 ∨ k = 8 ∨ k = 11 ∨ k = 15 ∨ 17 ≤ k) : mBegins R k = R k := by
  unfold mBegins
  rw [pk_un (by omega), pk_un (by omega), pk_un (by omega), pk_un (by omega), pk_un (by omega), pk_un (by omega), pk_un (by omega)]
theorem mBegins_0 (R : Nat → Int32) : mBegins R 6 = 0 ∧ mBegins R 9 = 0 ∧ mBegins R 10 = 0 ∧ mBegins R 12 = 0 ∧ mBegins R 13 = 0 ∧ mBegins R 14 = 0 ∧ mBegins R 16 = 0 := by
  unfold mBegins; exact ⟨rfl, rfl, rfl, rfl, rfl, rfl, rfl⟩
/-- both begin anew: from the settings alone -/
theorem cRel_new {ci : Nat} {G R : Nat → Int32} {nr nr' : Int32} {W : Nat} (h : cRel ci G R nr W) (X : Nat → Int32) (bk : ∀ k, k < 6 → X k = R k) (b : X 6 = 0 ∧ X 9 = 0 ∧ X 10 = 0 ∧ X 14 = 0) : cRel ci (cNew ci G) X nr' 0 := by
  rcases h with ⟨rfl, h0, h1, h2, h3, h5, h9, hG, hG4⟩ | ⟨rfl, h0, h1, h2, h3, h4, h5, hG, hl, w, hw, hm, hg, hz, hp⟩ | ⟨rfl, h0, h1, h2, h3, w, hw, hm, hz, hp⟩ | ⟨rfl, h0, h2, h3, h4, h6, h78, h14, hG6, hr⟩
  · exact Or.inl ⟨rfl, by rw [bk _ (by decide), h0], by rw [bk _ (by decide), h1]; rfl, by rw [bk _ (by decide), h2]; rfl, by rw [bk _ (by decide), h3]; rfl, by rw [bk _ (by decide), h5]; rfl, by rw [b.2.1]; rfl, hG, Or.inl rfl⟩
  · exact Or.inr (Or.inl ⟨rfl, by rw [bk _ (by decide), h0], by rw [bk _ (by decide), h1]; rfl, by rw [bk _ (by decide), h2]; rfl, by rw [bk _ (by decide), h3]; rfl, by rw [bk _ (by decide), h4]; rfl, by rw [bk _ (by decide), h5]; rfl, hG, hl, 0, Nat.le_refl _, by rw [b.2.2.1]; rfl, rfl, fun _ => by rw [b.1]; rfl, fun q => absurd q (by decide)⟩)
  · exact Or.inr (Or.inr (Or.inl ⟨rfl, by rw [bk _ (by decide), h0], by rw [bk _ (by decide), h1]; rfl, by rw [bk _ (by decide), h2]; rfl, by rw [bk _ (by decide), h3]; rfl, 0, Nat.le_refl _, by rw [b.2.2.1]; rfl, fun _ => ⟨by rw [b.1]; rfl, rfl, rfl⟩, fun q => absurd q (by decide)⟩))
  · exact Or.inr (Or.inr (Or.inr ⟨rfl, by rw [bk _ (by decide), h0], by rw [bk _ (by decide), h2]; rfl, by rw [bk _ (by decide), h3]; rfl, by rw [bk _ (by decide), h4]; rfl, by rw [b.1]; rfl, fun q => absurd b.1 q, by rw [b.2.2.2]; rfl, Or.inl rfl, fun q => absurd rfl q⟩))
