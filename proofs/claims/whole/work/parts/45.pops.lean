/-! settings and questions about the memory, both sides -/
def sSetG (S : JS) (G : Nat → Int32) : JS := (S.1, G, S.2.2)
def sSetM (S : JS) (M : Nat → Int32) (f : Bool) : JS := (S.1, S.2.1, S.2.2.1, S.2.2.2.1, S.2.2.2.2.1, M, f, S.2.2.2.2.2.2.2)
def tSetR (T : MS) (R : Nat → Int32) : MS := (R, T.2)
theorem RUN_edge {ci : Nat} {S : JS} {fl ce : Nat → Int32} {T : MS} {MK LO HI : Nat → Int32} (h : RUN ci S fl ce T MK LO HI) (ch lv hy : Int32) {ri : Int32} (hr : ri = 0 ∨ ri = 1) : RUN 1 (sSetG S (gE ch lv hy ri)) fl ce (tSetR T (mSets (upd T.1 44 0) 0 ch lv hy 0 ri)) MK LO HI := by
  obtain ⟨P, q, r, h⟩ := h
  refine ⟨P, q, r, runR_cond h ?_ (mSets_bool (mBool_u h.2.1 44 0 (Or.inl (by decide))) _ _ _ _ _ hr) (fun k h1 h2 => (mSets_k _ _ _ _ _ _ _ k h1).trans (pk_un (by omega)))⟩
  obtain ⟨a0, a1, a2, a3, a4, a5⟩ := mSets_6 (upd T.1 44 0) 0 ch lv hy 0 ri
  obtain ⟨b6, b9, b10, b14⟩ := mSets_0 (upd T.1 44 0) 0 ch lv hy 0 ri
  exact Or.inl ⟨rfl, a0, a1, a2, a3, a5, b9, hr, Or.inl rfl⟩
theorem RUN_width {ci : Nat} {S : JS} {fl ce : Nat → Int32} {T : MS} {MK LO HI : Nat → Int32} (h : RUN ci S fl ce T MK LO HI) (ch lv le mo : Int32) {hi : Int32} (hr : hi = 0 ∨ hi = 1) (hl : 1 ≤ le) : RUN 8 (sSetG S (gW ch lv le mo hi)) fl ce (tSetR T (mSets (upd T.1 44 0) 1 ch lv le mo hi)) MK LO HI := by
  obtain ⟨P, q, r, h⟩ := h
  refine ⟨P, q, r, runR_cond h ?_ (mSets_bool (mBool_u h.2.1 44 0 (Or.inl (by decide))) _ _ _ _ _ hr) (fun k h1 h2 => (mSets_k _ _ _ _ _ _ _ k h1).trans (pk_un (by omega)))⟩
  obtain ⟨a0, a1, a2, a3, a4, a5⟩ := mSets_6 (upd T.1 44 0) 1 ch lv le mo hi
  obtain ⟨b6, b9, b10, b14⟩ := mSets_0 (upd T.1 44 0) 1 ch lv le mo hi
  exact Or.inr (Or.inl ⟨rfl, a0, a1, a2, a3, a4, a5, hr, hl, 0, Nat.zero_le _, b10, rfl, fun _ => b6, fun z => absurd z (by decide)⟩)
theorem RUN_runt {ci : Nat} {S : JS} {fl ce : Nat → Int32} {T : MS} {MK LO HI : Nat → Int32} (h : RUN ci S fl ce T MK LO HI) (ch lo hi : Int32) : RUN 6 (sSetG S (gR ch lo hi)) fl ce (tSetR T (mSets (upd T.1 44 0) 2 ch lo hi 0 1)) MK LO HI := by
  obtain ⟨P, q, r, h⟩ := h
  refine ⟨P, q, r, runR_cond h ?_ (mSets_bool (mBool_u h.2.1 44 0 (Or.inl (by decide))) _ _ _ _ _ (Or.inr rfl)) (fun k h1 h2 => (mSets_k _ _ _ _ _ _ _ k h1).trans (pk_un (by omega)))⟩
  obtain ⟨a0, a1, a2, a3, a4, a5⟩ := mSets_6 (upd T.1 44 0) 2 ch lo hi 0 1
  obtain ⟨b6, b9, b10, b14⟩ := mSets_0 (upd T.1 44 0) 2 ch lo hi 0 1
  exact Or.inr (Or.inr (Or.inl ⟨rfl, a0, a1, a2, a3, 0, Nat.zero_le _, b10, fun _ => ⟨b6, rfl, rfl⟩, fun z => absurd z (by decide)⟩))
theorem RUN_seq {ci : Nat} {S : JS} {fl ce : Nat → Int32} {T : MS} {MK LO HI : Nat → Int32} (h : RUN ci S fl ce T MK LO HI) (a b sp : Int32) : RUN 7 (sSetG S (gS a b sp)) fl ce (tSetR T (mSets (upd T.1 44 0) 3 0 a b sp 1)) MK LO HI := by
  obtain ⟨P, q, r, h⟩ := h
  refine ⟨P, q, r, runR_cond h ?_ (mSets_bool (mBool_u h.2.1 44 0 (Or.inl (by decide))) _ _ _ _ _ (Or.inr rfl)) (fun k h1 h2 => (mSets_k _ _ _ _ _ _ _ k h1).trans (pk_un (by omega)))⟩
  obtain ⟨a0, a1, a2, a3, a4, a5⟩ := mSets_6 (upd T.1 44 0) 3 0 a b sp 1
  obtain ⟨b6, b9, b10, b14⟩ := mSets_0 (upd T.1 44 0) 3 0 a b sp 1
  exact Or.inr (Or.inr (Or.inr ⟨rfl, a0, a2, a3, a4, b6, fun z => absurd b6 z, b14, Or.inl rfl, fun z => absurd rfl z⟩))
/-- only the place 44 of the reference's numbers, or one behind 36, is another -/
theorem RUN_R {ci : Nat} {S : JS} {fl ce : Nat → Int32} {T : MS} {MK LO HI : Nat → Int32} (h : RUN ci S fl ce T MK LO HI) (R' : Nat → Int32) (e : ∀ k, k < 37 → R' k = T.1 k) : RUN ci S fl ce (tSetR T R') MK LO HI := by
  obtain ⟨P, q, r, h⟩ := h
  exact ⟨P, q, r, runR_congr h e⟩
theorem RUN_44 {ci : Nat} {S : JS} {fl ce : Nat → Int32} {T : MS} {MK LO HI : Nat → Int32} (h : RUN ci S fl ce T MK LO HI) (i : Int32) : RUN ci S fl ce (tSetR T (upd T.1 44 i)) MK LO HI := RUN_R h _ (fun k hk => pk_un (by omega))
theorem RUN_len {ci : Nat} {S : JS} {fl ce : Nat → Int32} {T : MS} {MK LO HI : Nat → Int32} (h : RUN ci S fl ce T MK LO HI) {a b : Int32} (he : eLen a b (S.2.2.2.2.2.1 3) = 0) : RUN ci (sSetM S (upd (upd S.2.2.2.2.2.1 4 a) 5 b) S.2.2.2.2.2.2.1) fl ce (tSetR T (upd (upd (upd T.1 44 0) 17 a) 18 b)) MK LO HI := by
  obtain ⟨P, q, r, hN, hB, hc, h21, hcat, hD, hm, hg, hR⟩ := h
  have hin : jin a 0 16 ∧ jin b 0 32 := by
    by_cases z : jin a 0 16 ∧ jin b 0 32
    · exact z
    · rw [show eLen a b (S.2.2.2.2.2.1 3) = 1 from jI_f z] at he; exact absurd he (by decide)
  have h3 : S.2.2.2.2.2.1 3 = 0 := by
    rw [show eLen a b (S.2.2.2.2.2.1 3) = (if S.2.2.2.2.2.1 3 = 0 then 0 else 2) from jI_t hin] at he
    by_cases z : S.2.2.2.2.2.1 3 = 0
    · exact z
    · rw [if_neg z] at he; exact absurd he (by decide)
  obtain ⟨a1, ha1, rfl⟩ := jin_nat 16 hin.1 (by decide) rfl
  obtain ⟨b1, hb1, rfl⟩ := jin_nat 32 hin.2 (by decide) rfl
  have hf : S.2.2.2.2.2.2.1 = false := by
    cases hfv : S.2.2.2.2.2.2.1 with
    | false => rfl
    | true => have := (hcat hfv).2.2.1; rw [h3] at this; exact absurd this (by decide)
  obtain ⟨n24, n17, n18, n28, m1, m4, m5, n19, n20, n22, n23, n25, hr8, hP, hq, har, fc, hfc, m9, r35, hof, hoo⟩ := hN
  have rk : ∀ z, z ≠ 17 → z ≠ 18 → z ≠ 44 → upd (upd (upd T.1 44 0) 17 (nI a1)) 18 (nI b1) z = T.1 z := fun z h1 h2 h4 => by rw [pk_un h2, pk_un h1, pk_un h4]
  have mk : ∀ z, z ≠ 4 → z ≠ 5 → upd (upd S.2.2.2.2.2.1 4 (nI a1)) 5 (nI b1) z = S.2.2.2.2.2.1 z := fun z h1 h2 => by rw [pk_un h2, pk_un h1]
  refine ⟨a1, b1, r, ⟨(rk 24 (by decide) (by decide) (by decide)).trans n24, ?_, ?_, (rk 28 (by decide) (by decide) (by decide)).trans n28, (mk 1 (by decide) (by decide)).trans m1, ?_, ?_, ?_, ?_, ?_, ?_, (rk 25 (by decide) (by decide) (by decide)).trans n25, hr8, ha1, hb1, ?_, fc, hfc, (mk 9 (by decide) (by decide)).trans m9, (rk 35 (by decide) (by decide) (by decide)).trans r35, ?_, ?_⟩, ?_, cRel_congr hc (fun k hk => rk k (by omega) (by omega) (by omega)), (rk 21 (by decide) (by decide) (by decide)).trans h21, ?_, hD, hm, hg, hR⟩
  · show upd (upd (upd T.1 44 0) 17 (nI a1)) 18 (nI b1) 17 = _; rw [pk_un (by decide), pk_us]
  · show upd (upd (upd T.1 44 0) 17 (nI a1)) 18 (nI b1) 18 = _; rw [pk_us]
  · show upd (upd S.2.2.2.2.2.1 4 (nI a1)) 5 (nI b1) 4 = _; rw [pk_un (by decide), pk_us]
  · show upd (upd S.2.2.2.2.2.1 4 (nI a1)) 5 (nI b1) 5 = _; rw [pk_us]
  · exact (rk 19 (by decide) (by decide) (by decide)).trans (n19.trans (mk 6 (by decide) (by decide)).symm)
  · exact (rk 20 (by decide) (by decide) (by decide)).trans (n20.trans (mk 3 (by decide) (by decide)).symm)
  · exact (rk 22 (by decide) (by decide) (by decide)).trans (n22.trans (mk 7 (by decide) (by decide)).symm)
  · intro z
    exact (rk 23 (by decide) (by decide) (by decide)).trans ((n23 (fun y => z ((mk 7 (by decide) (by decide)).trans y))).trans (mk 8 (by decide) (by decide)).symm)
  · intro z
    exact har (fun y => z ((mk 3 (by decide) (by decide)).trans y))
  · show upd (upd S.2.2.2.2.2.1 4 (nI a1)) 5 (nI b1) 10 = -1 ↔ fc = 0
    rw [mk 10 (by decide) (by decide)]; exact hof
  · intro z
    exact (rk 36 (by decide) (by decide) (by decide)).trans ((hoo z).trans (mk 10 (by decide) (by decide)).symm)
  · exact mBool_u (mBool_u (mBool_u hB 44 0 (Or.inl (by decide))) 17 _ (Or.inl (by decide))) 18 _ (Or.inl (by decide))
  · intro z
    have z2 : S.2.2.2.2.2.2.1 = true := z
    rw [hf] at z2
    exact Bool.noConfusion z2
theorem RUN_hold {ci : Nat} {S : JS} {fl ce : Nat → Int32} {T : MS} {MK LO HI : Nat → Int32} (h : RUN ci S fl ce T MK LO HI) (a : Int32) : RUN ci (sSetM S (upd S.2.2.2.2.2.1 6 a) S.2.2.2.2.2.2.1) fl ce (tSetR T (upd (upd T.1 44 0) 19 a)) MK LO HI := by
  obtain ⟨P, q, r, hN, hB, hc, h21, hcat, hD, hm, hg, hR⟩ := h
  obtain ⟨n24, n17, n18, n28, m1, m4, m5, n19, n20, n22, n23, n25, hr8, hP, hq, har, fc, hfc, m9, r35, hof, hoo⟩ := hN
  have rk : ∀ z, z ≠ 19 → z ≠ 44 → upd (upd T.1 44 0) 19 a z = T.1 z := fun z h1 h4 => by rw [pk_un h1, pk_un h4]
  have mk : ∀ z, z ≠ 6 → upd S.2.2.2.2.2.1 6 a z = S.2.2.2.2.2.1 z := fun z h1 => by rw [pk_un h1]
  refine ⟨P, q, r, ⟨(rk 24 (by decide) (by decide)).trans n24, (rk 17 (by decide) (by decide)).trans n17, (rk 18 (by decide) (by decide)).trans n18, (rk 28 (by decide) (by decide)).trans n28, (mk 1 (by decide)).trans m1, (mk 4 (by decide)).trans m4, (mk 5 (by decide)).trans m5, ?_, ?_, ?_, ?_, (rk 25 (by decide) (by decide)).trans n25, hr8, hP, hq, ?_, fc, hfc, (mk 9 (by decide)).trans m9, (rk 35 (by decide) (by decide)).trans r35, ?_, ?_⟩, ?_, cRel_congr hc (fun k hk => rk k (by omega) (by omega)), (rk 21 (by decide) (by decide)).trans h21, ?_, hD, hm, hg, hR⟩
  · show upd (upd T.1 44 0) 19 a 19 = upd S.2.2.2.2.2.1 6 a 6; rw [pk_us, pk_us]
  · exact (rk 20 (by decide) (by decide)).trans (n20.trans (mk 3 (by decide)).symm)
  · exact (rk 22 (by decide) (by decide)).trans (n22.trans (mk 7 (by decide)).symm)
  · intro z
    exact (rk 23 (by decide) (by decide)).trans ((n23 (fun y => z ((mk 7 (by decide)).trans y))).trans (mk 8 (by decide)).symm)
  · intro z
    exact har (fun y => z ((mk 3 (by decide)).trans y))
  · show upd S.2.2.2.2.2.1 6 a 10 = -1 ↔ fc = 0
    rw [mk 10 (by decide)]; exact hof
  · intro z
    exact (rk 36 (by decide) (by decide)).trans ((hoo z).trans (mk 10 (by decide)).symm)
  · exact mBool_u (mBool_u hB 44 0 (Or.inl (by decide))) 19 _ (Or.inl (by decide))
  · intro z
    obtain ⟨c1, c2, c3, tl, k, c4, c5⟩ := hcat z
    exact ⟨c1, fun y => c2 ((mk 7 (by decide)).symm.trans y), (mk 3 (by decide)).trans c3, tl, k, (mk 8 (by decide)).trans c4, c5⟩
theorem RUN_arm {ci : Nat} {S : JS} {fl ce : Nat → Int32} {T : MS} {MK LO HI : Nat → Int32} (h : RUN ci S fl ce T MK LO HI) : RUN ci (sSetM S (upd (upd (upd (upd (upd S.2.2.2.2.2.1 3 1) 1 0) 7 0) 9 0) 10 (-1)) false) fl ce (tSetR T (upd (upd (upd (upd (upd (upd T.1 44 0) 28 0) 20 1) 21 0) 22 0) 35 0)) MK LO HI := by
  obtain ⟨P, q, r, hN, hB, hc, h21, hcat, hD, hm, hg, hR⟩ := h
  obtain ⟨n24, n17, n18, n28, m1, m4, m5, n19, n20, n22, n23, n25, hr8, hP, hq, har, fc, hfc, m9, r35, hof, hoo⟩ := hN
  have rk : ∀ z, z ≠ 28 → z ≠ 20 → z ≠ 21 → z ≠ 22 → z ≠ 35 → z ≠ 44 → upd (upd (upd (upd (upd (upd T.1 44 0) 28 0) 20 1) 21 0) 22 0) 35 0 z = T.1 z := fun z h1 h2 h3 h4 h5 h6 => by rw [pk_un h5, pk_un h4, pk_un h3, pk_un h2, pk_un h1, pk_un h6]
  have mk : ∀ z, z ≠ 3 → z ≠ 1 → z ≠ 7 → z ≠ 9 → z ≠ 10 → upd (upd (upd (upd (upd S.2.2.2.2.2.1 3 1) 1 0) 7 0) 9 0) 10 (-1) z = S.2.2.2.2.2.1 z := fun z h1 h2 h3 h4 h5 => by rw [pk_un h5, pk_un h4, pk_un h3, pk_un h2, pk_un h1]
  refine ⟨P, q, 0, ⟨(rk 24 (by decide) (by decide) (by decide) (by decide) (by decide) (by decide)).trans n24, (rk 17 (by decide) (by decide) (by decide) (by decide) (by decide) (by decide)).trans n17, (rk 18 (by decide) (by decide) (by decide) (by decide) (by decide) (by decide)).trans n18, rfl, rfl, (mk 4 (by decide) (by decide) (by decide) (by decide) (by decide)).trans m4, (mk 5 (by decide) (by decide) (by decide) (by decide) (by decide)).trans m5, ?_, rfl, rfl, fun z => absurd rfl z, (rk 25 (by decide) (by decide) (by decide) (by decide) (by decide) (by decide)).trans n25, by decide, hP, hq, fun _ => by decide, 0, Nat.le_refl _, rfl, rfl, ⟨fun _ => rfl, fun _ => rfl⟩, fun z => absurd z (by decide)⟩, ?_, cRel_congr hc (fun k hk => rk k (by omega) (by omega) (by omega) (by omega) (by omega) (by omega)), rfl, fun z => Bool.noConfusion z, fun i hi => absurd hi (Nat.not_lt_zero _), hm, hg, hR⟩
  · exact (rk 19 (by decide) (by decide) (by decide) (by decide) (by decide) (by decide)).trans (n19.trans (mk 6 (by decide) (by decide) (by decide) (by decide) (by decide)).symm)
  · exact mBool_u (mBool_u (mBool_u (mBool_u (mBool_u (mBool_u hB 44 0 (Or.inl (by decide))) 28 0 (Or.inl (by decide))) 20 1 (Or.inr (Or.inr rfl))) 21 0 (Or.inr (Or.inl rfl))) 22 0 (Or.inr (Or.inl rfl))) 35 0 (Or.inl (by decide))
theorem RUN_disarm {ci : Nat} {S : JS} {fl ce : Nat → Int32} {T : MS} {MK LO HI : Nat → Int32} (h : RUN ci S fl ce T MK LO HI) : RUN ci (sSetM S (upd S.2.2.2.2.2.1 3 0) false) fl ce (tSetR T (upd (upd (upd T.1 44 0) 20 0) 21 0)) MK LO HI := by
  obtain ⟨P, q, r, hN, hB, hc, h21, hcat, hD, hm, hg, hR⟩ := h
  obtain ⟨n24, n17, n18, n28, m1, m4, m5, n19, n20, n22, n23, n25, hr8, hP, hq, har, fc, hfc, m9, r35, hof, hoo⟩ := hN
  have rk : ∀ z, z ≠ 20 → z ≠ 21 → z ≠ 44 → upd (upd (upd T.1 44 0) 20 0) 21 0 z = T.1 z := fun z h1 h2 h3 => by rw [pk_un h2, pk_un h1, pk_un h3]
  have mk : ∀ z, z ≠ 3 → upd S.2.2.2.2.2.1 3 0 z = S.2.2.2.2.2.1 z := fun z h1 => by rw [pk_un h1]
  refine ⟨P, q, r, ⟨(rk 24 (by decide) (by decide) (by decide)).trans n24, (rk 17 (by decide) (by decide) (by decide)).trans n17, (rk 18 (by decide) (by decide) (by decide)).trans n18, (rk 28 (by decide) (by decide) (by decide)).trans n28, (mk 1 (by decide)).trans m1, (mk 4 (by decide)).trans m4, (mk 5 (by decide)).trans m5, ?_, rfl, ?_, ?_, (rk 25 (by decide) (by decide) (by decide)).trans n25, hr8, hP, hq, fun z => absurd rfl z, fc, hfc, (mk 9 (by decide)).trans m9, (rk 35 (by decide) (by decide) (by decide)).trans r35, ?_, ?_⟩, ?_, cRel_congr hc (fun k hk => rk k (by omega) (by omega) (by omega)), rfl, fun z => Bool.noConfusion z, hD, hm, hg, hR⟩
  · exact (rk 19 (by decide) (by decide) (by decide)).trans (n19.trans (mk 6 (by decide)).symm)
  · exact (rk 22 (by decide) (by decide) (by decide)).trans (n22.trans (mk 7 (by decide)).symm)
  · intro z
    exact (rk 23 (by decide) (by decide) (by decide)).trans ((n23 (fun y => z ((mk 7 (by decide)).trans y))).trans (mk 8 (by decide)).symm)
  · show upd S.2.2.2.2.2.1 3 0 10 = -1 ↔ fc = 0
    rw [mk 10 (by decide)]; exact hof
  · intro z
    exact (rk 36 (by decide) (by decide) (by decide)).trans ((hoo z).trans (mk 10 (by decide)).symm)
  · exact mBool_u (mBool_u (mBool_u hB 44 0 (Or.inl (by decide))) 20 0 (Or.inr (Or.inl rfl))) 21 0 (Or.inr (Or.inl rfl))
theorem RUN_mask {ci : Nat} {S : JS} {fl ce : Nat → Int32} {T : MS} {MK LO HI : Nat → Int32} (h : RUN ci S fl ce T MK LO HI) (x y : Nat) (lo hi : Int32) : RUN ci S (jset x y lo fl) (jset x y hi ce) (tSetR T (upd T.1 44 0)) (jset x y 1 MK) (jset x y lo LO) (jset x y hi HI) := by
  obtain ⟨P, q, r, h⟩ := RUN_44 h 0
  obtain ⟨hN, hB, hc, h21, hcat, hD, hm, hg, hR⟩ := h
  refine ⟨P, q, r, hN, hB, hc, h21, hcat, hD, ?_, hg, hR⟩
  intro j hj
  unfold jset
  by_cases z : x ≤ j ∧ j < y
  · rw [if_pos z, if_pos z, if_pos z, if_pos z, if_pos z]; exact Or.inr ⟨rfl, rfl, rfl⟩
  · rw [if_neg z, if_neg z, if_neg z, if_neg z, if_neg z]; exact hm j hj
theorem RUN_unmask {ci : Nat} {S : JS} {fl ce : Nat → Int32} {T : MS} {MK LO HI : Nat → Int32} (h : RUN ci S fl ce T MK LO HI) : RUN ci S (jset 0 49 (-128) fl) (jset 0 49 127 ce) (tSetR T (upd T.1 44 0)) (jset 0 49 0 MK) LO HI := by
  obtain ⟨P, q, r, h⟩ := RUN_44 h 0
  obtain ⟨hN, hB, hc, h21, hcat, hD, hm, hg, hR⟩ := h
  refine ⟨P, q, r, hN, hB, hc, h21, hcat, hD, ?_, hg, hR⟩
  intro j hj
  unfold jset
  have z : 0 ≤ j ∧ j < 49 := ⟨Nat.zero_le _, hj⟩
  rw [if_pos z, if_pos z, if_pos z]; exact Or.inl ⟨rfl, rfl, rfl⟩
/-- what both sides answer of the memory's numbers -/
theorem RUN_num {ci : Nat} {S : JS} {fl ce : Nat → Int32} {T : MS} {MK LO HI : Nat → Int32} (h : RUN ci S fl ce T MK LO HI) : T.1 28 = S.2.2.2.2.2.1 1 ∧ T.1 20 = S.2.2.2.2.2.1 3 ∧ T.1 19 = S.2.2.2.2.2.1 6 ∧ T.1 24 = nI S.2.2.1 ∧ T.1 25 = S.1 ∧ T.1 35 = S.2.2.2.2.2.1 9 ∧ T.1 21 = (if S.2.2.2.2.2.2.1 then 1 else 0) ∧ (S.2.2.2.2.2.1 3 = 0 ∨ S.2.2.2.2.2.1 3 = 1) ∧ mBool T.1 := by
  obtain ⟨P, q, r, ⟨n24, n17, n18, n28, m1, m4, m5, n19, n20, n22, n23, n25, hr8, hP, hq, har, fc, hfc, m9, r35, hof, hoo⟩, hB, hc, h21, -⟩ := h
  exact ⟨n28.trans m1.symm, n20, n19, n24, n25, r35.trans m9.symm, h21, by rw [← n20]; exact hB.2.2.2.2.2.2.1, hB⟩
theorem RUN_off {ci : Nat} {S : JS} {fl ce : Nat → Int32} {T : MS} {MK LO HI : Nat → Int32} (h : RUN ci S fl ce T MK LO HI) : (T.1 35 = 0 ∧ eOff (S.2.2.2.2.2.1 10) = 1) ∨ (¬ T.1 35 = 0 ∧ eOff (S.2.2.2.2.2.1 10) = 0 ∧ T.1 36 = S.2.2.2.2.2.1 10) := by
  obtain ⟨P, q, r, ⟨n24, n17, n18, n28, m1, m4, m5, n19, n20, n22, n23, n25, hr8, hP, hq, har, fc, hfc, m9, r35, hof, hoo⟩, -⟩ := h
  by_cases z : fc = 0
  · exact Or.inl ⟨by rw [r35, z]; rfl, if_pos (hof.mpr z)⟩
  · exact Or.inr ⟨by rw [r35]; exact fun y => z ((nI_eq (a := fc) (b := 0) (by omega) (by decide)).mp y), if_neg (fun y => z (hof.mp y)), hoo (by omega)⟩
/-- the complete records, both sides -/
theorem RUN_rec {ci : Nat} {S : JS} {fl ce : Nat → Int32} {T : MS} {MK LO HI : Nat → Int32} (h : RUN ci S fl ce T MK LO HI) : ∃ m8 : Nat, m8 ≤ 8 ∧ S.2.2.2.2.2.1 1 = nI m8 ∧ T.1 28 = nI m8 ∧ recOK S.2.2.2.2.2.2.2 m8 ∧ lenOK T.2.2.2.2.1 m8 ∧ cmpR m8 S.2.2.2.2.2.2.2 T.2.2.2.1 T.2.2.2.2.1 T.2.2.2.2.2 ∧ ∀ i, i < m8 → T.2.2.2.2.1 i = (S.2.2.2.2.2.2.2 i).2.2.1 := by
  obtain ⟨P, q, r, ⟨n24, n17, n18, n28, m1, m4, m5, n19, n20, n22, n23, n25, hr8, hP, hq, har, fc, hfc, m9, r35, hof, hoo⟩, hB, hc, h21, hcat, hD, -⟩ := h
  refine ⟨r, hr8, m1, n28, fun i hi => ?_, fun i hi => ?_, hD, fun i hi => ?_⟩
  · obtain ⟨-, k, -, -, h49, hk, -⟩ := hD i hi
    exact ⟨k, hk, h49⟩
  · obtain ⟨-, k, hl, h1, h49, -, -⟩ := hD i hi
    exact ⟨k, hl, h1, h49⟩
  · obtain ⟨-, k, hl, -, -, hk, -⟩ := hD i hi
    exact hl.trans hk.symm
