/-- the place of the crossing with the number nb among the places 1 .. i, -1 if there is none -/
def mfc (f : Nat → Int32) (lv : Int32) (nb : Nat) : Nat → Int32
  | 0 => -1
  | i + 1 => if jcr f lv (i + 1) = 0 then mfc f lv nb i else if jcrN f lv i = nb then nI (i + 1) else mfc f lv nb i
theorem mfc_s (f : Nat → Int32) (lv : Int32) (nb i : Nat) (hi : 1 ≤ i) : mfc f lv nb i = if jcr f lv i = 0 then mfc f lv nb (i - 1) else if jcrN f lv (i - 1) = nb then nI i else mfc f lv nb (i - 1) := by
  obtain ⟨j, rfl⟩ : ∃ j, i = j + 1 := ⟨i - 1, by omega⟩
  rfl
theorem mfc_out (f : Nat → Int32) (lv : Int32) (nb i : Nat) (h : jcrN f lv i ≤ nb) : mfc f lv nb i = -1 := by
  induction i with
  | zero => rfl
  | succ i ih =>
    rw [mfc]
    rw [jcrN] at h
    by_cases q : jcr f lv (i + 1) = 0
    · rw [if_pos q] at h ⊢; exact ih h
    · rw [if_neg q] at h ⊢
      rw [if_neg (by omega)]
      exact ih (by omega)
theorem mfc_in (f : Nat → Int32) (lv : Int32) (nb i : Nat) (h : nb < jcrN f lv i) : ∃ j : Nat, j ≤ i ∧ mfc f lv nb i = nI j := by
  induction i with
  | zero => rw [jcrN] at h; omega
  | succ i ih =>
    rw [mfc]
    rw [jcrN] at h
    by_cases q : jcr f lv (i + 1) = 0
    · rw [if_pos q] at h ⊢
      obtain ⟨j, h1, h2⟩ := ih h
      exact ⟨j, by omega, h2⟩
    · rw [if_neg q] at h ⊢
      by_cases z : jcrN f lv i = nb
      · rw [if_pos z]; exact ⟨i + 1, Nat.le_refl _, rfl⟩
      · rw [if_neg z]
        obtain ⟨j, h1, h2⟩ := ih (by omega)
        exact ⟨j, by omega, h2⟩
theorem mfc_ng {f : Nat → Int32} {lv : Int32} {nb i : Nat} (hi : i < 100) (h : mfc f lv nb i < 0) : jcrN f lv i ≤ nb := by
  by_cases q : nb < jcrN f lv i
  · obtain ⟨j, h1, h2⟩ := mfc_in f lv nb i q
    rw [h2] at h
    exact absurd h (nI_pos (by omega))
  · omega
theorem mfc_nn {f : Nat → Int32} {lv : Int32} {nb i : Nat} (h : ¬ mfc f lv nb i < 0) : nb < jcrN f lv i := by
  by_cases q : nb < jcrN f lv i
  · exact q
  · rw [mfc_out f lv nb i (by omega)] at h
    exact absurd (by decide) h
theorem mfc_first (f : Nat → Int32) (lv : Int32) (i : Nat) (h : 0 < jcrN f lv i) : mfc f lv 0 i = nI (jcrF f lv i) := by
  induction i with
  | zero => rw [jcrN] at h; omega
  | succ i ih =>
    rw [mfc, jcrF]
    rw [jcrN] at h
    by_cases q : jcr f lv (i + 1) = 0
    · rw [if_pos q] at h ⊢; rw [if_pos q]; exact ih h
    · rw [if_neg q, if_neg q]
      by_cases z : jcrN f lv i = 0
      · rw [if_pos z, if_pos z]
      · rw [if_neg z, if_neg z]; exact ih (by omega)
theorem mfc_last (f : Nat → Int32) (lv : Int32) (i : Nat) (h : 0 < jcrN f lv i) : mfc f lv (jcrN f lv i - 1) i = nI (jcrL f lv i) := by
  induction i with
  | zero => rw [jcrN] at h; omega
  | succ i ih =>
    rw [mfc, jcrL]
    by_cases q : jcr f lv (i + 1) = 0
    · have e : jcrN f lv (i + 1) = jcrN f lv i := if_pos q
      rw [e] at h ⊢
      rw [if_pos q, if_pos q]; exact ih h
    · have e : jcrN f lv (i + 1) = jcrN f lv i + 1 := if_neg q
      rw [e, if_neg q, if_neg q, if_pos (by omega)]
theorem jsub0 {a b : Nat} (ha : a < 1000000) (hb : b < 1000000) : nI a - nI b = 0 ↔ b = a := by
  rw [← Int32.toInt_inj, pk_sub_toInt (by omega) (by omega)]
  have : (0 : Int32).toInt = 0 := by decide
  rw [this]
  omega
theorem jsub_1 (x : Int32) (b : Nat) : x - nI b - 1 = x - nI (b + 1) := by
  rw [← nI_1]
  simp only [Int32.sub_eq_add_neg, Int32.neg_add, Int32.add_assoc]
theorem jsub00 (x : Int32) : x - nI 0 = x := Int32.sub_zero x
theorem jsub_0 (x : Int32) : x - 0 = x := Int32.sub_zero x
set_option maxHeartbeats 8000000 in
set_option maxRecDepth 100000 in
theorem k_X11_crossing (l : Launch) (t : Nat → ClassId) (hfl : l.stackTraces = false) (m0 : Nat) (mb : Nat → Nat) (R : Nat → Int32) (CU : Nat → Int32) (LN : Nat → Int32) (SK : Nat → Int32) (TC : Nat → Int32) (r : Nat) (s1 : Nat) (i0 : Nat) (kk : Nat) (lv : Int32) (nb : Nat) (hr : r < 8) (hs1 : s1 ≤ 2) (hS : s1 = 2 → SK 0 = nI i0 ∧ i0 < 16) (hkk : LN r = nI kk) (hk1 : 1 ≤ kk) (hk49 : kk ≤ 49) (hnb : nb < 100) : jKx l t yX11_crossing (Cond.code yX11_crossing cX11_crossing 9 (some .int) :: jWS) { frames := 2, cells := 0, slots := 0, locals := 46 } [.ref m0, .int (nI r), .int (nI s1), .int lv, .int (nI nb)] [(m0, .inr (10, jmdl R mb)), ((mb 2), .inl (t 0, 784, .inl CU)), ((mb 3), .inl (t 0, 8, .inl LN)), ((mb 11), .inl (t 0, 16, .inl SK)), ((mb 12), .inl (t 0, 784, .inl TC))] (fun vv uu => (vv = some (.int (mfc (mrow CU TC i0 r s1) lv nb (kk - 1))) ∧ uu = [(m0, .inr (10, jmdl R mb)), ((mb 2), .inl (t 0, 784, .inl CU)), ((mb 3), .inl (t 0, 8, .inl LN)), ((mb 11), .inl (t 0, 16, .inl SK)), ((mb 12), .inl (t 0, 784, .inl TC))])) (fun _ _ => False) := by
  refine jK_of hfl (by decide +kernel) (Nat.le_of_ble_eq_true rfl) ?_
  intro p e s m args below meth c D A Q CC MM
  refine jr_norm0 [(0, .ref m0), (1, .int (nI r)), (2, .int (nI s1)), (3, .int lv), (4, .int (nI nb))] rfl ?_
  refine jr_iload CC (jd ddX11_crossing 0 rfl) 4 rfl ?_
  refine jr_istore [(5, .int (nI nb)), (0, .ref m0), (1, .int (nI r)), (2, .int (nI s1)), (3, .int lv), (4, .int (nI nb))] CC (jd ddX11_crossing 1 rfl) (by decide) rfl ?_
  refine jr_iconst (v := (-1)) CC (jd ddX11_crossing 2 rfl) (by decide) ?_
  refine jr_istore [(6, .int (-1)), (5, .int (nI nb)), (0, .ref m0), (1, .int (nI r)), (2, .int (nI s1)), (3, .int lv), (4, .int (nI nb))] CC (jd ddX11_crossing 3 rfl) (by decide) rfl ?_
  refine jr_norm0 [(6, .int (-1)), (5, .int (nI nb - nI (jcrN (mrow CU TC i0 r s1) lv (1 - 1)))), (0, .ref m0), (1, .int (nI r)), (2, .int (nI s1)), (3, .int lv), (4, .int (nI nb))] (by rw [show nI nb - nI (jcrN (mrow CU TC i0 r s1) lv (1 - 1)) = nI nb from jsub00 _]) ?_
  refine jr_iconst (v := 1) CC (jd ddX11_crossing 4 rfl) (by decide) ?_
  refine jr_istore [(7, .int 1), (6, .int (-1)), (5, .int (nI nb - nI (jcrN (mrow CU TC i0 r s1) lv (1 - 1)))), (0, .ref m0), (1, .int (nI r)), (2, .int (nI s1)), (3, .int lv), (4, .int (nI nb))] CC (jd ddX11_crossing 5 rfl) (by decide) rfl ?_
  have hL1 : ∀ (d9 : Nat) (i : Nat) (hi1 : 1 ≤ i) (hi : i ≤ max kk 1), kk - i < d9 → J p l e { frames := 2, cells := 0, slots := 0, locals := 46 } s m args below meth c D A 9 Q [(m0, .inr (10, jmdl R mb)), ((mb 2), .inl (t 0, 784, .inl CU)), ((mb 3), .inl (t 0, 8, .inl LN)), ((mb 11), .inl (t 0, 16, .inl SK)), ((mb 12), .inl (t 0, 784, .inl TC))] [(0, .ref m0), (1, .int (nI r)), (2, .int (nI s1)), (3, .int lv), (4, .int (nI nb)), (5, .int (nI nb - nI (jcrN (mrow CU TC i0 r s1) lv (i - 1)))), (6, .int (mfc (mrow CU TC i0 r s1) lv nb (i - 1))), (7, .int (nI i))] 10 [] 0 0 := by
    intro d9
    induction d9 with
    | zero => intro i hi1 hi hmu; exact absurd hmu (Nat.not_lt_zero _)
    | succ d9 ih10 =>
      intro i hi1 hi hmu
      refine jr_iload CC (jd ddX11_crossing 6 rfl) 7 rfl ?_
      have hN := jcrN_le (mrow CU TC i0 r s1) lv (i - 1)
      refine jr_aload_n CC (jd ddX11_crossing 7 rfl) 0 rfl ?_
      refine jr_get (v := .ref (mb 3)) CC (jd ddX11_crossing 8 rfl) (jf_X11_33 CC) 0 rfl rfl ?_
      refine jr_iload_n CC (jd ddX11_crossing 9 rfl) 1 rfl ?_
      refine jr_ialdN CC (jd ddX11_crossing 10 rfl) 2 r rfl rfl (by omega) (by decide) ?_
      refine jr_st [.int (nI kk), .int (nI i)] (jst1 hkk) ?_
      refine jr_icmp_ge 94 CC (jd ddX11_crossing 11 rfl) (by decide) (fun c2 => ?_) (fun c2 => ?_)
      · have n2 := jle_of (a := kk) (b := i) c2 (by omega) (by omega)
        refine jr_iload CC (jd ddX11_crossing 50 rfl) 6 rfl ?_
        exact jr_iret CC MM (jd ddX11_crossing 51 rfl) rfl (by decide) (by decide) ⟨by rw [show i - 1 = kk - 1 by omega], rfl⟩
      · have n2 := jle_not (a := kk) (b := i) c2 (by omega) (by omega)
        refine jr_aload_n CC (jd ddX11_crossing 12 rfl) 0 rfl ?_
        refine jr_iload_n CC (jd ddX11_crossing 13 rfl) 1 rfl ?_
        refine jr_iload_n CC (jd ddX11_crossing 14 rfl) 2 rfl ?_
        refine jr_iload CC (jd ddX11_crossing 15 rfl) 7 rfl ?_
        refine jr_pc (pc' := 26) rfl ?_
        refine jr_callV (q0 := 0) (rest := []) [.int (nI r), .int (nI s1), .int (nI i)] CC (jd ddX11_crossing 16 rfl) (jy_X11_235 CC) (k_X11_of l t hfl m0 mb R CU SK TC r s1 i i0 hr hs1 (by omega) hS) [0, 1, 3, 4] rfl (by decide) rfl rfl rfl rfl (by decide) (Nat.le_of_ble_eq_true rfl) (by rintro v u h; rcases h with ⟨rfl, rfl⟩ <;> exact (show ([m0, (mb 2), (mb 11), (mb 12)] : List Nat) = [m0, (mb 2), (mb 11), (mb 12)] from rfl)) (fun _ _ h => h.elim) (fun _ _ h => h.elim) (fun v u h => ?_)
        rcases h with ⟨rfl, rfl⟩
        refine jr_norm [(m0, .inr (10, jmdl R mb)), ((mb 2), .inl (t 0, 784, .inl CU)), ((mb 3), .inl (t 0, 8, .inl LN)), ((mb 11), .inl (t 0, 16, .inl SK)), ((mb 12), .inl (t 0, 784, .inl TC))] [.int (mrow CU TC i0 r s1 i)] 29 0 0 rfl rfl rfl rfl rfl ?_
        refine jr_iload_n CC (jd ddX11_crossing 17 rfl) 3 rfl ?_
        refine jr_icmp_le 51 CC (jd ddX11_crossing 18 rfl) (by decide) (fun c3 => ?_) (fun c3 => ?_)
        · refine jr_iconst (v := 0) CC (jd ddX11_crossing 30 rfl) (by decide) ?_
          refine jr_istore [(8, .int 0), (0, .ref m0), (1, .int (nI r)), (2, .int (nI s1)), (3, .int lv), (4, .int (nI nb)), (5, .int (nI nb - nI (jcrN (mrow CU TC i0 r s1) lv (i - 1)))), (6, .int (mfc (mrow CU TC i0 r s1) lv nb (i - 1))), (7, .int (nI i))] CC (jd ddX11_crossing 31 rfl) (by decide) rfl ?_
          refine jr_iload CC (jd ddX11_crossing 32 rfl) 0 rfl ?_
          refine jr_if_eq 69 CC (jd ddX11_crossing 33 rfl) (by decide) (fun _ => ?_) (fun h => absurd h (by decide))
          refine jr_iload CC (jd ddX11_crossing 38 rfl) 7 rfl ?_
          refine jr_istore [(6, .int (mfc (mrow CU TC i0 r s1) lv nb (i - 1))), (8, .int 0), (0, .ref m0), (1, .int (nI r)), (2, .int (nI s1)), (3, .int lv), (4, .int (nI nb)), (5, .int (nI nb - nI (jcrN (mrow CU TC i0 r s1) lv (i - 1)))), (7, .int (nI i))] CC (jd ddX11_crossing 39 rfl) (by decide) rfl ?_
          refine jr_iload CC (jd ddX11_crossing 40 rfl) 7 rfl ?_
          refine jr_iload CC (jd ddX11_crossing 41 rfl) 1 rfl ?_
          refine jr_pc (pc' := 77) rfl ?_
          refine jr_if_eq 84 CC (jd ddX11_crossing 42 rfl) (by decide) (fun _ => ?_) (fun h => absurd h (by decide))
          refine jr_iconst (v := 0) CC (jd ddX11_crossing 45 rfl) (by decide) ?_
          refine jr_isub CC (jd ddX11_crossing 46 rfl) ?_
          refine jr_istore [(5, .int ((nI nb - nI (jcrN (mrow CU TC i0 r s1) lv (i - 1))) - 0)), (6, .int (mfc (mrow CU TC i0 r s1) lv nb (i - 1))), (8, .int 0), (0, .ref m0), (1, .int (nI r)), (2, .int (nI s1)), (3, .int lv), (4, .int (nI nb)), (7, .int (nI i))] CC (jd ddX11_crossing 47 rfl) (by decide) rfl ?_
          refine jr_iinc [(7, .int (nI (i + 1))), (5, .int ((nI nb - nI (jcrN (mrow CU TC i0 r s1) lv (i - 1))) - 0)), (6, .int (mfc (mrow CU TC i0 r s1) lv nb (i - 1))), (8, .int 0), (0, .ref m0), (1, .int (nI r)), (2, .int (nI s1)), (3, .int lv), (4, .int (nI nb))] CC (jd ddX11_crossing 48 rfl) 8 rfl (nI_1 _) (by decide) rfl ?_
          refine jr_goto 10 CC (jd ddX11_crossing 49 rfl) (by decide) ?_
          have hz : jcr (mrow CU TC i0 r s1) lv i = 0 := (by simp [jcr, c3])
          refine jr_norm0 [(7, .int (nI (i + 1))), (5, .int (nI nb - nI (jcrN (mrow CU TC i0 r s1) lv (i + 1 - 1)))), (6, .int (mfc (mrow CU TC i0 r s1) lv nb (i + 1 - 1))), (8, .int 0), (0, .ref m0), (1, .int (nI r)), (2, .int (nI s1)), (3, .int lv), (4, .int (nI nb))] (by rw [Nat.add_sub_cancel, jcrN_s _ _ i hi1, mfc_s _ _ _ i hi1, if_pos hz, if_pos hz, jsub_0]) ?_
          refine jr_norm [(m0, .inr (10, jmdl R mb)), ((mb 2), .inl (t 0, 784, .inl CU)), ((mb 3), .inl (t 0, 8, .inl LN)), ((mb 11), .inl (t 0, 16, .inl SK)), ((mb 12), .inl (t 0, 784, .inl TC))] [] 10 0 0 rfl rfl rfl rfl rfl ?_
          refine jr_lv [4, 5, 6, 7, 8, 1, 2, 0] [(0, .ref m0), (1, .int (nI r)), (2, .int (nI s1)), (3, .int lv), (4, .int (nI nb)), (5, .int (nI nb - nI (jcrN (mrow CU TC i0 r s1) lv ((i + 1) - 1)))), (6, .int (mfc (mrow CU TC i0 r s1) lv nb ((i + 1) - 1))), (7, .int (nI (i + 1)))] rfl ?_
          exact ih10 (i + 1) (by omega) (by omega) (by omega)
        · refine jr_aload_n CC (jd ddX11_crossing 19 rfl) 0 rfl ?_
          refine jr_iload_n CC (jd ddX11_crossing 20 rfl) 1 rfl ?_
          refine jr_iload_n CC (jd ddX11_crossing 21 rfl) 2 rfl ?_
          refine jr_iload CC (jd ddX11_crossing 22 rfl) 7 rfl ?_
          refine jr_iconst (v := 1) CC (jd ddX11_crossing 23 rfl) (by decide) ?_
          refine jr_isub CC (jd ddX11_crossing 24 rfl) ?_
          refine jr_st [.int (nI (i - 1)), .int (nI s1), .int (nI r), .ref m0] (jst1 (pk_sub (a := i) (b := 1) (by omega))) ?_
          refine jr_callV (q0 := 0) (rest := []) [.int (nI r), .int (nI s1), .int (nI (i - 1))] CC (jd ddX11_crossing 25 rfl) (jy_X11_235 CC) (k_X11_of l t hfl m0 mb R CU SK TC r s1 (i - 1) i0 hr hs1 (by omega) hS) [0, 1, 3, 4] rfl (by decide) rfl rfl rfl rfl (by decide) (Nat.le_of_ble_eq_true rfl) (by rintro v u h; rcases h with ⟨rfl, rfl⟩ <;> exact (show ([m0, (mb 2), (mb 11), (mb 12)] : List Nat) = [m0, (mb 2), (mb 11), (mb 12)] from rfl)) (fun _ _ h => h.elim) (fun _ _ h => h.elim) (fun v u h => ?_)
          rcases h with ⟨rfl, rfl⟩
          refine jr_norm [(m0, .inr (10, jmdl R mb)), ((mb 2), .inl (t 0, 784, .inl CU)), ((mb 3), .inl (t 0, 8, .inl LN)), ((mb 11), .inl (t 0, 16, .inl SK)), ((mb 12), .inl (t 0, 784, .inl TC))] [.int (mrow CU TC i0 r s1 (i - 1))] 43 0 0 rfl rfl rfl rfl rfl ?_
          refine jr_iload_n CC (jd ddX11_crossing 26 rfl) 3 rfl ?_
          refine jr_icmp_gt 51 CC (jd ddX11_crossing 27 rfl) (by decide) (fun c6 => ?_) (fun c6 => ?_)
          · refine jr_iconst (v := 0) CC (jd ddX11_crossing 30 rfl) (by decide) ?_
            refine jr_istore [(8, .int 0), (0, .ref m0), (1, .int (nI r)), (2, .int (nI s1)), (3, .int lv), (4, .int (nI nb)), (5, .int (nI nb - nI (jcrN (mrow CU TC i0 r s1) lv (i - 1)))), (6, .int (mfc (mrow CU TC i0 r s1) lv nb (i - 1))), (7, .int (nI i))] CC (jd ddX11_crossing 31 rfl) (by decide) rfl ?_
            refine jr_iload CC (jd ddX11_crossing 32 rfl) 0 rfl ?_
            refine jr_if_eq 69 CC (jd ddX11_crossing 33 rfl) (by decide) (fun _ => ?_) (fun h => absurd h (by decide))
            refine jr_iload CC (jd ddX11_crossing 38 rfl) 7 rfl ?_
            refine jr_istore [(6, .int (mfc (mrow CU TC i0 r s1) lv nb (i - 1))), (8, .int 0), (0, .ref m0), (1, .int (nI r)), (2, .int (nI s1)), (3, .int lv), (4, .int (nI nb)), (5, .int (nI nb - nI (jcrN (mrow CU TC i0 r s1) lv (i - 1)))), (7, .int (nI i))] CC (jd ddX11_crossing 39 rfl) (by decide) rfl ?_
            refine jr_iload CC (jd ddX11_crossing 40 rfl) 7 rfl ?_
            refine jr_iload CC (jd ddX11_crossing 41 rfl) 1 rfl ?_
            refine jr_pc (pc' := 77) rfl ?_
            refine jr_if_eq 84 CC (jd ddX11_crossing 42 rfl) (by decide) (fun _ => ?_) (fun h => absurd h (by decide))
            refine jr_iconst (v := 0) CC (jd ddX11_crossing 45 rfl) (by decide) ?_
            refine jr_isub CC (jd ddX11_crossing 46 rfl) ?_
            refine jr_istore [(5, .int ((nI nb - nI (jcrN (mrow CU TC i0 r s1) lv (i - 1))) - 0)), (6, .int (mfc (mrow CU TC i0 r s1) lv nb (i - 1))), (8, .int 0), (0, .ref m0), (1, .int (nI r)), (2, .int (nI s1)), (3, .int lv), (4, .int (nI nb)), (7, .int (nI i))] CC (jd ddX11_crossing 47 rfl) (by decide) rfl ?_
            refine jr_iinc [(7, .int (nI (i + 1))), (5, .int ((nI nb - nI (jcrN (mrow CU TC i0 r s1) lv (i - 1))) - 0)), (6, .int (mfc (mrow CU TC i0 r s1) lv nb (i - 1))), (8, .int 0), (0, .ref m0), (1, .int (nI r)), (2, .int (nI s1)), (3, .int lv), (4, .int (nI nb))] CC (jd ddX11_crossing 48 rfl) 8 rfl (nI_1 _) (by decide) rfl ?_
            refine jr_goto 10 CC (jd ddX11_crossing 49 rfl) (by decide) ?_
            have hz : jcr (mrow CU TC i0 r s1) lv i = 0 := (by simp [jcr, c3, c6])
            refine jr_norm0 [(7, .int (nI (i + 1))), (5, .int (nI nb - nI (jcrN (mrow CU TC i0 r s1) lv (i + 1 - 1)))), (6, .int (mfc (mrow CU TC i0 r s1) lv nb (i + 1 - 1))), (8, .int 0), (0, .ref m0), (1, .int (nI r)), (2, .int (nI s1)), (3, .int lv), (4, .int (nI nb))] (by rw [Nat.add_sub_cancel, jcrN_s _ _ i hi1, mfc_s _ _ _ i hi1, if_pos hz, if_pos hz, jsub_0]) ?_
            refine jr_norm [(m0, .inr (10, jmdl R mb)), ((mb 2), .inl (t 0, 784, .inl CU)), ((mb 3), .inl (t 0, 8, .inl LN)), ((mb 11), .inl (t 0, 16, .inl SK)), ((mb 12), .inl (t 0, 784, .inl TC))] [] 10 0 0 rfl rfl rfl rfl rfl ?_
            refine jr_lv [4, 5, 6, 7, 8, 1, 2, 0] [(0, .ref m0), (1, .int (nI r)), (2, .int (nI s1)), (3, .int lv), (4, .int (nI nb)), (5, .int (nI nb - nI (jcrN (mrow CU TC i0 r s1) lv ((i + 1) - 1)))), (6, .int (mfc (mrow CU TC i0 r s1) lv nb ((i + 1) - 1))), (7, .int (nI (i + 1)))] rfl ?_
            exact ih10 (i + 1) (by omega) (by omega) (by omega)
          · refine jr_iconst (v := 1) CC (jd ddX11_crossing 28 rfl) (by decide) ?_
            refine jr_goto 52 CC (jd ddX11_crossing 29 rfl) (by decide) ?_
            refine jr_istore [(8, .int 1), (0, .ref m0), (1, .int (nI r)), (2, .int (nI s1)), (3, .int lv), (4, .int (nI nb)), (5, .int (nI nb - nI (jcrN (mrow CU TC i0 r s1) lv (i - 1)))), (6, .int (mfc (mrow CU TC i0 r s1) lv nb (i - 1))), (7, .int (nI i))] CC (jd ddX11_crossing 31 rfl) (by decide) rfl ?_
            refine jr_iload CC (jd ddX11_crossing 32 rfl) 0 rfl ?_
            refine jr_if_eq 69 CC (jd ddX11_crossing 33 rfl) (by decide) (fun h => absurd h (by decide)) (fun _ => ?_)
            refine jr_iload CC (jd ddX11_crossing 34 rfl) 6 rfl ?_
            refine jr_if_ne 69 CC (jd ddX11_crossing 35 rfl) (by decide) (fun c10 => ?_) (fun c10 => ?_)
            · refine jr_iload CC (jd ddX11_crossing 38 rfl) 7 rfl ?_
              refine jr_istore [(6, .int (mfc (mrow CU TC i0 r s1) lv nb (i - 1))), (8, .int 1), (0, .ref m0), (1, .int (nI r)), (2, .int (nI s1)), (3, .int lv), (4, .int (nI nb)), (5, .int (nI nb - nI (jcrN (mrow CU TC i0 r s1) lv (i - 1)))), (7, .int (nI i))] CC (jd ddX11_crossing 39 rfl) (by decide) rfl ?_
              refine jr_iload CC (jd ddX11_crossing 40 rfl) 7 rfl ?_
              refine jr_iload CC (jd ddX11_crossing 41 rfl) 1 rfl ?_
              refine jr_if_eq 84 CC (jd ddX11_crossing 42 rfl) (by decide) (fun h => absurd h (by decide)) (fun _ => ?_)
              refine jr_pc (pc' := 80) rfl ?_
              refine jr_iconst (v := 1) CC (jd ddX11_crossing 43 rfl) (by decide) ?_
              refine jr_goto 85 CC (jd ddX11_crossing 44 rfl) (by decide) ?_
              refine jr_isub CC (jd ddX11_crossing 46 rfl) ?_
              refine jr_istore [(5, .int ((nI nb - nI (jcrN (mrow CU TC i0 r s1) lv (i - 1))) - 1)), (6, .int (mfc (mrow CU TC i0 r s1) lv nb (i - 1))), (8, .int 1), (0, .ref m0), (1, .int (nI r)), (2, .int (nI s1)), (3, .int lv), (4, .int (nI nb)), (7, .int (nI i))] CC (jd ddX11_crossing 47 rfl) (by decide) rfl ?_
              refine jr_iinc [(7, .int (nI (i + 1))), (5, .int ((nI nb - nI (jcrN (mrow CU TC i0 r s1) lv (i - 1))) - 1)), (6, .int (mfc (mrow CU TC i0 r s1) lv nb (i - 1))), (8, .int 1), (0, .ref m0), (1, .int (nI r)), (2, .int (nI s1)), (3, .int lv), (4, .int (nI nb))] CC (jd ddX11_crossing 48 rfl) 8 rfl (nI_1 _) (by decide) rfl ?_
              refine jr_goto 10 CC (jd ddX11_crossing 49 rfl) (by decide) ?_
              have hz : jcr (mrow CU TC i0 r s1) lv i = 1 := (by simp [jcr, c3, c6])
              refine jr_norm0 [(7, .int (nI (i + 1))), (5, .int (nI nb - nI (jcrN (mrow CU TC i0 r s1) lv (i + 1 - 1)))), (6, .int (mfc (mrow CU TC i0 r s1) lv nb (i + 1 - 1))), (8, .int 1), (0, .ref m0), (1, .int (nI r)), (2, .int (nI s1)), (3, .int lv), (4, .int (nI nb))] (by rw [Nat.add_sub_cancel, jcrN_s _ _ i hi1, mfc_s _ _ _ i hi1, if_neg (hz ▸ (by decide)), if_neg (hz ▸ (by decide)), jsub_1, if_neg (fun q => c10 ((jsub0 (by omega) (by omega)).mpr q))]) ?_
              refine jr_norm [(m0, .inr (10, jmdl R mb)), ((mb 2), .inl (t 0, 784, .inl CU)), ((mb 3), .inl (t 0, 8, .inl LN)), ((mb 11), .inl (t 0, 16, .inl SK)), ((mb 12), .inl (t 0, 784, .inl TC))] [] 10 0 0 rfl rfl rfl rfl rfl ?_
              refine jr_lv [4, 5, 6, 7, 8, 1, 2, 0] [(0, .ref m0), (1, .int (nI r)), (2, .int (nI s1)), (3, .int lv), (4, .int (nI nb)), (5, .int (nI nb - nI (jcrN (mrow CU TC i0 r s1) lv ((i + 1) - 1)))), (6, .int (mfc (mrow CU TC i0 r s1) lv nb ((i + 1) - 1))), (7, .int (nI (i + 1)))] rfl ?_
              exact ih10 (i + 1) (by omega) (by omega) (by omega)
            · refine jr_iload CC (jd ddX11_crossing 36 rfl) 8 rfl ?_
              refine jr_goto 71 CC (jd ddX11_crossing 37 rfl) (by decide) ?_
              refine jr_istore [(6, .int (nI i)), (8, .int 1), (0, .ref m0), (1, .int (nI r)), (2, .int (nI s1)), (3, .int lv), (4, .int (nI nb)), (5, .int (nI nb - nI (jcrN (mrow CU TC i0 r s1) lv (i - 1)))), (7, .int (nI i))] CC (jd ddX11_crossing 39 rfl) (by decide) rfl ?_
              refine jr_iload CC (jd ddX11_crossing 40 rfl) 7 rfl ?_
              refine jr_iload CC (jd ddX11_crossing 41 rfl) 1 rfl ?_
              refine jr_if_eq 84 CC (jd ddX11_crossing 42 rfl) (by decide) (fun h => absurd h (by decide)) (fun _ => ?_)
              refine jr_iconst (v := 1) CC (jd ddX11_crossing 43 rfl) (by decide) ?_
              refine jr_goto 85 CC (jd ddX11_crossing 44 rfl) (by decide) ?_
              refine jr_isub CC (jd ddX11_crossing 46 rfl) ?_
              refine jr_istore [(5, .int ((nI nb - nI (jcrN (mrow CU TC i0 r s1) lv (i - 1))) - 1)), (6, .int (nI i)), (8, .int 1), (0, .ref m0), (1, .int (nI r)), (2, .int (nI s1)), (3, .int lv), (4, .int (nI nb)), (7, .int (nI i))] CC (jd ddX11_crossing 47 rfl) (by decide) rfl ?_
              refine jr_iinc [(7, .int (nI (i + 1))), (5, .int ((nI nb - nI (jcrN (mrow CU TC i0 r s1) lv (i - 1))) - 1)), (6, .int (nI i)), (8, .int 1), (0, .ref m0), (1, .int (nI r)), (2, .int (nI s1)), (3, .int lv), (4, .int (nI nb))] CC (jd ddX11_crossing 48 rfl) 8 rfl (nI_1 _) (by decide) rfl ?_
              refine jr_goto 10 CC (jd ddX11_crossing 49 rfl) (by decide) ?_
              have hz : jcr (mrow CU TC i0 r s1) lv i = 1 := (by simp [jcr, c3, c6])
              refine jr_norm0 [(7, .int (nI (i + 1))), (5, .int (nI nb - nI (jcrN (mrow CU TC i0 r s1) lv (i + 1 - 1)))), (6, .int (mfc (mrow CU TC i0 r s1) lv nb (i + 1 - 1))), (8, .int 1), (0, .ref m0), (1, .int (nI r)), (2, .int (nI s1)), (3, .int lv), (4, .int (nI nb))] (by rw [Nat.add_sub_cancel, jcrN_s _ _ i hi1, mfc_s _ _ _ i hi1, if_neg (hz ▸ (by decide)), if_neg (hz ▸ (by decide)), jsub_1, if_pos ((jsub0 (by omega) (by omega)).mp c10)]) ?_
              refine jr_norm [(m0, .inr (10, jmdl R mb)), ((mb 2), .inl (t 0, 784, .inl CU)), ((mb 3), .inl (t 0, 8, .inl LN)), ((mb 11), .inl (t 0, 16, .inl SK)), ((mb 12), .inl (t 0, 784, .inl TC))] [] 10 0 0 rfl rfl rfl rfl rfl ?_
              refine jr_lv [4, 5, 6, 7, 8, 1, 2, 0] [(0, .ref m0), (1, .int (nI r)), (2, .int (nI s1)), (3, .int lv), (4, .int (nI nb)), (5, .int (nI nb - nI (jcrN (mrow CU TC i0 r s1) lv ((i + 1) - 1)))), (6, .int (mfc (mrow CU TC i0 r s1) lv nb ((i + 1) - 1))), (7, .int (nI (i + 1)))] rfl ?_
              exact ih10 (i + 1) (by omega) (by omega) (by omega)
  refine jr_norm [(m0, .inr (10, jmdl R mb)), ((mb 2), .inl (t 0, 784, .inl CU)), ((mb 3), .inl (t 0, 8, .inl LN)), ((mb 11), .inl (t 0, 16, .inl SK)), ((mb 12), .inl (t 0, 784, .inl TC))] [] 10 0 0 rfl rfl rfl rfl rfl ?_
  refine jr_lv [3, 4, 5, 6, 7, 2, 1, 0] [(0, .ref m0), (1, .int (nI r)), (2, .int (nI s1)), (3, .int lv), (4, .int (nI nb)), (5, .int (nI nb - nI (jcrN (mrow CU TC i0 r s1) lv (1 - 1)))), (6, .int (mfc (mrow CU TC i0 r s1) lv nb (1 - 1))), (7, .int (nI 1))] rfl ?_
  exact hL1 (kk - 1 + 1) 1 (Nat.le_refl _) (by omega) (Nat.lt_succ_self _)
set_option maxHeartbeats 8000000 in
set_option maxRecDepth 100000 in
theorem k_X11_crosses (l : Launch) (t : Nat → ClassId) (hfl : l.stackTraces = false) (m0 : Nat) (mb : Nat → Nat) (R : Nat → Int32) (CU : Nat → Int32) (LN : Nat → Int32) (SK : Nat → Int32) (TC : Nat → Int32) (r : Nat) (s1 : Nat) (i0 : Nat) (kk : Nat) (lv : Int32) (hr : r < 8) (hs1 : s1 ≤ 2) (hS : s1 = 2 → SK 0 = nI i0 ∧ i0 < 16) (hkk : LN r = nI kk) (hk1 : 1 ≤ kk) (hk49 : kk ≤ 49) : jKx l t yX11_crosses (Cond.code yX11_crosses cX11_crosses 5 (some .int) :: jWS) { frames := 3, cells := 0, slots := 0, locals := 74 } [.ref m0, .int (nI r), .int (nI s1), .int lv] [(m0, .inr (10, jmdl R mb)), ((mb 2), .inl (t 0, 784, .inl CU)), ((mb 3), .inl (t 0, 8, .inl LN)), ((mb 11), .inl (t 0, 16, .inl SK)), ((mb 12), .inl (t 0, 784, .inl TC))] (fun vv uu => (vv = some (.int (nI (jcrN (mrow CU TC i0 r s1) lv (kk - 1)))) ∧ uu = [(m0, .inr (10, jmdl R mb)), ((mb 2), .inl (t 0, 784, .inl CU)), ((mb 3), .inl (t 0, 8, .inl LN)), ((mb 11), .inl (t 0, 16, .inl SK)), ((mb 12), .inl (t 0, 784, .inl TC))])) (fun _ _ => False) := by
  refine jK_of hfl (by decide +kernel) (Nat.le_of_ble_eq_true rfl) ?_
  intro p e s m args below meth c D A Q CC MM
  refine jr_norm0 [(0, .ref m0), (1, .int (nI r)), (2, .int (nI s1)), (3, .int lv)] rfl ?_
  have hN9 := jcrN_le (mrow CU TC i0 r s1) lv (kk - 1)
  refine jr_iconst (v := 0) CC (jd ddX11_crosses 0 rfl) (by decide) ?_
  refine jr_istore [(4, .int 0), (0, .ref m0), (1, .int (nI r)), (2, .int (nI s1)), (3, .int lv)] CC (jd ddX11_crosses 1 rfl) (by decide) rfl ?_
  have hL1 : ∀ (d9 : Nat) (i : Nat) (hi : i ≤ (jcrN (mrow CU TC i0 r s1) lv (kk - 1))), (jcrN (mrow CU TC i0 r s1) lv (kk - 1)) - i < d9 → J p l e { frames := 3, cells := 0, slots := 0, locals := 74 } s m args below meth c D A 5 Q [(m0, .inr (10, jmdl R mb)), ((mb 2), .inl (t 0, 784, .inl CU)), ((mb 3), .inl (t 0, 8, .inl LN)), ((mb 11), .inl (t 0, 16, .inl SK)), ((mb 12), .inl (t 0, 784, .inl TC))] [(0, .ref m0), (1, .int (nI r)), (2, .int (nI s1)), (3, .int lv), (4, .int (nI i))] 3 [] 0 0 := by
    intro d9
    induction d9 with
    | zero => intro i hi hmu; exact absurd hmu (Nat.not_lt_zero _)
    | succ d9 ih3 =>
      intro i hi hmu
      refine jr_aload_n CC (jd ddX11_crosses 2 rfl) 0 rfl ?_
      refine jr_iload_n CC (jd ddX11_crosses 3 rfl) 1 rfl ?_
      refine jr_iload_n CC (jd ddX11_crosses 4 rfl) 2 rfl ?_
      refine jr_iload_n CC (jd ddX11_crosses 5 rfl) 3 rfl ?_
      refine jr_iload CC (jd ddX11_crosses 6 rfl) 4 rfl ?_
      refine jr_callV (q0 := 0) (rest := []) [.int (nI r), .int (nI s1), .int lv, .int (nI i)] CC (jd ddX11_crosses 7 rfl) (jy_X11_238 CC) (k_X11_crossing l t hfl m0 mb R CU LN SK TC r s1 i0 kk lv i hr hs1 hS hkk hk1 hk49 (by omega)) [0, 1, 2, 3, 4] rfl (by decide) rfl rfl rfl rfl (by decide) (Nat.le_of_ble_eq_true rfl) (by rintro v u h; rcases h with ⟨rfl, rfl⟩ <;> exact (show ([m0, (mb 2), (mb 3), (mb 11), (mb 12)] : List Nat) = [m0, (mb 2), (mb 3), (mb 11), (mb 12)] from rfl)) (fun _ _ h => h.elim) (fun _ _ h => h.elim) (fun v u h => ?_)
      rcases h with ⟨rfl, rfl⟩
      refine jr_norm [(m0, .inr (10, jmdl R mb)), ((mb 2), .inl (t 0, 784, .inl CU)), ((mb 3), .inl (t 0, 8, .inl LN)), ((mb 11), .inl (t 0, 16, .inl SK)), ((mb 12), .inl (t 0, 784, .inl TC))] [.int (mfc (mrow CU TC i0 r s1) lv i (kk - 1))] 12 0 0 rfl rfl rfl rfl rfl ?_
      refine jr_if_lt 21 CC (jd ddX11_crosses 8 rfl) (by decide) (fun c2 => ?_) (fun c2 => ?_)
      · refine jr_iload CC (jd ddX11_crosses 11 rfl) 4 rfl ?_
        exact jr_iret CC MM (jd ddX11_crosses 12 rfl) rfl (by decide) (by decide) ⟨by rw [show i = (jcrN (mrow CU TC i0 r s1) lv (kk - 1)) from Nat.le_antisymm hi (mfc_ng (by omega) c2)], rfl⟩
      · refine jr_iinc [(4, .int (nI (i + 1))), (0, .ref m0), (1, .int (nI r)), (2, .int (nI s1)), (3, .int lv)] CC (jd ddX11_crosses 9 rfl) 4 rfl (nI_1 _) (by decide) rfl ?_
        refine jr_goto 3 CC (jd ddX11_crosses 10 rfl) (by decide) ?_
        refine jr_norm [(m0, .inr (10, jmdl R mb)), ((mb 2), .inl (t 0, 784, .inl CU)), ((mb 3), .inl (t 0, 8, .inl LN)), ((mb 11), .inl (t 0, 16, .inl SK)), ((mb 12), .inl (t 0, 784, .inl TC))] [] 3 0 0 rfl rfl rfl rfl rfl ?_
        refine jr_lv [1, 2, 3, 4, 0] [(0, .ref m0), (1, .int (nI r)), (2, .int (nI s1)), (3, .int lv), (4, .int (nI (i + 1)))] rfl ?_
        exact ih3 (i + 1) (mfc_nn c2) (by have := mfc_nn c2; omega)
  refine jr_norm [(m0, .inr (10, jmdl R mb)), ((mb 2), .inl (t 0, 784, .inl CU)), ((mb 3), .inl (t 0, 8, .inl LN)), ((mb 11), .inl (t 0, 16, .inl SK)), ((mb 12), .inl (t 0, 784, .inl TC))] [] 3 0 0 rfl rfl rfl rfl rfl ?_
  refine jr_lv [1, 2, 3, 4, 0] [(0, .ref m0), (1, .int (nI r)), (2, .int (nI s1)), (3, .int lv), (4, .int (nI 0))] rfl ?_
  exact hL1 ((jcrN (mrow CU TC i0 r s1) lv (kk - 1)) - 0 + 1) 0 (Nat.zero_le _) (Nat.lt_succ_self _)
set_option maxHeartbeats 8000000 in
set_option maxRecDepth 100000 in
theorem k_X11_crossings (l : Launch) (t : Nat → ClassId) (hfl : l.stackTraces = false) (m0 : Nat) (mb : Nat → Nat) (R : Nat → Int32) (CU : Nat → Int32) (LN : Nat → Int32) (PT : Nat → Int32) (ON : Nat → Int32) (TW : Nat → Int32) (SK : Nat → Int32) (TC : Nat → Int32) (m8 : Nat) (pn : Nat) (dn : Nat) (x : Int32) (src : Int32) (lv : Int32) (h28 : R 28 = nI m8) (hm8 : m8 ≤ 8) (hLN : lenOK LN m8) (hpn : R 37 = nI pn) (hp9 : pn ≤ 16) (hdn : R 41 = nI dn) (hd9 : dn ≤ 16) (hOK : ∀ z, z < pn → pOK PT ON TW z) (hS : dn = 1 → ∃ i0 : Nat, SK 0 = nI i0 ∧ i0 < 16) : jKx l t yX11_crossings (Cond.code yX11_crossings cX11_crossings 4 (some .int) :: jWS) { frames := 5, cells := 0, slots := 0, locals := 143 } [.ref m0, .int x, .int src, .int lv] [(m0, .inr (10, jmdl R mb)), ((mb 2), .inl (t 0, 784, .inl CU)), ((mb 3), .inl (t 0, 8, .inl LN)), ((mb 8), .inl (t 0, 16, .inl PT)), ((mb 9), .inl (t 0, 16, .inl ON)), ((mb 10), .inl (t 0, 16, .inl TW)), ((mb 11), .inl (t 0, 16, .inl SK)), ((mb 12), .inl (t 0, 784, .inl TC))] (fun vv uu => (((eSrc (R 28) x src (nI dn)) = 0) ∧ vv = some (.int (nI (rowN (mAsk R CU LN PT ON TW SK TC x src) lv (LN x.toNatClampNeg)))) ∧ uu = [(m0, .inr (10, jmdl (upd R 44 0) mb)), ((mb 2), .inl (t 0, 784, .inl CU)), ((mb 3), .inl (t 0, 8, .inl LN)), ((mb 8), .inl (t 0, 16, .inl PT)), ((mb 9), .inl (t 0, 16, .inl ON)), ((mb 10), .inl (t 0, 16, .inl TW)), ((mb 11), .inl (t 0, 16, .inl SK)), ((mb 12), .inl (t 0, 784, .inl (mTrc R CU LN PT ON TW TC x)))]) ∨ (((eSrc (R 28) x src (nI dn)) = 1) ∧ vv = some (.int 0) ∧ uu = [(m0, .inr (10, jmdl (upd R 44 1) mb)), ((mb 2), .inl (t 0, 784, .inl CU)), ((mb 3), .inl (t 0, 8, .inl LN)), ((mb 8), .inl (t 0, 16, .inl PT)), ((mb 9), .inl (t 0, 16, .inl ON)), ((mb 10), .inl (t 0, 16, .inl TW)), ((mb 11), .inl (t 0, 16, .inl SK)), ((mb 12), .inl (t 0, 784, .inl TC))]) ∨ (((eSrc (R 28) x src (nI dn)) = 2) ∧ vv = some (.int 0) ∧ uu = [(m0, .inr (10, jmdl (upd R 44 2) mb)), ((mb 2), .inl (t 0, 784, .inl CU)), ((mb 3), .inl (t 0, 8, .inl LN)), ((mb 8), .inl (t 0, 16, .inl PT)), ((mb 9), .inl (t 0, 16, .inl ON)), ((mb 10), .inl (t 0, 16, .inl TW)), ((mb 11), .inl (t 0, 16, .inl SK)), ((mb 12), .inl (t 0, 784, .inl TC))]) ∨ (((eSrc (R 28) x src (nI dn)) = 3) ∧ vv = some (.int 0) ∧ uu = [(m0, .inr (10, jmdl (upd R 44 3) mb)), ((mb 2), .inl (t 0, 784, .inl CU)), ((mb 3), .inl (t 0, 8, .inl LN)), ((mb 8), .inl (t 0, 16, .inl PT)), ((mb 9), .inl (t 0, 16, .inl ON)), ((mb 10), .inl (t 0, 16, .inl TW)), ((mb 11), .inl (t 0, 16, .inl SK)), ((mb 12), .inl (t 0, 784, .inl TC))])) (fun _ _ => False) := by
  refine jK_of hfl (by decide +kernel) (Nat.le_of_ble_eq_true rfl) ?_
  intro p e s m args below meth c D A Q CC MM
  refine jr_norm0 [(0, .ref m0), (1, .int x), (2, .int src), (3, .int lv)] rfl ?_
  refine jr_aload_n CC (jd ddX11_crossings 0 rfl) 0 rfl ?_
  refine jr_iload_n CC (jd ddX11_crossings 1 rfl) 1 rfl ?_
  refine jr_iload_n CC (jd ddX11_crossings 2 rfl) 2 rfl ?_
  refine jr_iconst (v := 1) CC (jd ddX11_crossings 3 rfl) (by decide) ?_
  refine jr_callV (q0 := 0) (rest := []) [.int x, .int src, .int 1] CC (jd ddX11_crossings 4 rfl) (jy_X11_231 CC) (k_X11_isNoSource_1 l t hfl m0 mb R CU LN PT ON TW SK TC m8 pn dn x src h28 hm8 hLN hpn hp9 hdn hd9 hOK hS) [0, 1, 2, 3, 4, 5, 6, 7] rfl (by decide) rfl rfl rfl rfl (by decide) (Nat.le_of_ble_eq_true rfl) (by rintro v u h; rcases h with ⟨h0, rfl, rfl⟩ | ⟨h0, rfl, rfl⟩ | ⟨h0, rfl, rfl⟩ | ⟨h0, rfl, rfl⟩ <;> exact (show ([m0, (mb 2), (mb 3), (mb 8), (mb 9), (mb 10), (mb 11), (mb 12)] : List Nat) = [m0, (mb 2), (mb 3), (mb 8), (mb 9), (mb 10), (mb 11), (mb 12)] from rfl)) (fun _ _ h => h.elim) (fun _ _ h => h.elim) (fun v u h => ?_)
  rcases h with ⟨c1, rfl, rfl⟩ | ⟨c2, rfl, rfl⟩ | ⟨c3, rfl, rfl⟩ | ⟨c4, rfl, rfl⟩
  · refine jr_norm [(m0, .inr (10, jmdl (upd R 44 0) mb)), ((mb 2), .inl (t 0, 784, .inl CU)), ((mb 3), .inl (t 0, 8, .inl LN)), ((mb 8), .inl (t 0, 16, .inl PT)), ((mb 9), .inl (t 0, 16, .inl ON)), ((mb 10), .inl (t 0, 16, .inl TW)), ((mb 11), .inl (t 0, 16, .inl SK)), ((mb 12), .inl (t 0, 784, .inl (mTrc R CU LN PT ON TW TC x)))] [.int 0] 7 0 0 rfl rfl rfl rfl rfl ?_
    refine jr_if_eq 14 CC (jd ddX11_crossings 5 rfl) (by decide) (fun _ => ?_) (fun h => absurd h (by decide))
    obtain ⟨r, s1, hr, hxr, hs1, hsr, hs2⟩ := eSrc_inv (h28 ▸ c1) hm8 hd9
    subst hxr
    have ntr : (nI r).toNatClampNeg = r := nI_tn (by omega)
    subst hsr
    have nts1 : (nI s1).toNatClampNeg = s1 := nI_tn (by omega)
    obtain ⟨kk, hkk, hk1, hk49⟩ := hLN r hr
    have hS9 : s1 = 2 → SK 0 = nI (SK 0).toNatClampNeg ∧ (SK 0).toNatClampNeg < 16 := fun q => (by obtain ⟨i0, hi0, hi9⟩ := hS (hs2 q); rw [hi0, nI_tn (by omega)]; exact ⟨rfl, hi9⟩)
    refine jr_aload_n CC (jd ddX11_crossings 8 rfl) 0 rfl ?_
    refine jr_iload_n CC (jd ddX11_crossings 9 rfl) 1 rfl ?_
    refine jr_iload_n CC (jd ddX11_crossings 10 rfl) 2 rfl ?_
    refine jr_iload_n CC (jd ddX11_crossings 11 rfl) 3 rfl ?_
    refine jr_callV (q0 := 0) (rest := []) [.int (nI r), .int (nI s1), .int lv] CC (jd ddX11_crossings 12 rfl) (jy_X11_242 CC) (k_X11_crosses l t hfl m0 mb (upd R 44 0) CU LN SK (mTrc R CU LN PT ON TW TC (nI r)) r s1 ((SK 0).toNatClampNeg) kk lv (by first | assumption | omega | decide) (by first | assumption | omega | decide) hS9 (by first | assumption | omega | decide) (by first | assumption | omega | decide) (by first | assumption | omega | decide)) [0, 1, 2, 6, 7] rfl (by decide) rfl rfl rfl rfl (by decide) (Nat.le_of_ble_eq_true rfl) (by rintro v u h; rcases h with ⟨rfl, rfl⟩ <;> exact (show ([m0, (mb 2), (mb 3), (mb 11), (mb 12)] : List Nat) = [m0, (mb 2), (mb 3), (mb 11), (mb 12)] from rfl)) (fun _ _ h => h.elim) (fun _ _ h => h.elim) (fun v u h => ?_)
    rcases h with ⟨rfl, rfl⟩
    refine jr_norm [(m0, .inr (10, jmdl (upd R 44 0) mb)), ((mb 2), .inl (t 0, 784, .inl CU)), ((mb 3), .inl (t 0, 8, .inl LN)), ((mb 8), .inl (t 0, 16, .inl PT)), ((mb 9), .inl (t 0, 16, .inl ON)), ((mb 10), .inl (t 0, 16, .inl TW)), ((mb 11), .inl (t 0, 16, .inl SK)), ((mb 12), .inl (t 0, 784, .inl (mTrc R CU LN PT ON TW TC (nI r))))] [.int (nI (jcrN (mrow CU (mTrc R CU LN PT ON TW TC (nI r)) ((SK 0).toNatClampNeg) r s1) lv (kk - 1)))] 21 0 0 rfl rfl rfl rfl rfl ?_
    exact jr_iret CC MM (jd ddX11_crossings 13 rfl) rfl (by decide) (by decide) (Or.inl ⟨c1, by rw [rowN, mAsk, nts1, ntr, hkk, nI_tn (show kk < 2147483648 by omega)], rfl⟩)
  · refine jr_norm [(m0, .inr (10, jmdl (upd R 44 1) mb)), ((mb 2), .inl (t 0, 784, .inl CU)), ((mb 3), .inl (t 0, 8, .inl LN)), ((mb 8), .inl (t 0, 16, .inl PT)), ((mb 9), .inl (t 0, 16, .inl ON)), ((mb 10), .inl (t 0, 16, .inl TW)), ((mb 11), .inl (t 0, 16, .inl SK)), ((mb 12), .inl (t 0, 784, .inl TC))] [.int 1] 7 0 0 rfl rfl rfl rfl rfl ?_
    refine jr_if_eq 14 CC (jd ddX11_crossings 5 rfl) (by decide) (fun h => absurd h (by decide)) (fun _ => ?_)
    refine jr_iconst (v := 0) CC (jd ddX11_crossings 6 rfl) (by decide) ?_
    refine jr_goto 21 CC (jd ddX11_crossings 7 rfl) (by decide) ?_
    exact jr_iret CC MM (jd ddX11_crossings 13 rfl) rfl (by decide) (by decide) (Or.inr (Or.inl ⟨c2, rfl, rfl⟩))
  · refine jr_norm [(m0, .inr (10, jmdl (upd R 44 2) mb)), ((mb 2), .inl (t 0, 784, .inl CU)), ((mb 3), .inl (t 0, 8, .inl LN)), ((mb 8), .inl (t 0, 16, .inl PT)), ((mb 9), .inl (t 0, 16, .inl ON)), ((mb 10), .inl (t 0, 16, .inl TW)), ((mb 11), .inl (t 0, 16, .inl SK)), ((mb 12), .inl (t 0, 784, .inl TC))] [.int 1] 7 0 0 rfl rfl rfl rfl rfl ?_
    refine jr_if_eq 14 CC (jd ddX11_crossings 5 rfl) (by decide) (fun h => absurd h (by decide)) (fun _ => ?_)
    refine jr_iconst (v := 0) CC (jd ddX11_crossings 6 rfl) (by decide) ?_
    refine jr_goto 21 CC (jd ddX11_crossings 7 rfl) (by decide) ?_
    exact jr_iret CC MM (jd ddX11_crossings 13 rfl) rfl (by decide) (by decide) (Or.inr (Or.inr (Or.inl ⟨c3, rfl, rfl⟩)))
  · refine jr_norm [(m0, .inr (10, jmdl (upd R 44 3) mb)), ((mb 2), .inl (t 0, 784, .inl CU)), ((mb 3), .inl (t 0, 8, .inl LN)), ((mb 8), .inl (t 0, 16, .inl PT)), ((mb 9), .inl (t 0, 16, .inl ON)), ((mb 10), .inl (t 0, 16, .inl TW)), ((mb 11), .inl (t 0, 16, .inl SK)), ((mb 12), .inl (t 0, 784, .inl TC))] [.int 1] 7 0 0 rfl rfl rfl rfl rfl ?_
    refine jr_if_eq 14 CC (jd ddX11_crossings 5 rfl) (by decide) (fun h => absurd h (by decide)) (fun _ => ?_)
    refine jr_iconst (v := 0) CC (jd ddX11_crossings 6 rfl) (by decide) ?_
    refine jr_goto 21 CC (jd ddX11_crossings 7 rfl) (by decide) ?_
    exact jr_iret CC MM (jd ddX11_crossings 13 rfl) rfl (by decide) (by decide) (Or.inr (Or.inr (Or.inr ⟨c4, rfl, rfl⟩)))
set_option maxHeartbeats 8000000 in
set_option maxRecDepth 100000 in
theorem k_X11_period (l : Launch) (t : Nat → ClassId) (hfl : l.stackTraces = false) (m0 : Nat) (mb : Nat → Nat) (R : Nat → Int32) (CU : Nat → Int32) (LN : Nat → Int32) (PT : Nat → Int32) (ON : Nat → Int32) (TW : Nat → Int32) (SK : Nat → Int32) (TC : Nat → Int32) (m8 : Nat) (pn : Nat) (dn : Nat) (x : Int32) (src : Int32) (lv : Int32) (h28 : R 28 = nI m8) (hm8 : m8 ≤ 8) (hLN : lenOK LN m8) (hpn : R 37 = nI pn) (hp9 : pn ≤ 16) (hdn : R 41 = nI dn) (hd9 : dn ≤ 16) (hOK : ∀ z, z < pn → pOK PT ON TW z) (hS : dn = 1 → ∃ i0 : Nat, SK 0 = nI i0 ∧ i0 < 16) : jKx l t yX11_period (Cond.code yX11_period cX11_period 5 (some .double) :: jWS) { frames := 5, cells := 0, slots := 0, locals := 143 } [.ref m0, .int x, .int src, .int lv] [(m0, .inr (10, jmdl R mb)), ((mb 2), .inl (t 0, 784, .inl CU)), ((mb 3), .inl (t 0, 8, .inl LN)), ((mb 8), .inl (t 0, 16, .inl PT)), ((mb 9), .inl (t 0, 16, .inl ON)), ((mb 10), .inl (t 0, 16, .inl TW)), ((mb 11), .inl (t 0, 16, .inl SK)), ((mb 12), .inl (t 0, 784, .inl TC))] (fun vv uu => (((ePer (R 28) x src (nI dn) (rowN (mAsk R CU LN PT ON TW SK TC x src) lv (LN x.toNatClampNeg))) = 0) ∧ vv = some (.double (rowPer (mAsk R CU LN PT ON TW SK TC x src) lv (LN x.toNatClampNeg))) ∧ uu = [(m0, .inr (10, jmdl (upd (upd R 44 0) 44 0) mb)), ((mb 2), .inl (t 0, 784, .inl CU)), ((mb 3), .inl (t 0, 8, .inl LN)), ((mb 8), .inl (t 0, 16, .inl PT)), ((mb 9), .inl (t 0, 16, .inl ON)), ((mb 10), .inl (t 0, 16, .inl TW)), ((mb 11), .inl (t 0, 16, .inl SK)), ((mb 12), .inl (t 0, 784, .inl (mTrc R CU LN PT ON TW TC x)))]) ∨ (((ePer (R 28) x src (nI dn) (rowN (mAsk R CU LN PT ON TW SK TC x src) lv (LN x.toNatClampNeg))) = 1) ∧ vv = some (.double 0) ∧ uu = [(m0, .inr (10, jmdl (upd R 44 1) mb)), ((mb 2), .inl (t 0, 784, .inl CU)), ((mb 3), .inl (t 0, 8, .inl LN)), ((mb 8), .inl (t 0, 16, .inl PT)), ((mb 9), .inl (t 0, 16, .inl ON)), ((mb 10), .inl (t 0, 16, .inl TW)), ((mb 11), .inl (t 0, 16, .inl SK)), ((mb 12), .inl (t 0, 784, .inl TC))]) ∨ (((ePer (R 28) x src (nI dn) (rowN (mAsk R CU LN PT ON TW SK TC x src) lv (LN x.toNatClampNeg))) = 2) ∧ vv = some (.double 0) ∧ uu = [(m0, .inr (10, jmdl (upd R 44 2) mb)), ((mb 2), .inl (t 0, 784, .inl CU)), ((mb 3), .inl (t 0, 8, .inl LN)), ((mb 8), .inl (t 0, 16, .inl PT)), ((mb 9), .inl (t 0, 16, .inl ON)), ((mb 10), .inl (t 0, 16, .inl TW)), ((mb 11), .inl (t 0, 16, .inl SK)), ((mb 12), .inl (t 0, 784, .inl TC))]) ∨ (((ePer (R 28) x src (nI dn) (rowN (mAsk R CU LN PT ON TW SK TC x src) lv (LN x.toNatClampNeg))) = 3) ∧ vv = some (.double 0) ∧ uu = [(m0, .inr (10, jmdl (upd R 44 3) mb)), ((mb 2), .inl (t 0, 784, .inl CU)), ((mb 3), .inl (t 0, 8, .inl LN)), ((mb 8), .inl (t 0, 16, .inl PT)), ((mb 9), .inl (t 0, 16, .inl ON)), ((mb 10), .inl (t 0, 16, .inl TW)), ((mb 11), .inl (t 0, 16, .inl SK)), ((mb 12), .inl (t 0, 784, .inl TC))]) ∨ (((ePer (R 28) x src (nI dn) (rowN (mAsk R CU LN PT ON TW SK TC x src) lv (LN x.toNatClampNeg))) = 4) ∧ vv = some (.double 0) ∧ uu = [(m0, .inr (10, jmdl (upd (upd R 44 0) 44 4) mb)), ((mb 2), .inl (t 0, 784, .inl CU)), ((mb 3), .inl (t 0, 8, .inl LN)), ((mb 8), .inl (t 0, 16, .inl PT)), ((mb 9), .inl (t 0, 16, .inl ON)), ((mb 10), .inl (t 0, 16, .inl TW)), ((mb 11), .inl (t 0, 16, .inl SK)), ((mb 12), .inl (t 0, 784, .inl (mTrc R CU LN PT ON TW TC x)))])) (fun _ _ => False) := by
  refine jK_of hfl (by decide +kernel) (Nat.le_of_ble_eq_true rfl) ?_
  intro p e s m args below meth c D A Q CC MM
  refine jr_norm0 [(0, .ref m0), (1, .int x), (2, .int src), (3, .int lv)] rfl ?_
  refine jr_aload_n CC (jd ddX11_period 0 rfl) 0 rfl ?_
  refine jr_iload_n CC (jd ddX11_period 1 rfl) 1 rfl ?_
  refine jr_iload_n CC (jd ddX11_period 2 rfl) 2 rfl ?_
  refine jr_iconst (v := 1) CC (jd ddX11_period 3 rfl) (by decide) ?_
  refine jr_callV (q0 := 0) (rest := []) [.int x, .int src, .int 1] CC (jd ddX11_period 4 rfl) (jy_X11_231 CC) (k_X11_isNoSource_1 l t hfl m0 mb R CU LN PT ON TW SK TC m8 pn dn x src h28 hm8 hLN hpn hp9 hdn hd9 hOK hS) [0, 1, 2, 3, 4, 5, 6, 7] rfl (by decide) rfl rfl rfl rfl (by decide) (Nat.le_of_ble_eq_true rfl) (by rintro v u h; rcases h with ⟨h0, rfl, rfl⟩ | ⟨h0, rfl, rfl⟩ | ⟨h0, rfl, rfl⟩ | ⟨h0, rfl, rfl⟩ <;> exact (show ([m0, (mb 2), (mb 3), (mb 8), (mb 9), (mb 10), (mb 11), (mb 12)] : List Nat) = [m0, (mb 2), (mb 3), (mb 8), (mb 9), (mb 10), (mb 11), (mb 12)] from rfl)) (fun _ _ h => h.elim) (fun _ _ h => h.elim) (fun v u h => ?_)
  rcases h with ⟨c1, rfl, rfl⟩ | ⟨c2, rfl, rfl⟩ | ⟨c3, rfl, rfl⟩ | ⟨c4, rfl, rfl⟩
  · refine jr_norm [(m0, .inr (10, jmdl (upd R 44 0) mb)), ((mb 2), .inl (t 0, 784, .inl CU)), ((mb 3), .inl (t 0, 8, .inl LN)), ((mb 8), .inl (t 0, 16, .inl PT)), ((mb 9), .inl (t 0, 16, .inl ON)), ((mb 10), .inl (t 0, 16, .inl TW)), ((mb 11), .inl (t 0, 16, .inl SK)), ((mb 12), .inl (t 0, 784, .inl (mTrc R CU LN PT ON TW TC x)))] [.int 0] 7 0 0 rfl rfl rfl rfl rfl ?_
    refine jr_if_eq 12 CC (jd ddX11_period 5 rfl) (by decide) (fun _ => ?_) (fun h => absurd h (by decide))
    obtain ⟨r, s1, hr, hxr, hs1, hsr, hs2⟩ := eSrc_inv (h28 ▸ c1) hm8 hd9
    subst hxr
    have ntr : (nI r).toNatClampNeg = r := nI_tn (by omega)
    subst hsr
    have nts1 : (nI s1).toNatClampNeg = s1 := nI_tn (by omega)
    obtain ⟨kk, hkk, hk1, hk49⟩ := hLN r hr
    have hS9 : s1 = 2 → SK 0 = nI (SK 0).toNatClampNeg ∧ (SK 0).toNatClampNeg < 16 := fun q => (by obtain ⟨i0, hi0, hi9⟩ := hS (hs2 q); rw [hi0, nI_tn (by omega)]; exact ⟨rfl, hi9⟩)
    refine jr_aload_n CC (jd ddX11_period 8 rfl) 0 rfl ?_
    refine jr_iload_n CC (jd ddX11_period 9 rfl) 1 rfl ?_
    refine jr_iload_n CC (jd ddX11_period 10 rfl) 2 rfl ?_
    refine jr_iload_n CC (jd ddX11_period 11 rfl) 3 rfl ?_
    refine jr_callV (q0 := 0) (rest := []) [.int (nI r), .int (nI s1), .int lv] CC (jd ddX11_period 12 rfl) (jy_X11_242 CC) (k_X11_crosses l t hfl m0 mb (upd R 44 0) CU LN SK (mTrc R CU LN PT ON TW TC (nI r)) r s1 ((SK 0).toNatClampNeg) kk lv (by first | assumption | omega | decide) (by first | assumption | omega | decide) hS9 (by first | assumption | omega | decide) (by first | assumption | omega | decide) (by first | assumption | omega | decide)) [0, 1, 2, 6, 7] rfl (by decide) rfl rfl rfl rfl (by decide) (Nat.le_of_ble_eq_true rfl) (by rintro v u h; rcases h with ⟨rfl, rfl⟩ <;> exact (show ([m0, (mb 2), (mb 3), (mb 11), (mb 12)] : List Nat) = [m0, (mb 2), (mb 3), (mb 11), (mb 12)] from rfl)) (fun _ _ h => h.elim) (fun _ _ h => h.elim) (fun v u h => ?_)
    rcases h with ⟨rfl, rfl⟩
    refine jr_norm [(m0, .inr (10, jmdl (upd R 44 0) mb)), ((mb 2), .inl (t 0, 784, .inl CU)), ((mb 3), .inl (t 0, 8, .inl LN)), ((mb 8), .inl (t 0, 16, .inl PT)), ((mb 9), .inl (t 0, 16, .inl ON)), ((mb 10), .inl (t 0, 16, .inl TW)), ((mb 11), .inl (t 0, 16, .inl SK)), ((mb 12), .inl (t 0, 784, .inl (mTrc R CU LN PT ON TW TC (nI r))))] [.int (nI (jcrN (mrow CU (mTrc R CU LN PT ON TW TC (nI r)) ((SK 0).toNatClampNeg) r s1) lv (kk - 1)))] 19 0 0 rfl rfl rfl rfl rfl ?_
    have hN9 := jcrN_le (mrow CU (mTrc R CU LN PT ON TW TC (nI r)) (SK 0).toNatClampNeg r s1) lv (kk - 1)
    refine jr_istore [(4, .int (nI (jcrN (mrow CU (mTrc R CU LN PT ON TW TC (nI r)) ((SK 0).toNatClampNeg) r s1) lv (kk - 1)))), (0, .ref m0), (1, .int (nI r)), (2, .int (nI s1)), (3, .int lv)] CC (jd ddX11_period 13 rfl) (by decide) rfl ?_
    refine jr_aload_n CC (jd ddX11_period 14 rfl) 1 rfl ?_
    refine jr_iload CC (jd ddX11_period 15 rfl) 0 rfl ?_
    refine jr_iconst (v := 2) CC (jd ddX11_period 16 rfl) (by decide) ?_
    refine jr_icmp_ge 32 CC (jd ddX11_period 17 rfl) (by decide) (fun c6 => ?_) (fun c6 => ?_)
    · have n6 := jle_of (a := 2) (b := (jcrN (mrow CU (mTrc R CU LN PT ON TW TC (nI r)) ((SK 0).toNatClampNeg) r s1) lv (kk - 1))) c6 (by omega) (by omega)
      refine jr_iconst (v := 0) CC (jd ddX11_period 20 rfl) (by decide) ?_
      refine jr_callV (q0 := 0) (rest := []) [.int 0] CC (jd ddX11_period 21 rfl) (jy_X11_111 CC) (k_X11_fails_0 l t hfl m0 mb (upd R 44 0)) [0] rfl (by decide) rfl rfl rfl rfl (by decide) (Nat.le_of_ble_eq_true rfl) (by rintro v u h; rcases h with ⟨rfl, rfl⟩ <;> exact (show ([m0] : List Nat) = [m0] from rfl)) (fun _ _ h => h.elim) (fun _ _ h => h.elim) (fun v u h => ?_)
      rcases h with ⟨rfl, rfl⟩
      refine jr_norm [(m0, .inr (10, jmdl (upd (upd R 44 0) 44 0) mb)), ((mb 2), .inl (t 0, 784, .inl CU)), ((mb 3), .inl (t 0, 8, .inl LN)), ((mb 8), .inl (t 0, 16, .inl PT)), ((mb 9), .inl (t 0, 16, .inl ON)), ((mb 10), .inl (t 0, 16, .inl TW)), ((mb 11), .inl (t 0, 16, .inl SK)), ((mb 12), .inl (t 0, 784, .inl (mTrc R CU LN PT ON TW TC (nI r))))] [.int 0] 36 0 0 rfl rfl rfl rfl rfl ?_
      refine jr_if_eq 41 CC (jd ddX11_period 22 rfl) (by decide) (fun _ => ?_) (fun h => absurd h (by decide))
      refine jr_aload_n CC (jd ddX11_period 25 rfl) 1 rfl ?_
      refine jr_iload_n CC (jd ddX11_period 26 rfl) 2 rfl ?_
      refine jr_iload_n CC (jd ddX11_period 27 rfl) 3 rfl ?_
      refine jr_iload_n CC (jd ddX11_period 28 rfl) 4 rfl ?_
      refine jr_iload CC (jd ddX11_period 29 rfl) 0 rfl ?_
      refine jr_iconst (v := 1) CC (jd ddX11_period 30 rfl) (by decide) ?_
      refine jr_isub CC (jd ddX11_period 31 rfl) ?_
      refine jr_st [.int (nI ((jcrN (mrow CU (mTrc R CU LN PT ON TW TC (nI r)) ((SK 0).toNatClampNeg) r s1) lv (kk - 1)) - 1)), .int lv, .int (nI s1), .int (nI r), .ref m0] (jst1 (pk_sub (a := (jcrN (mrow CU (mTrc R CU LN PT ON TW TC (nI r)) ((SK 0).toNatClampNeg) r s1) lv (kk - 1))) (b := 1) (by omega))) ?_
      refine jr_callV (q0 := 0) (rest := []) [.int (nI r), .int (nI s1), .int lv, .int (nI ((jcrN (mrow CU (mTrc R CU LN PT ON TW TC (nI r)) ((SK 0).toNatClampNeg) r s1) lv (kk - 1)) - 1))] CC (jd ddX11_period 32 rfl) (jy_X11_238 CC) (k_X11_crossing l t hfl m0 mb (upd (upd R 44 0) 44 0) CU LN SK (mTrc R CU LN PT ON TW TC (nI r)) r s1 ((SK 0).toNatClampNeg) kk lv ((jcrN (mrow CU (mTrc R CU LN PT ON TW TC (nI r)) ((SK 0).toNatClampNeg) r s1) lv (kk - 1)) - 1) (by first | assumption | omega | decide) (by first | assumption | omega | decide) hS9 (by first | assumption | omega | decide) (by first | assumption | omega | decide) (by first | assumption | omega | decide) (by omega)) [0, 1, 2, 6, 7] rfl (by decide) rfl rfl rfl rfl (by decide) (Nat.le_of_ble_eq_true rfl) (by rintro v u h; rcases h with ⟨rfl, rfl⟩ <;> exact (show ([m0, (mb 2), (mb 3), (mb 11), (mb 12)] : List Nat) = [m0, (mb 2), (mb 3), (mb 11), (mb 12)] from rfl)) (fun _ _ h => h.elim) (fun _ _ h => h.elim) (fun v u h => ?_)
      rcases h with ⟨rfl, rfl⟩
      refine jr_norm [(m0, .inr (10, jmdl (upd (upd R 44 0) 44 0) mb)), ((mb 2), .inl (t 0, 784, .inl CU)), ((mb 3), .inl (t 0, 8, .inl LN)), ((mb 8), .inl (t 0, 16, .inl PT)), ((mb 9), .inl (t 0, 16, .inl ON)), ((mb 10), .inl (t 0, 16, .inl TW)), ((mb 11), .inl (t 0, 16, .inl SK)), ((mb 12), .inl (t 0, 784, .inl (mTrc R CU LN PT ON TW TC (nI r))))] [.int (mfc (mrow CU (mTrc R CU LN PT ON TW TC (nI r)) ((SK 0).toNatClampNeg) r s1) lv ((jcrN (mrow CU (mTrc R CU LN PT ON TW TC (nI r)) ((SK 0).toNatClampNeg) r s1) lv (kk - 1)) - 1) (kk - 1))] 52 0 0 rfl rfl rfl rfl rfl ?_
      refine jr_aload_n CC (jd ddX11_period 33 rfl) 1 rfl ?_
      refine jr_iload_n CC (jd ddX11_period 34 rfl) 2 rfl ?_
      refine jr_iload_n CC (jd ddX11_period 35 rfl) 3 rfl ?_
      refine jr_iload_n CC (jd ddX11_period 36 rfl) 4 rfl ?_
      refine jr_iconst (v := 0) CC (jd ddX11_period 37 rfl) (by decide) ?_
      refine jr_callV (q0 := 0) (rest := [.int (mfc (mrow CU (mTrc R CU LN PT ON TW TC (nI r)) ((SK 0).toNatClampNeg) r s1) lv ((jcrN (mrow CU (mTrc R CU LN PT ON TW TC (nI r)) ((SK 0).toNatClampNeg) r s1) lv (kk - 1)) - 1) (kk - 1))]) [.int (nI r), .int (nI s1), .int lv, .int 0] CC (jd ddX11_period 38 rfl) (jy_X11_238 CC) (k_X11_crossing l t hfl m0 mb (upd (upd R 44 0) 44 0) CU LN SK (mTrc R CU LN PT ON TW TC (nI r)) r s1 ((SK 0).toNatClampNeg) kk lv 0 (by first | assumption | omega | decide) (by first | assumption | omega | decide) hS9 (by first | assumption | omega | decide) (by first | assumption | omega | decide) (by first | assumption | omega | decide) (by omega)) [0, 1, 2, 6, 7] rfl (by decide) rfl rfl rfl rfl (by decide) (Nat.le_of_ble_eq_true rfl) (by rintro v u h; rcases h with ⟨rfl, rfl⟩ <;> exact (show ([m0, (mb 2), (mb 3), (mb 11), (mb 12)] : List Nat) = [m0, (mb 2), (mb 3), (mb 11), (mb 12)] from rfl)) (fun _ _ h => h.elim) (fun _ _ h => h.elim) (fun v u h => ?_)
      rcases h with ⟨rfl, rfl⟩
      refine jr_norm [(m0, .inr (10, jmdl (upd (upd R 44 0) 44 0) mb)), ((mb 2), .inl (t 0, 784, .inl CU)), ((mb 3), .inl (t 0, 8, .inl LN)), ((mb 8), .inl (t 0, 16, .inl PT)), ((mb 9), .inl (t 0, 16, .inl ON)), ((mb 10), .inl (t 0, 16, .inl TW)), ((mb 11), .inl (t 0, 16, .inl SK)), ((mb 12), .inl (t 0, 784, .inl (mTrc R CU LN PT ON TW TC (nI r))))] [.int (mfc (mrow CU (mTrc R CU LN PT ON TW TC (nI r)) ((SK 0).toNatClampNeg) r s1) lv 0 (kk - 1)), .int (mfc (mrow CU (mTrc R CU LN PT ON TW TC (nI r)) ((SK 0).toNatClampNeg) r s1) lv ((jcrN (mrow CU (mTrc R CU LN PT ON TW TC (nI r)) ((SK 0).toNatClampNeg) r s1) lv (kk - 1)) - 1) (kk - 1))] 60 0 0 rfl rfl rfl rfl rfl ?_
      refine jr_st [.int (nI (jcrF (mrow CU (mTrc R CU LN PT ON TW TC (nI r)) (SK 0).toNatClampNeg r s1) lv (kk - 1))), .int (nI (jcrL (mrow CU (mTrc R CU LN PT ON TW TC (nI r)) (SK 0).toNatClampNeg r s1) lv (kk - 1)))] (by rw [mfc_first _ _ _ (by omega), mfc_last _ _ _ (by omega)]) ?_
      refine jr_isub CC (jd ddX11_period 39 rfl) ?_
      refine jr_i2d CC (jd ddX11_period 40 rfl) ?_
      refine jr_iload CC (jd ddX11_period 41 rfl) 0 rfl ?_
      refine jr_iconst (v := 1) CC (jd ddX11_period 42 rfl) (by decide) ?_
      refine jr_isub CC (jd ddX11_period 43 rfl) ?_
      refine jr_st [.int (nI ((jcrN (mrow CU (mTrc R CU LN PT ON TW TC (nI r)) ((SK 0).toNatClampNeg) r s1) lv (kk - 1)) - 1)), .double (FP.i2d ((nI (jcrL (mrow CU (mTrc R CU LN PT ON TW TC (nI r)) (SK 0).toNatClampNeg r s1) lv (kk - 1))) - (nI (jcrF (mrow CU (mTrc R CU LN PT ON TW TC (nI r)) (SK 0).toNatClampNeg r s1) lv (kk - 1)))))] (jst1 (pk_sub (a := (jcrN (mrow CU (mTrc R CU LN PT ON TW TC (nI r)) ((SK 0).toNatClampNeg) r s1) lv (kk - 1))) (b := 1) (by omega))) ?_
      refine jr_i2d CC (jd ddX11_period 44 rfl) ?_
      refine jr_ddiv CC (jd ddX11_period 45 rfl) (jdd (nI_ne0 (by omega) (by omega))) ?_
      exact jr_dret CC MM (jd ddX11_period 46 rfl) rfl (by decide) (by decide) (Or.inl ⟨by rw [ePer, if_pos c1, rowN, mAsk, nts1, ntr, hkk, nI_tn (show kk < 2147483648 by omega), if_neg (by omega)], by rw [rowPer, mAsk, nts1, ntr, hkk, nI_tn (show kk < 2147483648 by omega)], rfl⟩)
    · have n6 := jle_not (a := 2) (b := (jcrN (mrow CU (mTrc R CU LN PT ON TW TC (nI r)) ((SK 0).toNatClampNeg) r s1) lv (kk - 1))) c6 (by omega) (by omega)
      refine jr_iconst (v := 4) CC (jd ddX11_period 18 rfl) (by decide) ?_
      refine jr_goto 33 CC (jd ddX11_period 19 rfl) (by decide) ?_
      refine jr_callV (q0 := 0) (rest := []) [.int 4] CC (jd ddX11_period 21 rfl) (jy_X11_111 CC) (k_X11_fails_4 l t hfl m0 mb (upd R 44 0)) [0] rfl (by decide) rfl rfl rfl rfl (by decide) (Nat.le_of_ble_eq_true rfl) (by rintro v u h; rcases h with ⟨rfl, rfl⟩ <;> exact (show ([m0] : List Nat) = [m0] from rfl)) (fun _ _ h => h.elim) (fun _ _ h => h.elim) (fun v u h => ?_)
      rcases h with ⟨rfl, rfl⟩
      refine jr_norm [(m0, .inr (10, jmdl (upd (upd R 44 0) 44 4) mb)), ((mb 2), .inl (t 0, 784, .inl CU)), ((mb 3), .inl (t 0, 8, .inl LN)), ((mb 8), .inl (t 0, 16, .inl PT)), ((mb 9), .inl (t 0, 16, .inl ON)), ((mb 10), .inl (t 0, 16, .inl TW)), ((mb 11), .inl (t 0, 16, .inl SK)), ((mb 12), .inl (t 0, 784, .inl (mTrc R CU LN PT ON TW TC (nI r))))] [.int 1] 36 0 0 rfl rfl rfl rfl rfl ?_
      refine jr_if_eq 41 CC (jd ddX11_period 22 rfl) (by decide) (fun h => absurd h (by decide)) (fun _ => ?_)
      refine jr_dconst0 CC (jd ddX11_period 23 rfl) ?_
      exact jr_dret CC MM (jd ddX11_period 24 rfl) rfl (by decide) (by decide) (Or.inr (Or.inr (Or.inr (Or.inr ⟨by rw [ePer, if_pos (by rw [ntr, nts1] at *; exact c1), rowN, mAsk, nts1, ntr, hkk, nI_tn (show kk < 2147483648 by omega), if_pos (by omega)], rfl, rfl⟩))))
  · refine jr_norm [(m0, .inr (10, jmdl (upd R 44 1) mb)), ((mb 2), .inl (t 0, 784, .inl CU)), ((mb 3), .inl (t 0, 8, .inl LN)), ((mb 8), .inl (t 0, 16, .inl PT)), ((mb 9), .inl (t 0, 16, .inl ON)), ((mb 10), .inl (t 0, 16, .inl TW)), ((mb 11), .inl (t 0, 16, .inl SK)), ((mb 12), .inl (t 0, 784, .inl TC))] [.int 1] 7 0 0 rfl rfl rfl rfl rfl ?_
    refine jr_if_eq 12 CC (jd ddX11_period 5 rfl) (by decide) (fun h => absurd h (by decide)) (fun _ => ?_)
    refine jr_dconst0 CC (jd ddX11_period 6 rfl) ?_
    exact jr_dret CC MM (jd ddX11_period 7 rfl) rfl (by decide) (by decide) (Or.inr (Or.inl ⟨by rw [ePer, c2]; rfl, rfl, rfl⟩))
  · refine jr_norm [(m0, .inr (10, jmdl (upd R 44 2) mb)), ((mb 2), .inl (t 0, 784, .inl CU)), ((mb 3), .inl (t 0, 8, .inl LN)), ((mb 8), .inl (t 0, 16, .inl PT)), ((mb 9), .inl (t 0, 16, .inl ON)), ((mb 10), .inl (t 0, 16, .inl TW)), ((mb 11), .inl (t 0, 16, .inl SK)), ((mb 12), .inl (t 0, 784, .inl TC))] [.int 1] 7 0 0 rfl rfl rfl rfl rfl ?_
    refine jr_if_eq 12 CC (jd ddX11_period 5 rfl) (by decide) (fun h => absurd h (by decide)) (fun _ => ?_)
    refine jr_dconst0 CC (jd ddX11_period 6 rfl) ?_
    exact jr_dret CC MM (jd ddX11_period 7 rfl) rfl (by decide) (by decide) (Or.inr (Or.inr (Or.inl ⟨by rw [ePer, c3]; rfl, rfl, rfl⟩)))
  · refine jr_norm [(m0, .inr (10, jmdl (upd R 44 3) mb)), ((mb 2), .inl (t 0, 784, .inl CU)), ((mb 3), .inl (t 0, 8, .inl LN)), ((mb 8), .inl (t 0, 16, .inl PT)), ((mb 9), .inl (t 0, 16, .inl ON)), ((mb 10), .inl (t 0, 16, .inl TW)), ((mb 11), .inl (t 0, 16, .inl SK)), ((mb 12), .inl (t 0, 784, .inl TC))] [.int 1] 7 0 0 rfl rfl rfl rfl rfl ?_
    refine jr_if_eq 12 CC (jd ddX11_period 5 rfl) (by decide) (fun h => absurd h (by decide)) (fun _ => ?_)
    refine jr_dconst0 CC (jd ddX11_period 6 rfl) ?_
    exact jr_dret CC MM (jd ddX11_period 7 rfl) rfl (by decide) (by decide) (Or.inr (Or.inr (Or.inr (Or.inl ⟨by rw [ePer, c4]; rfl, rfl, rfl⟩))))
theorem eRis0_m (n x src lo hi ht : Int32) : eRis0 n x src lo hi ht = if hi ≤ lo then (if mRec n x = 0 then 1 else 2) else eSrc n x src ht := by
  rw [eSrc_m]
  unfold eRis0
  simp only [jrec_iff, jin_iff]
  by_cases h1 : mRec n x = 0
  · simp [h1, jI]
  · by_cases h2 : mIn src 0 2 = 0
    · by_cases h3 : hi ≤ lo
      · simp [h1, h2, h3, jI]
      · simp [h1, h2, h3, jI]
    · by_cases h3 : hi ≤ lo
      · simp [h1, h2, h3, jI, Int32.not_lt.mpr h3]
      · simp [h1, h2, h3, jI, Int32.not_le.mp h3]
set_option maxHeartbeats 8000000 in
set_option maxRecDepth 100000 in
theorem k_X11_riseTime (l : Launch) (t : Nat → ClassId) (hfl : l.stackTraces = false) (m0 : Nat) (mb : Nat → Nat) (R : Nat → Int32) (CU : Nat → Int32) (LN : Nat → Int32) (PT : Nat → Int32) (ON : Nat → Int32) (TW : Nat → Int32) (SK : Nat → Int32) (TC : Nat → Int32) (m8 : Nat) (pn : Nat) (dn : Nat) (x : Int32) (src : Int32) (lo : Int32) (hi : Int32) (h28 : R 28 = nI m8) (hm8 : m8 ≤ 8) (hLN : lenOK LN m8) (hpn : R 37 = nI pn) (hp9 : pn ≤ 16) (hdn : R 41 = nI dn) (hd9 : dn ≤ 16) (hOK : ∀ z, z < pn → pOK PT ON TW z) (hS : dn = 1 → ∃ i0 : Nat, SK 0 = nI i0 ∧ i0 < 16) : jKx l t yX11_riseTime (Cond.code yX11_riseTime cX11_riseTime 8 (some .int) :: jWS) { frames := 5, cells := 0, slots := 0, locals := 143 } [.ref m0, .int x, .int src, .int lo, .int hi] [(m0, .inr (10, jmdl R mb)), ((mb 2), .inl (t 0, 784, .inl CU)), ((mb 3), .inl (t 0, 8, .inl LN)), ((mb 8), .inl (t 0, 16, .inl PT)), ((mb 9), .inl (t 0, 16, .inl ON)), ((mb 10), .inl (t 0, 16, .inl TW)), ((mb 11), .inl (t 0, 16, .inl SK)), ((mb 12), .inl (t 0, 784, .inl TC))] (fun vv uu => (((eRise (R 28) x src lo hi (nI dn) (rowRise (mAsk R CU LN PT ON TW SK TC x src) lo hi (LN x.toNatClampNeg))) = 0) ∧ vv = some (.int ((rowRise (mAsk R CU LN PT ON TW SK TC x src) lo hi (LN x.toNatClampNeg)).getD 0)) ∧ uu = [(m0, .inr (10, jmdl (upd R 44 0) mb)), ((mb 2), .inl (t 0, 784, .inl CU)), ((mb 3), .inl (t 0, 8, .inl LN)), ((mb 8), .inl (t 0, 16, .inl PT)), ((mb 9), .inl (t 0, 16, .inl ON)), ((mb 10), .inl (t 0, 16, .inl TW)), ((mb 11), .inl (t 0, 16, .inl SK)), ((mb 12), .inl (t 0, 784, .inl (mTrc R CU LN PT ON TW TC x)))]) ∨ (((eRise (R 28) x src lo hi (nI dn) (rowRise (mAsk R CU LN PT ON TW SK TC x src) lo hi (LN x.toNatClampNeg))) = 1) ∧ vv = some (.int 0) ∧ uu = [(m0, .inr (10, jmdl (upd R 44 1) mb)), ((mb 2), .inl (t 0, 784, .inl CU)), ((mb 3), .inl (t 0, 8, .inl LN)), ((mb 8), .inl (t 0, 16, .inl PT)), ((mb 9), .inl (t 0, 16, .inl ON)), ((mb 10), .inl (t 0, 16, .inl TW)), ((mb 11), .inl (t 0, 16, .inl SK)), ((mb 12), .inl (t 0, 784, .inl TC))]) ∨ (((eRise (R 28) x src lo hi (nI dn) (rowRise (mAsk R CU LN PT ON TW SK TC x src) lo hi (LN x.toNatClampNeg))) = 2) ∧ vv = some (.int 0) ∧ uu = [(m0, .inr (10, jmdl (upd R 44 2) mb)), ((mb 2), .inl (t 0, 784, .inl CU)), ((mb 3), .inl (t 0, 8, .inl LN)), ((mb 8), .inl (t 0, 16, .inl PT)), ((mb 9), .inl (t 0, 16, .inl ON)), ((mb 10), .inl (t 0, 16, .inl TW)), ((mb 11), .inl (t 0, 16, .inl SK)), ((mb 12), .inl (t 0, 784, .inl TC))]) ∨ (((eRise (R 28) x src lo hi (nI dn) (rowRise (mAsk R CU LN PT ON TW SK TC x src) lo hi (LN x.toNatClampNeg))) = 3) ∧ vv = some (.int 0) ∧ uu = [(m0, .inr (10, jmdl (upd R 44 3) mb)), ((mb 2), .inl (t 0, 784, .inl CU)), ((mb 3), .inl (t 0, 8, .inl LN)), ((mb 8), .inl (t 0, 16, .inl PT)), ((mb 9), .inl (t 0, 16, .inl ON)), ((mb 10), .inl (t 0, 16, .inl TW)), ((mb 11), .inl (t 0, 16, .inl SK)), ((mb 12), .inl (t 0, 784, .inl TC))]) ∨ (((eRise (R 28) x src lo hi (nI dn) (rowRise (mAsk R CU LN PT ON TW SK TC x src) lo hi (LN x.toNatClampNeg))) = 4) ∧ vv = some (.int 0) ∧ uu = [(m0, .inr (10, jmdl (upd (upd R 44 0) 44 4) mb)), ((mb 2), .inl (t 0, 784, .inl CU)), ((mb 3), .inl (t 0, 8, .inl LN)), ((mb 8), .inl (t 0, 16, .inl PT)), ((mb 9), .inl (t 0, 16, .inl ON)), ((mb 10), .inl (t 0, 16, .inl TW)), ((mb 11), .inl (t 0, 16, .inl SK)), ((mb 12), .inl (t 0, 784, .inl (mTrc R CU LN PT ON TW TC x)))])) (fun _ _ => False) := by
  refine jK_of hfl (by decide +kernel) (Nat.le_of_ble_eq_true rfl) ?_
  intro p e s m args below meth c D A Q CC MM
  refine jr_norm0 [(0, .ref m0), (1, .int x), (2, .int src), (3, .int lo), (4, .int hi)] rfl ?_
  refine jr_aload_n CC (jd ddX11_riseTime 0 rfl) 0 rfl ?_
  refine jr_iload_n CC (jd ddX11_riseTime 1 rfl) 1 rfl ?_
  refine jr_iload_n CC (jd ddX11_riseTime 2 rfl) 2 rfl ?_
  refine jr_iload CC (jd ddX11_riseTime 3 rfl) 4 rfl ?_
  refine jr_iload_n CC (jd ddX11_riseTime 4 rfl) 3 rfl ?_
  refine jr_icmp_le 13 CC (jd ddX11_riseTime 5 rfl) (by decide) (fun c1 => ?_) (fun c1 => ?_)
  · refine jr_iconst (v := 0) CC (jd ddX11_riseTime 8 rfl) (by decide) ?_
    refine jr_callV (q0 := 0) (rest := []) [.int x, .int src, .int 0] CC (jd ddX11_riseTime 9 rfl) (jy_X11_231 CC) (k_X11_isNoSource_0 l t hfl m0 mb R CU LN PT ON TW SK TC m8 pn dn x src h28 hm8 hLN hpn hp9 hdn hd9 hOK hS) [0, 1, 2, 3, 4, 5, 6, 7] rfl (by decide) rfl rfl rfl rfl (by decide) (Nat.le_of_ble_eq_true rfl) (by rintro v u h; rcases h with ⟨h0, rfl, rfl⟩ | ⟨h0, rfl, rfl⟩ <;> exact (show ([m0, (mb 2), (mb 3), (mb 8), (mb 9), (mb 10), (mb 11), (mb 12)] : List Nat) = [m0, (mb 2), (mb 3), (mb 8), (mb 9), (mb 10), (mb 11), (mb 12)] from rfl)) (fun _ _ h => h.elim) (fun _ _ h => h.elim) (fun v u h => ?_)
    rcases h with ⟨c2, rfl, rfl⟩ | ⟨c3, rfl, rfl⟩
    · refine jr_norm [(m0, .inr (10, jmdl (upd R 44 1) mb)), ((mb 2), .inl (t 0, 784, .inl CU)), ((mb 3), .inl (t 0, 8, .inl LN)), ((mb 8), .inl (t 0, 16, .inl PT)), ((mb 9), .inl (t 0, 16, .inl ON)), ((mb 10), .inl (t 0, 16, .inl TW)), ((mb 11), .inl (t 0, 16, .inl SK)), ((mb 12), .inl (t 0, 784, .inl TC))] [.int 1] 17 0 0 rfl rfl rfl rfl rfl ?_
      refine jr_if_eq 22 CC (jd ddX11_riseTime 10 rfl) (by decide) (fun h => absurd h (by decide)) (fun _ => ?_)
      refine jr_iconst (v := 0) CC (jd ddX11_riseTime 11 rfl) (by decide) ?_
      exact jr_iret CC MM (jd ddX11_riseTime 12 rfl) rfl (by decide) (by decide) (Or.inr (Or.inl ⟨by rw [eRise, eRis0_m, if_pos c1, if_pos c2]; rfl, rfl, rfl⟩))
    · refine jr_norm [(m0, .inr (10, jmdl (upd R 44 2) mb)), ((mb 2), .inl (t 0, 784, .inl CU)), ((mb 3), .inl (t 0, 8, .inl LN)), ((mb 8), .inl (t 0, 16, .inl PT)), ((mb 9), .inl (t 0, 16, .inl ON)), ((mb 10), .inl (t 0, 16, .inl TW)), ((mb 11), .inl (t 0, 16, .inl SK)), ((mb 12), .inl (t 0, 784, .inl TC))] [.int 1] 17 0 0 rfl rfl rfl rfl rfl ?_
      refine jr_if_eq 22 CC (jd ddX11_riseTime 10 rfl) (by decide) (fun h => absurd h (by decide)) (fun _ => ?_)
      refine jr_iconst (v := 0) CC (jd ddX11_riseTime 11 rfl) (by decide) ?_
      exact jr_iret CC MM (jd ddX11_riseTime 12 rfl) rfl (by decide) (by decide) (Or.inr (Or.inr (Or.inl ⟨by rw [eRise, eRis0_m, if_pos c1, if_neg c3]; rfl, rfl, rfl⟩)))
  · refine jr_iconst (v := 1) CC (jd ddX11_riseTime 6 rfl) (by decide) ?_
    refine jr_goto 14 CC (jd ddX11_riseTime 7 rfl) (by decide) ?_
    refine jr_callV (q0 := 0) (rest := []) [.int x, .int src, .int 1] CC (jd ddX11_riseTime 9 rfl) (jy_X11_231 CC) (k_X11_isNoSource_1 l t hfl m0 mb R CU LN PT ON TW SK TC m8 pn dn x src h28 hm8 hLN hpn hp9 hdn hd9 hOK hS) [0, 1, 2, 3, 4, 5, 6, 7] rfl (by decide) rfl rfl rfl rfl (by decide) (Nat.le_of_ble_eq_true rfl) (by rintro v u h; rcases h with ⟨h0, rfl, rfl⟩ | ⟨h0, rfl, rfl⟩ | ⟨h0, rfl, rfl⟩ | ⟨h0, rfl, rfl⟩ <;> exact (show ([m0, (mb 2), (mb 3), (mb 8), (mb 9), (mb 10), (mb 11), (mb 12)] : List Nat) = [m0, (mb 2), (mb 3), (mb 8), (mb 9), (mb 10), (mb 11), (mb 12)] from rfl)) (fun _ _ h => h.elim) (fun _ _ h => h.elim) (fun v u h => ?_)
    rcases h with ⟨c6, rfl, rfl⟩ | ⟨c7, rfl, rfl⟩ | ⟨c8, rfl, rfl⟩ | ⟨c9, rfl, rfl⟩
    · refine jr_norm [(m0, .inr (10, jmdl (upd R 44 0) mb)), ((mb 2), .inl (t 0, 784, .inl CU)), ((mb 3), .inl (t 0, 8, .inl LN)), ((mb 8), .inl (t 0, 16, .inl PT)), ((mb 9), .inl (t 0, 16, .inl ON)), ((mb 10), .inl (t 0, 16, .inl TW)), ((mb 11), .inl (t 0, 16, .inl SK)), ((mb 12), .inl (t 0, 784, .inl (mTrc R CU LN PT ON TW TC x)))] [.int 0] 17 0 0 rfl rfl rfl rfl rfl ?_
      refine jr_if_eq 22 CC (jd ddX11_riseTime 10 rfl) (by decide) (fun _ => ?_) (fun h => absurd h (by decide))
      obtain ⟨r, s1, hr, hxr, hs1, hsr, hs2⟩ := eSrc_inv (h28 ▸ c6) hm8 hd9
      subst hxr
      have ntr : (nI r).toNatClampNeg = r := nI_tn (by omega)
      subst hsr
      have nts1 : (nI s1).toNatClampNeg = s1 := nI_tn (by omega)
      obtain ⟨kk, hkk, hk1, hk49⟩ := hLN r hr
      have hS9 : s1 = 2 → SK 0 = nI (SK 0).toNatClampNeg ∧ (SK 0).toNatClampNeg < 16 := fun q => (by obtain ⟨i0, hi0, hi9⟩ := hS (hs2 q); rw [hi0, nI_tn (by omega)]; exact ⟨rfl, hi9⟩)
      refine jr_iconst (v := (-1)) CC (jd ddX11_riseTime 13 rfl) (by decide) ?_
      refine jr_istore [(5, .int (-1)), (0, .ref m0), (1, .int (nI r)), (2, .int (nI s1)), (3, .int lo), (4, .int hi)] CC (jd ddX11_riseTime 14 rfl) (by decide) rfl ?_
      refine jr_iconst (v := 0) CC (jd ddX11_riseTime 15 rfl) (by decide) ?_
      refine jr_istore [(6, .int 0), (5, .int (-1)), (0, .ref m0), (1, .int (nI r)), (2, .int (nI s1)), (3, .int lo), (4, .int hi)] CC (jd ddX11_riseTime 16 rfl) (by decide) rfl ?_
      have hL11 : ∀ (d9 : Nat) (i : Nat) (la : Int32) (hi9 : i ≤ kk) (hla : la = -1 ∨ ∃ j : Nat, j < i ∧ la = nI j) (hq : jrise (mrow CU (mTrc R CU LN PT ON TW TC (nI r)) (SK 0).toNatClampNeg r s1) lo hi kk 0 (-1) = jrise (mrow CU (mTrc R CU LN PT ON TW TC (nI r)) (SK 0).toNatClampNeg r s1) lo hi (kk - i) i la), kk - i < d9 → J p l e { frames := 5, cells := 0, slots := 0, locals := 143 } s m args below meth c D A 8 Q [(m0, .inr (10, jmdl (upd R 44 0) mb)), ((mb 2), .inl (t 0, 784, .inl CU)), ((mb 3), .inl (t 0, 8, .inl LN)), ((mb 8), .inl (t 0, 16, .inl PT)), ((mb 9), .inl (t 0, 16, .inl ON)), ((mb 10), .inl (t 0, 16, .inl TW)), ((mb 11), .inl (t 0, 16, .inl SK)), ((mb 12), .inl (t 0, 784, .inl (mTrc R CU LN PT ON TW TC (nI r))))] [(0, .ref m0), (1, .int (nI r)), (2, .int (nI s1)), (3, .int lo), (4, .int hi), (5, .int la), (6, .int (nI i))] 28 [] 0 0 := by
        intro d9
        induction d9 with
        | zero => intro i la hi9 hla hq hmu; exact absurd hmu (Nat.not_lt_zero _)
        | succ d9 ih28 =>
          intro i la hi9 hla hq hmu
          refine jr_iload CC (jd ddX11_riseTime 17 rfl) 6 rfl ?_
          refine jr_aload_n CC (jd ddX11_riseTime 18 rfl) 0 rfl ?_
          refine jr_get (v := .ref (mb 3)) CC (jd ddX11_riseTime 19 rfl) (jf_X11_33 CC) 0 rfl rfl ?_
          refine jr_iload_n CC (jd ddX11_riseTime 20 rfl) 1 rfl ?_
          refine jr_ialdN CC (jd ddX11_riseTime 21 rfl) 2 r rfl rfl (by omega) (by decide) ?_
          refine jr_st [.int (nI kk), .int (nI i)] (jst1 hkk) ?_
          refine jr_icmp_ge 88 CC (jd ddX11_riseTime 22 rfl) (by decide) (fun c12 => ?_) (fun c12 => ?_)
          · have n12 := jle_of (a := kk) (b := i) c12 (by omega) (by omega)
            refine jr_aload_n CC (jd ddX11_riseTime 47 rfl) 0 rfl ?_
            refine jr_iconst (v := 4) CC (jd ddX11_riseTime 48 rfl) (by decide) ?_
            refine jr_put CC (jd ddX11_riseTime 49 rfl) (jf_X11_64 CC) 0 rfl rfl rfl (Nat.le_of_ble_eq_true rfl) ?_
            refine jr_ws [(m0, .inr (10, jmdl (upd (upd R 44 0) 44 4) mb)), ((mb 2), .inl (t 0, 784, .inl CU)), ((mb 3), .inl (t 0, 8, .inl LN)), ((mb 8), .inl (t 0, 16, .inl PT)), ((mb 9), .inl (t 0, 16, .inl ON)), ((mb 10), .inl (t 0, 16, .inl TW)), ((mb 11), .inl (t 0, 16, .inl SK)), ((mb 12), .inl (t 0, 784, .inl (mTrc R CU LN PT ON TW TC (nI r))))] rfl ?_
            refine jr_iconst (v := 0) CC (jd ddX11_riseTime 50 rfl) (by decide) ?_
            refine jr_pc (pc' := 94) rfl ?_
            exact jr_iret CC MM (jd ddX11_riseTime 51 rfl) rfl (by decide) (by decide) (by have h0 : eRis0 (R 28) (nI r) (nI s1) lo hi (nI dn) = 0 := (by rw [eRis0_m, if_neg c1]; exact c6); have h9 : rowRise (mAsk R CU LN PT ON TW SK TC (nI r) (nI s1)) lo hi (LN (nI r).toNatClampNeg) = none := (by rw [rowRise, mAsk, nts1, ntr, hkk, nI_tn (show kk < 2147483648 by omega), hq, show kk - i = 0 by omega]; rfl); exact Or.inr (Or.inr (Or.inr (Or.inr ⟨by rw [eRise, if_pos h0, if_pos h9], rfl, rfl⟩))))
          · have n12 := jle_not (a := kk) (b := i) c12 (by omega) (by omega)
            refine jr_aload_n CC (jd ddX11_riseTime 23 rfl) 0 rfl ?_
            refine jr_iload_n CC (jd ddX11_riseTime 24 rfl) 1 rfl ?_
            refine jr_iload_n CC (jd ddX11_riseTime 25 rfl) 2 rfl ?_
            refine jr_iload CC (jd ddX11_riseTime 26 rfl) 6 rfl ?_
            refine jr_pc (pc' := 44) rfl ?_
            refine jr_callV (q0 := 0) (rest := []) [.int (nI r), .int (nI s1), .int (nI i)] CC (jd ddX11_riseTime 27 rfl) (jy_X11_235 CC) (k_X11_of l t hfl m0 mb (upd R 44 0) CU SK (mTrc R CU LN PT ON TW TC (nI r)) r s1 i ((SK 0).toNatClampNeg) (by first | assumption | omega | decide) (by first | assumption | omega | decide) (by omega) hS9) [0, 1, 6, 7] rfl (by decide) rfl rfl rfl rfl (by decide) (Nat.le_of_ble_eq_true rfl) (by rintro v u h; rcases h with ⟨rfl, rfl⟩ <;> exact (show ([m0, (mb 2), (mb 11), (mb 12)] : List Nat) = [m0, (mb 2), (mb 11), (mb 12)] from rfl)) (fun _ _ h => h.elim) (fun _ _ h => h.elim) (fun v u h => ?_)
            rcases h with ⟨rfl, rfl⟩
            refine jr_norm [(m0, .inr (10, jmdl (upd R 44 0) mb)), ((mb 2), .inl (t 0, 784, .inl CU)), ((mb 3), .inl (t 0, 8, .inl LN)), ((mb 8), .inl (t 0, 16, .inl PT)), ((mb 9), .inl (t 0, 16, .inl ON)), ((mb 10), .inl (t 0, 16, .inl TW)), ((mb 11), .inl (t 0, 16, .inl SK)), ((mb 12), .inl (t 0, 784, .inl (mTrc R CU LN PT ON TW TC (nI r))))] [.int (mrow CU (mTrc R CU LN PT ON TW TC (nI r)) ((SK 0).toNatClampNeg) r s1 i)] 47 0 0 rfl rfl rfl rfl rfl ?_
            refine jr_istore [(7, .int (mrow CU (mTrc R CU LN PT ON TW TC (nI r)) ((SK 0).toNatClampNeg) r s1 i)), (0, .ref m0), (1, .int (nI r)), (2, .int (nI s1)), (3, .int lo), (4, .int hi), (5, .int la), (6, .int (nI i))] CC (jd ddX11_riseTime 28 rfl) (by decide) rfl ?_
            refine jr_iload CC (jd ddX11_riseTime 29 rfl) 0 rfl ?_
            refine jr_iload CC (jd ddX11_riseTime 30 rfl) 5 rfl ?_
            refine jr_icmp_lt 67 CC (jd ddX11_riseTime 31 rfl) (by decide) (fun c13 => ?_) (fun c13 => ?_)
            · refine jr_iload CC (jd ddX11_riseTime 38 rfl) 0 rfl ?_
              refine jr_iload_n CC (jd ddX11_riseTime 39 rfl) 4 rfl ?_
              refine jr_icmp_gt 78 CC (jd ddX11_riseTime 40 rfl) (by decide) (fun c14 => ?_) (fun c14 => ?_)
              · refine jr_iload CC (jd ddX11_riseTime 43 rfl) 6 rfl ?_
                refine jr_istore [(5, .int la), (7, .int (mrow CU (mTrc R CU LN PT ON TW TC (nI r)) ((SK 0).toNatClampNeg) r s1 i)), (0, .ref m0), (1, .int (nI r)), (2, .int (nI s1)), (3, .int lo), (4, .int hi), (6, .int (nI i))] CC (jd ddX11_riseTime 44 rfl) (by decide) rfl ?_
                refine jr_iinc [(6, .int (nI (i + 1))), (5, .int la), (7, .int (mrow CU (mTrc R CU LN PT ON TW TC (nI r)) ((SK 0).toNatClampNeg) r s1 i)), (0, .ref m0), (1, .int (nI r)), (2, .int (nI s1)), (3, .int lo), (4, .int hi)] CC (jd ddX11_riseTime 45 rfl) 7 rfl (nI_1 _) (by decide) rfl ?_
                refine jr_pc (pc' := 85) rfl ?_
                refine jr_goto 28 CC (jd ddX11_riseTime 46 rfl) (by decide) ?_
                refine jr_norm [(m0, .inr (10, jmdl (upd R 44 0) mb)), ((mb 2), .inl (t 0, 784, .inl CU)), ((mb 3), .inl (t 0, 8, .inl LN)), ((mb 8), .inl (t 0, 16, .inl PT)), ((mb 9), .inl (t 0, 16, .inl ON)), ((mb 10), .inl (t 0, 16, .inl TW)), ((mb 11), .inl (t 0, 16, .inl SK)), ((mb 12), .inl (t 0, 784, .inl (mTrc R CU LN PT ON TW TC (nI r))))] [] 28 0 0 rfl rfl rfl rfl rfl ?_
                refine jr_lv [3, 4, 5, 6, 7, 1, 0] [(0, .ref m0), (1, .int (nI r)), (2, .int (nI s1)), (3, .int lo), (4, .int hi), (5, .int la), (6, .int (nI (i + 1)))] rfl ?_
                exact ih28 (i + 1) la (by omega) ((hla.imp id (fun z => z.elim (fun j z => ⟨j, by omega, z.2⟩)))) (by rw [hq, show kk - i = (kk - (i + 1)) + 1 by omega, jrise, if_neg (fun q => (Int32.not_le.mpr c13) q.1), if_neg (Int32.not_le.mpr c14)]) (by omega)
              · refine jr_iload CC (jd ddX11_riseTime 41 rfl) 7 rfl ?_
                refine jr_goto 80 CC (jd ddX11_riseTime 42 rfl) (by decide) ?_
                refine jr_istore [(5, .int (nI i)), (7, .int (mrow CU (mTrc R CU LN PT ON TW TC (nI r)) ((SK 0).toNatClampNeg) r s1 i)), (0, .ref m0), (1, .int (nI r)), (2, .int (nI s1)), (3, .int lo), (4, .int hi), (6, .int (nI i))] CC (jd ddX11_riseTime 44 rfl) (by decide) rfl ?_
                refine jr_iinc [(6, .int (nI (i + 1))), (5, .int (nI i)), (7, .int (mrow CU (mTrc R CU LN PT ON TW TC (nI r)) ((SK 0).toNatClampNeg) r s1 i)), (0, .ref m0), (1, .int (nI r)), (2, .int (nI s1)), (3, .int lo), (4, .int hi)] CC (jd ddX11_riseTime 45 rfl) 7 rfl (nI_1 _) (by decide) rfl ?_
                refine jr_goto 28 CC (jd ddX11_riseTime 46 rfl) (by decide) ?_
                refine jr_norm [(m0, .inr (10, jmdl (upd R 44 0) mb)), ((mb 2), .inl (t 0, 784, .inl CU)), ((mb 3), .inl (t 0, 8, .inl LN)), ((mb 8), .inl (t 0, 16, .inl PT)), ((mb 9), .inl (t 0, 16, .inl ON)), ((mb 10), .inl (t 0, 16, .inl TW)), ((mb 11), .inl (t 0, 16, .inl SK)), ((mb 12), .inl (t 0, 784, .inl (mTrc R CU LN PT ON TW TC (nI r))))] [] 28 0 0 rfl rfl rfl rfl rfl ?_
                refine jr_lv [3, 4, 5, 6, 7, 1, 0] [(0, .ref m0), (1, .int (nI r)), (2, .int (nI s1)), (3, .int lo), (4, .int hi), (5, .int (nI i)), (6, .int (nI (i + 1)))] rfl ?_
                exact ih28 (i + 1) (nI i) (by omega) (Or.inr ⟨i, by omega, rfl⟩) (by rw [hq, show kk - i = (kk - (i + 1)) + 1 by omega, jrise, if_neg (fun q => (Int32.not_le.mpr c13) q.1), if_pos (Int32.not_lt.mp c14)]) (by omega)
            · refine jr_iload CC (jd ddX11_riseTime 32 rfl) 6 rfl ?_
              refine jr_if_lt 67 CC (jd ddX11_riseTime 33 rfl) (by decide) (fun c15 => ?_) (fun c15 => ?_)
              · refine jr_iload CC (jd ddX11_riseTime 38 rfl) 0 rfl ?_
                refine jr_iload_n CC (jd ddX11_riseTime 39 rfl) 4 rfl ?_
                refine jr_icmp_gt 78 CC (jd ddX11_riseTime 40 rfl) (by decide) (fun c16 => ?_) (fun c16 => ?_)
                · refine jr_iload CC (jd ddX11_riseTime 43 rfl) 6 rfl ?_
                  refine jr_pc (pc' := 80) rfl ?_
                  refine jr_istore [(5, .int la), (7, .int (mrow CU (mTrc R CU LN PT ON TW TC (nI r)) ((SK 0).toNatClampNeg) r s1 i)), (0, .ref m0), (1, .int (nI r)), (2, .int (nI s1)), (3, .int lo), (4, .int hi), (6, .int (nI i))] CC (jd ddX11_riseTime 44 rfl) (by decide) rfl ?_
                  refine jr_iinc [(6, .int (nI (i + 1))), (5, .int la), (7, .int (mrow CU (mTrc R CU LN PT ON TW TC (nI r)) ((SK 0).toNatClampNeg) r s1 i)), (0, .ref m0), (1, .int (nI r)), (2, .int (nI s1)), (3, .int lo), (4, .int hi)] CC (jd ddX11_riseTime 45 rfl) 7 rfl (nI_1 _) (by decide) rfl ?_
                  refine jr_goto 28 CC (jd ddX11_riseTime 46 rfl) (by decide) ?_
                  refine jr_norm [(m0, .inr (10, jmdl (upd R 44 0) mb)), ((mb 2), .inl (t 0, 784, .inl CU)), ((mb 3), .inl (t 0, 8, .inl LN)), ((mb 8), .inl (t 0, 16, .inl PT)), ((mb 9), .inl (t 0, 16, .inl ON)), ((mb 10), .inl (t 0, 16, .inl TW)), ((mb 11), .inl (t 0, 16, .inl SK)), ((mb 12), .inl (t 0, 784, .inl (mTrc R CU LN PT ON TW TC (nI r))))] [] 28 0 0 rfl rfl rfl rfl rfl ?_
                  refine jr_lv [3, 4, 5, 6, 7, 1, 0] [(0, .ref m0), (1, .int (nI r)), (2, .int (nI s1)), (3, .int lo), (4, .int hi), (5, .int la), (6, .int (nI (i + 1)))] rfl ?_
                  exact ih28 (i + 1) la (by omega) ((hla.imp id (fun z => z.elim (fun j z => ⟨j, by omega, z.2⟩)))) (by rw [hq, show kk - i = (kk - (i + 1)) + 1 by omega, jrise, if_neg (fun q => q.2 (hla.resolve_right (fun z => z.elim (fun j z => nI_pos (show j < 2147483648 by omega) (z.2 ▸ c15))))), if_neg (Int32.not_le.mpr c16)]) (by omega)
                · refine jr_iload CC (jd ddX11_riseTime 41 rfl) 7 rfl ?_
                  refine jr_pc (pc' := 75) rfl ?_
                  refine jr_goto 80 CC (jd ddX11_riseTime 42 rfl) (by decide) ?_
                  refine jr_istore [(5, .int (nI i)), (7, .int (mrow CU (mTrc R CU LN PT ON TW TC (nI r)) ((SK 0).toNatClampNeg) r s1 i)), (0, .ref m0), (1, .int (nI r)), (2, .int (nI s1)), (3, .int lo), (4, .int hi), (6, .int (nI i))] CC (jd ddX11_riseTime 44 rfl) (by decide) rfl ?_
                  refine jr_iinc [(6, .int (nI (i + 1))), (5, .int (nI i)), (7, .int (mrow CU (mTrc R CU LN PT ON TW TC (nI r)) ((SK 0).toNatClampNeg) r s1 i)), (0, .ref m0), (1, .int (nI r)), (2, .int (nI s1)), (3, .int lo), (4, .int hi)] CC (jd ddX11_riseTime 45 rfl) 7 rfl (nI_1 _) (by decide) rfl ?_
                  refine jr_goto 28 CC (jd ddX11_riseTime 46 rfl) (by decide) ?_
                  refine jr_norm [(m0, .inr (10, jmdl (upd R 44 0) mb)), ((mb 2), .inl (t 0, 784, .inl CU)), ((mb 3), .inl (t 0, 8, .inl LN)), ((mb 8), .inl (t 0, 16, .inl PT)), ((mb 9), .inl (t 0, 16, .inl ON)), ((mb 10), .inl (t 0, 16, .inl TW)), ((mb 11), .inl (t 0, 16, .inl SK)), ((mb 12), .inl (t 0, 784, .inl (mTrc R CU LN PT ON TW TC (nI r))))] [] 28 0 0 rfl rfl rfl rfl rfl ?_
                  refine jr_lv [3, 4, 5, 6, 7, 1, 0] [(0, .ref m0), (1, .int (nI r)), (2, .int (nI s1)), (3, .int lo), (4, .int hi), (5, .int (nI i)), (6, .int (nI (i + 1)))] rfl ?_
                  exact ih28 (i + 1) (nI i) (by omega) (Or.inr ⟨i, by omega, rfl⟩) (by rw [hq, show kk - i = (kk - (i + 1)) + 1 by omega, jrise, if_neg (fun q => q.2 (hla.resolve_right (fun z => z.elim (fun j z => nI_pos (show j < 2147483648 by omega) (z.2 ▸ c15))))), if_pos (Int32.not_lt.mp c16)]) (by omega)
              · refine jr_iload CC (jd ddX11_riseTime 34 rfl) 7 rfl ?_
                refine jr_iload CC (jd ddX11_riseTime 35 rfl) 6 rfl ?_
                refine jr_isub CC (jd ddX11_riseTime 36 rfl) ?_
                exact jr_iret CC MM (jd ddX11_riseTime 37 rfl) rfl (by decide) (by decide) (by have h0 : eRis0 (R 28) (nI r) (nI s1) lo hi (nI dn) = 0 := (by rw [eRis0_m, if_neg c1]; exact c6); have h9 : rowRise (mAsk R CU LN PT ON TW SK TC (nI r) (nI s1)) lo hi (LN (nI r).toNatClampNeg) = some (nI i - la) := (by rw [rowRise, mAsk, nts1, ntr, hkk, nI_tn (show kk < 2147483648 by omega), hq, show kk - i = (kk - i - 1) + 1 by omega, jrise, if_pos ⟨(Int32.not_lt.mp c13), (fun q => c15 (q ▸ (by decide)))⟩]); exact Or.inl ⟨by rw [eRise, if_pos h0, h9]; rfl, by rw [h9]; rfl, rfl⟩)
      refine jr_norm [(m0, .inr (10, jmdl (upd R 44 0) mb)), ((mb 2), .inl (t 0, 784, .inl CU)), ((mb 3), .inl (t 0, 8, .inl LN)), ((mb 8), .inl (t 0, 16, .inl PT)), ((mb 9), .inl (t 0, 16, .inl ON)), ((mb 10), .inl (t 0, 16, .inl TW)), ((mb 11), .inl (t 0, 16, .inl SK)), ((mb 12), .inl (t 0, 784, .inl (mTrc R CU LN PT ON TW TC (nI r))))] [] 28 0 0 rfl rfl rfl rfl rfl ?_
      refine jr_lv [2, 3, 4, 5, 6, 1, 0] [(0, .ref m0), (1, .int (nI r)), (2, .int (nI s1)), (3, .int lo), (4, .int hi), (5, .int (-1)), (6, .int (nI 0))] rfl ?_
      exact hL11 (kk - 0 + 1) 0 (-1) (by omega) (Or.inl rfl) rfl (Nat.lt_succ_self _)
    · refine jr_norm [(m0, .inr (10, jmdl (upd R 44 1) mb)), ((mb 2), .inl (t 0, 784, .inl CU)), ((mb 3), .inl (t 0, 8, .inl LN)), ((mb 8), .inl (t 0, 16, .inl PT)), ((mb 9), .inl (t 0, 16, .inl ON)), ((mb 10), .inl (t 0, 16, .inl TW)), ((mb 11), .inl (t 0, 16, .inl SK)), ((mb 12), .inl (t 0, 784, .inl TC))] [.int 1] 17 0 0 rfl rfl rfl rfl rfl ?_
      refine jr_if_eq 22 CC (jd ddX11_riseTime 10 rfl) (by decide) (fun h => absurd h (by decide)) (fun _ => ?_)
      refine jr_iconst (v := 0) CC (jd ddX11_riseTime 11 rfl) (by decide) ?_
      exact jr_iret CC MM (jd ddX11_riseTime 12 rfl) rfl (by decide) (by decide) (Or.inr (Or.inl ⟨by have h0 : eRis0 (R 28) x src lo hi (nI dn) = 1 := (by rw [eRis0_m, if_neg c1]; exact c7); rw [eRise, h0]; rfl, rfl, rfl⟩))
    · refine jr_norm [(m0, .inr (10, jmdl (upd R 44 2) mb)), ((mb 2), .inl (t 0, 784, .inl CU)), ((mb 3), .inl (t 0, 8, .inl LN)), ((mb 8), .inl (t 0, 16, .inl PT)), ((mb 9), .inl (t 0, 16, .inl ON)), ((mb 10), .inl (t 0, 16, .inl TW)), ((mb 11), .inl (t 0, 16, .inl SK)), ((mb 12), .inl (t 0, 784, .inl TC))] [.int 1] 17 0 0 rfl rfl rfl rfl rfl ?_
      refine jr_if_eq 22 CC (jd ddX11_riseTime 10 rfl) (by decide) (fun h => absurd h (by decide)) (fun _ => ?_)
      refine jr_iconst (v := 0) CC (jd ddX11_riseTime 11 rfl) (by decide) ?_
      exact jr_iret CC MM (jd ddX11_riseTime 12 rfl) rfl (by decide) (by decide) (Or.inr (Or.inr (Or.inl ⟨by have h0 : eRis0 (R 28) x src lo hi (nI dn) = 2 := (by rw [eRis0_m, if_neg c1]; exact c8); rw [eRise, h0]; rfl, rfl, rfl⟩)))
    · refine jr_norm [(m0, .inr (10, jmdl (upd R 44 3) mb)), ((mb 2), .inl (t 0, 784, .inl CU)), ((mb 3), .inl (t 0, 8, .inl LN)), ((mb 8), .inl (t 0, 16, .inl PT)), ((mb 9), .inl (t 0, 16, .inl ON)), ((mb 10), .inl (t 0, 16, .inl TW)), ((mb 11), .inl (t 0, 16, .inl SK)), ((mb 12), .inl (t 0, 784, .inl TC))] [.int 1] 17 0 0 rfl rfl rfl rfl rfl ?_
      refine jr_if_eq 22 CC (jd ddX11_riseTime 10 rfl) (by decide) (fun h => absurd h (by decide)) (fun _ => ?_)
      refine jr_iconst (v := 0) CC (jd ddX11_riseTime 11 rfl) (by decide) ?_
      exact jr_iret CC MM (jd ddX11_riseTime 12 rfl) rfl (by decide) (by decide) (Or.inr (Or.inr (Or.inr (Or.inl ⟨by have h0 : eRis0 (R 28) x src lo hi (nI dn) = 3 := (by rw [eRis0_m, if_neg c1]; exact c9); rw [eRise, h0]; rfl, rfl, rfl⟩))))
