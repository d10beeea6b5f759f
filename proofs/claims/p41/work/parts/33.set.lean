def isLv (x : Int32) : Int32 := if x < -128 then 0 else if 128 ≤ x then 0 else 1
theorem isLv01 (x : Int32) : isLv x = 0 ∨ isLv x = 1 := by
  unfold isLv
  (repeat' split) <;> first | exact Or.inl rfl | exact Or.inr rfl
theorem t128 (x : Int32) : x ≤ 127 ↔ ¬ 128 ≤ x := by
  rw [ti_le, ti_le, show (127 : Int32).toInt = 127 from by decide, show (128 : Int32).toInt = 128 from by decide]; omega
theorem t101 (x : Int32) : x ≤ 100 ↔ ¬ 101 ≤ x := by
  rw [ti_le, ti_le, show (100 : Int32).toInt = 100 from by decide, show (101 : Int32).toInt = 101 from by decide]; omega
theorem t51 (x : Int32) : x ≤ 50 ↔ ¬ 51 ≤ x := by
  rw [ti_le, ti_le, show (50 : Int32).toInt = 50 from by decide, show (51 : Int32).toInt = 51 from by decide]; omega
theorem t50 (x : Int32) : x < -50 ↔ x ≤ -51 := by
  rw [ti_le, ti_lt, show (-50 : Int32).toInt = -50 from by decide, show (-51 : Int32).toInt = -51 from by decide]; omega
theorem t1 (x : Int32) : x < 1 ↔ x ≤ 0 := by
  rw [ti_le, ti_lt, show (1 : Int32).toInt = 1 from by decide, show (0 : Int32).toInt = 0 from by decide]; omega
theorem t1001 (x : Int32) : x ≤ 1000 ↔ ¬ 1001 ≤ x := by
  rw [ti_le, ti_le, show (1000 : Int32).toInt = 1000 from by decide, show (1001 : Int32).toInt = 1001 from by decide]; omega
theorem t49 (x : Int32) : x ≤ 48 ↔ ¬ 49 ≤ x := by
  rw [ti_le, ti_le, show (48 : Int32).toInt = 48 from by decide, show (49 : Int32).toInt = 49 from by decide]; omega
theorem isLv_1 {x v : Int32} (h : isLv x = v) (c : ¬ v = 0) : jin x (-128) 127 := by
  subst h
  unfold isLv at c
  by_cases h1 : x < -128
  · rw [if_pos h1] at c; exact absurd rfl c
  rw [if_neg h1] at c
  by_cases h2 : 128 ≤ x
  · rw [if_pos h2] at c; exact absurd rfl c
  exact ⟨h1, (t128 x).mpr h2⟩
theorem isLv_0 {x v : Int32} (h : isLv x = v) (c : v = 0) : ¬ jin x (-128) 127 := by
  subst h
  intro q
  unfold isLv at c
  rw [if_neg q.1, if_neg ((t128 x).mp q.2)] at c
  exact absurd c (by decide)
def eB (e : Int32) : Int32 := if e = 0 then 1 else 0
theorem eB01 (e : Int32) : eB e = 0 ∨ eB e = 1 := by
  unfold eB; split <;> first | exact Or.inl rfl | exact Or.inr rfl
theorem eB_0 {e v : Int32} (h : eB e = v) (c : e = 0) : ¬ v = 0 := by subst h c; decide
theorem eB_1 {e v : Int32} (h : eB e = v) (c : e = 1) : v = 0 := by subst h c; rfl
theorem jin_ch {a : Nat} (h : a < 3) : jin (nI a) 0 1 ↔ ¬ 2 ≤ nI a := by
  have e1 : (2 : Int32) ≤ nI a ↔ 2 ≤ a := nI_leI (a := 2) (b := a) (by decide) (by omega)
  have e2 : nI a ≤ (1 : Int32) ↔ a ≤ 1 := nI_leI (a := a) (b := 1) (by omega) (by decide)
  unfold jin
  rw [e1, e2]
  constructor
  · intro q; omega
  · intro q; exact ⟨nI_pos (by omega), by omega⟩
theorem eB_t {P : Prop} (h : P) : eB (jI P 0 1) = 1 := by rw [jI_t h]; rfl
theorem eB_f {P : Prop} (h : ¬ P) : eB (jI P 0 1) = 0 := by rw [jI_f h]; rfl
theorem cOK_E (ch lv hy : Int32) {ri : Int32} (h : ri = 0 ∨ ri = 1) : cOK 1 (gE ch lv hy ri) := ⟨fun _ => h, (fun z => by cases z)⟩
theorem cOK_W (ch lv le mo : Int32) {hi : Int32} (h : hi = 0 ∨ hi = 1) : cOK 8 (gW ch lv le mo hi) := ⟨(fun z => by cases z), fun _ => h⟩
theorem cOK_R (G : Nat → Int32) : cOK 6 G := ⟨(fun z => by cases z), (fun z => by cases z)⟩
theorem cOK_S (G : Nat → Int32) : cOK 7 G := ⟨(fun z => by cases z), (fun z => by cases z)⟩
theorem w_most {c d : Nat} (h : c + d ≤ 50) : nI (c + d) - 2 ≤ 100 := by
  rw [ti_le, Int32.toInt_sub, nI_toInt (by omega), show (2 : Int32).toInt = 2 from by decide, show (100 : Int32).toInt = 100 from by decide, b32 (by omega) (by omega)]; omega
theorem s_second {d : Nat} (h : d < 256) : jin (nI d - 128) (-128) 127 := by
  have e : (nI d - 128).toInt = d - 128 := by
    rw [Int32.toInt_sub, nI_toInt (by omega), show (128 : Int32).toInt = 128 from by decide, b32 (by omega) (by omega)]
  unfold jin
  rw [ti_lt, ti_le, e, show (-128 : Int32).toInt = -128 from by decide, show (127 : Int32).toInt = 127 from by decide]; omega
set_option maxHeartbeats 8000000 in
set_option maxRecDepth 100000 in
theorem k_L_isSet (l : Launch) (t : Nat → ClassId) (hfl : l.stackTraces = false) (h0 : Nat) (x1 : Nat) (x2 : Nat) (x3 : Nat) (x4 : Nat) (x5 : Nat) (x6 : Nat) (fi : Int32) (wh : Nat) (ka : Nat) (kb : Nat) (kc : Nat) (kd : Nat) (hz : wh < 10000 ∧ ka < 10000 ∧ kb < 10000 ∧ kc < 10000 ∧ kd < 10000) : jKx l t yL_isSet (Cond.code yL_isSet cL_isSet 12 (some .boolean) :: jWS) { frames := 11, cells := 5, slots := 31, locals := 202 } [.ref h0, .int (nI wh), .int (nI ka), .int (nI kb), .int (nI kc), .int (nI kd)] [(h0, .inr (9, [.ref x1, .ref x2, .ref x3, .ref x4, .ref x5, .ref x6, .int fi]))] (fun vv uu => (vv = some (.int 1) ∧ uu = [(h0, .inr (9, [.ref x1, .ref x2, .ref x3, .ref x4, .ref x5, .ref x6, .int fi]))]) ∨ (∃ q9 : Nat, ∃ cj : Nat, ∃ Gj : Nat → Int32, (cj = 1 ∨ cj = 6 ∨ cj = 7 ∨ cj = 8) ∧ (cOK cj Gj) ∧ vv = some (.int 1) ∧ uu = [(h0, .inr (9, [.ref x1, .ref x2, .ref x3, .ref x4, .ref x5, .ref q9, .int fi])), (q9, .inr (cj, jcond cj Gj))])) (fun _ _ => False) := by
  refine jK_of hfl (by decide +kernel) (Nat.le_of_ble_eq_true rfl) ?_
  intro p e s m args below meth c D A Q CC MM
  refine jr_norm0 [(0, .ref h0), (1, .int (nI wh)), (2, .int (nI ka)), (3, .int (nI kb)), (4, .int (nI kc)), (5, .int (nI kd))] rfl ?_
  refine jr_iload_n CC (jd ddL_isSet 0 rfl) 2 rfl ?_
  refine jr_iconst (v := 3) CC (jd ddL_isSet 1 rfl) (by decide) ?_
  refine jr_irem CC (jd ddL_isSet 2 rfl) (by decide) ?_
  refine jr_st [.int (nI (ka % 3))] (jst1 (pk_rem (a := ka) (d := 3) (by omega) (by omega) (by omega))) ?_
  refine jr_istore [(6, .int (nI (ka % 3))), (0, .ref h0), (1, .int (nI wh)), (2, .int (nI ka)), (3, .int (nI kb)), (4, .int (nI kc)), (5, .int (nI kd))] CC (jd ddL_isSet 3 rfl) (by decide) rfl ?_
  refine jr_iload_n CC (jd ddL_isSet 4 rfl) 4 rfl ?_
  refine jr_sipush (v := 258) CC (jd ddL_isSet 5 rfl) (by decide) ?_
  refine jr_irem CC (jd ddL_isSet 6 rfl) (by decide) ?_
  refine jr_st [.int (nI (kb % 258))] (jst1 (pk_rem (a := kb) (d := 258) (by omega) (by omega) (by omega))) ?_
  refine jr_sipush (v := 129) CC (jd ddL_isSet 7 rfl) (by decide) ?_
  refine jr_isub CC (jd ddL_isSet 8 rfl) ?_
  refine jr_istore [(7, .int ((nI (kb % 258)) - 129)), (6, .int (nI (ka % 3))), (0, .ref h0), (1, .int (nI wh)), (2, .int (nI ka)), (3, .int (nI kb)), (4, .int (nI kc)), (5, .int (nI kd))] CC (jd ddL_isSet 9 rfl) (by decide) rfl ?_
  have hJ2 : ∀ v1 : Int32, (isLv ((nI (kb % 258)) - 129)) = v1 → J p l e { frames := 11, cells := 5, slots := 31, locals := 202 } s m args below meth c D A 12 Q [(h0, .inr (9, [.ref x1, .ref x2, .ref x3, .ref x4, .ref x5, .ref x6, .int fi]))] [(7, .int ((nI (kb % 258)) - 129)), (6, .int (nI (ka % 3))), (0, .ref h0), (1, .int (nI wh)), (2, .int (nI ka)), (3, .int (nI kb)), (4, .int (nI kc)), (5, .int (nI kd))] 36 [.int v1] 0 0 := by
    intro v1 e3
    have bv1 : v1 = 0 ∨ v1 = 1 := e3 ▸ (isLv01 _)
    refine jr_istore [(8, .int v1), (7, .int ((nI (kb % 258)) - 129)), (6, .int (nI (ka % 3))), (0, .ref h0), (1, .int (nI wh)), (2, .int (nI ka)), (3, .int (nI kb)), (4, .int (nI kc)), (5, .int (nI kd))] CC (jd ddL_isSet 19 rfl) (by decide) rfl ?_
    refine jr_iload_n CC (jd ddL_isSet 20 rfl) 4 rfl ?_
    refine jr_if_ne 125 CC (jd ddL_isSet 21 rfl) (by decide) (fun c4 => ?_) (fun c4 => ?_)
    · have n4 := jeq_not (a := wh) (b := 0) c4 (by omega) (by omega)
      refine jr_iload_n CC (jd ddL_isSet 66 rfl) 4 rfl ?_
      refine jr_iconst (v := 1) CC (jd ddL_isSet 67 rfl) (by decide) ?_
      refine jr_icmp_ne 224 CC (jd ddL_isSet 68 rfl) (by decide) (fun c5 => ?_) (fun c5 => ?_)
      · have n5 := jeq_not (a := wh) (b := 1) c5 (by omega) (by omega)
        refine jr_iload_n CC (jd ddL_isSet 119 rfl) 4 rfl ?_
        refine jr_iconst (v := 2) CC (jd ddL_isSet 120 rfl) (by decide) ?_
        refine jr_icmp_ne 307 CC (jd ddL_isSet 121 rfl) (by decide) (fun c6 => ?_) (fun c6 => ?_)
        · have n6 := jeq_not (a := wh) (b := 2) c6 (by omega) (by omega)
          refine jr_iload CC (jd ddL_isSet 163 rfl) 7 rfl ?_
          refine jr_pc (pc' := 309) rfl ?_
          refine jr_bipush (v := 104) CC (jd ddL_isSet 164 rfl) (by decide) ?_
          refine jr_irem CC (jd ddL_isSet 165 rfl) (by decide) ?_
          refine jr_st [.int (nI (kc % 104))] (jst1 (pk_rem (a := kc) (d := 104) (by omega) (by omega) (by omega))) ?_
          refine jr_iconst (v := 1) CC (jd ddL_isSet 166 rfl) (by decide) ?_
          refine jr_isub CC (jd ddL_isSet 167 rfl) ?_
          refine jr_istore [(9, .int ((nI (kc % 104)) - 1)), (8, .int v1), (7, .int ((nI (kb % 258)) - 129)), (6, .int (nI (ka % 3))), (0, .ref h0), (1, .int (nI wh)), (2, .int (nI ka)), (3, .int (nI kb)), (4, .int (nI kc)), (5, .int (nI kd))] CC (jd ddL_isSet 168 rfl) (by decide) rfl ?_
          have hJ8 : ∀ v7 : Int32, (eB (eSeq ((nI (kb % 258)) - 129) ((nI (kd % 256)) - 128) ((nI (kc % 104)) - 1))) = v7 → J p l e { frames := 11, cells := 5, slots := 31, locals := 202 } s m args below meth c D A 12 Q [(h0, .inr (9, [.ref x1, .ref x2, .ref x3, .ref x4, .ref x5, .ref x6, .int fi]))] [(9, .int ((nI (kc % 104)) - 1)), (8, .int v1), (7, .int ((nI (kb % 258)) - 129)), (6, .int (nI (ka % 3))), (0, .ref h0), (1, .int (nI wh)), (2, .int (nI ka)), (3, .int (nI kb)), (4, .int (nI kc)), (5, .int (nI kd))] 338 [.int v7] 0 0 := by
            intro v7 e9
            have bv7 : v7 = 0 ∨ v7 = 1 := e9 ▸ (eB01 _)
            refine jr_istore [(10, .int v7), (9, .int ((nI (kc % 104)) - 1)), (8, .int v1), (7, .int ((nI (kb % 258)) - 129)), (6, .int (nI (ka % 3))), (0, .ref h0), (1, .int (nI wh)), (2, .int (nI ka)), (3, .int (nI kb)), (4, .int (nI kc)), (5, .int (nI kd))] CC (jd ddL_isSet 179 rfl) (by decide) rfl ?_
            refine jr_aload_n CC (jd ddL_isSet 180 rfl) 5 rfl ?_
            refine jr_iconst (v := 3) CC (jd ddL_isSet 181 rfl) (by decide) ?_
            refine jr_iload CC (jd ddL_isSet 182 rfl) 3 rfl ?_
            refine jr_iload CC (jd ddL_isSet 183 rfl) 10 rfl ?_
            refine jr_sipush (v := 256) CC (jd ddL_isSet 184 rfl) (by decide) ?_
            refine jr_irem CC (jd ddL_isSet 185 rfl) (by decide) ?_
            refine jr_st [.int (nI (kd % 256)), .int ((nI (kb % 258)) - 129), .int 3, .ref h0] (jst1 (pk_rem (a := kd) (d := 256) (by omega) (by omega) (by omega))) ?_
            refine jr_sipush (v := 128) CC (jd ddL_isSet 186 rfl) (by decide) ?_
            refine jr_isub CC (jd ddL_isSet 187 rfl) ?_
            refine jr_iload CC (jd ddL_isSet 188 rfl) 1 rfl ?_
            refine jr_pc (pc' := 356) rfl ?_
            refine jr_iconst (v := 0) CC (jd ddL_isSet 189 rfl) (by decide) ?_
            refine jr_iconst (v := 1) CC (jd ddL_isSet 190 rfl) (by decide) ?_
            refine jr_callW (rest := []) [.ref h0, .int 3, .int ((nI (kb % 258)) - 129), .int ((nI (kd % 256)) - 128), .int ((nI (kc % 104)) - 1), .int 0, .int 1] CC (jd ddL_isSet 191 rfl) (jy_L_182 CC) (k_L_sets3 l t hfl h0 x1 x2 x3 x4 x5 x6 fi ((nI (kb % 258)) - 129) ((nI (kd % 256)) - 128) ((nI (kc % 104)) - 1)) [0] rfl (by decide) rfl rfl (by decide) (Nat.le_of_ble_eq_true rfl) (by rintro v u h; rcases h with ⟨z9_0, rfl, rfl⟩ | ⟨q3, z9_0, rfl, rfl⟩ <;> exact (show ([h0] : List Nat) = [h0] from rfl)) (fun _ _ h => h.elim) (fun _ _ h => h.elim) (fun v u h => ?_)
            rcases h with ⟨c10, rfl, rfl⟩ | ⟨q11, c12, rfl, rfl⟩
            · refine jr_norm [(h0, .inr (9, [.ref x1, .ref x2, .ref x3, .ref x4, .ref x5, .ref x6, .int fi]))] [.int (-20)] 361 4 26 rfl rfl rfl rfl rfl ?_
              refine jr_iload CC (jd ddL_isSet 192 rfl) 0 rfl ?_
              refine jr_if_eq 370 CC (jd ddL_isSet 193 rfl) (by decide) (fun _ => ?_) (fun h => absurd (eB_1 e9 c10) h)
              refine jr_bipush (v := (-20)) CC (jd ddL_isSet 196 rfl) (by decide) ?_
              refine jr_icmp_ne 379 CC (jd ddL_isSet 197 rfl) (by decide) (fun h => absurd h (by decide)) (fun _ => ?_)
              refine jr_iconst (v := 1) CC (jd ddL_isSet 198 rfl) (by decide) ?_
              refine jr_goto 380 CC (jd ddL_isSet 199 rfl) (by decide) ?_
              exact jr_zret rfl CC MM (jd ddL_isSet 201 rfl) rfl (by decide) (by decide) (Or.inl ⟨rfl, rfl⟩)
            · refine jr_norm [(h0, .inr (9, [.ref x1, .ref x2, .ref x3, .ref x4, .ref x5, .ref q11, .int fi])), (q11, .inr (7, jcond 7 (gS ((nI (kb % 258)) - 129) ((nI (kd % 256)) - 128) ((nI (kc % 104)) - 1))))] [.int 0] 361 4 26 rfl rfl rfl rfl rfl ?_
              refine jr_iload CC (jd ddL_isSet 192 rfl) 0 rfl ?_
              refine jr_if_eq 370 CC (jd ddL_isSet 193 rfl) (by decide) (fun h => absurd h (eB_0 e9 c12)) (fun _ => ?_)
              refine jr_iconst (v := 0) CC (jd ddL_isSet 194 rfl) (by decide) ?_
              refine jr_goto 372 CC (jd ddL_isSet 195 rfl) (by decide) ?_
              refine jr_icmp_ne 379 CC (jd ddL_isSet 197 rfl) (by decide) (fun h => absurd h (by decide)) (fun _ => ?_)
              refine jr_iconst (v := 1) CC (jd ddL_isSet 198 rfl) (by decide) ?_
              refine jr_goto 380 CC (jd ddL_isSet 199 rfl) (by decide) ?_
              exact jr_zret rfl CC MM (jd ddL_isSet 201 rfl) rfl (by decide) (by decide) (Or.inr ⟨q11, 7, (gS ((nI (kb % 258)) - 129) ((nI (kd % 256)) - 128) ((nI (kc % 104)) - 1)), (Or.inr (Or.inr (Or.inl rfl))), (cOK_S _), rfl, rfl⟩)
          refine jr_norm [(h0, .inr (9, [.ref x1, .ref x2, .ref x3, .ref x4, .ref x5, .ref x6, .int fi]))] [] 316 0 0 rfl rfl rfl rfl rfl ?_
          refine jr_iload CC (jd ddL_isSet 169 rfl) 1 rfl ?_
          refine jr_if_eq 337 CC (jd ddL_isSet 170 rfl) (by decide) (fun c15 => ?_) (fun c15 => ?_)
          · refine jr_iconst (v := 0) CC (jd ddL_isSet 178 rfl) (by decide) ?_
            exact hJ8 _ (eB_f (fun q9 => isLv_0 e3 c15 q9.1))
          · refine jr_iload CC (jd ddL_isSet 171 rfl) 0 rfl ?_
            refine jr_if_lt 337 CC (jd ddL_isSet 172 rfl) (by decide) (fun c16 => ?_) (fun c16 => ?_)
            · refine jr_iconst (v := 0) CC (jd ddL_isSet 178 rfl) (by decide) ?_
              exact hJ8 _ (eB_f (fun q9 => q9.2.2.1 c16))
            · refine jr_iload CC (jd ddL_isSet 173 rfl) 0 rfl ?_
              refine jr_bipush (v := 101) CC (jd ddL_isSet 174 rfl) (by decide) ?_
              refine jr_icmp_ge 337 CC (jd ddL_isSet 175 rfl) (by decide) (fun c17 => ?_) (fun c17 => ?_)
              · refine jr_iconst (v := 0) CC (jd ddL_isSet 178 rfl) (by decide) ?_
                exact hJ8 _ (eB_f (fun q9 => (t101 _).mp q9.2.2.2 c17))
              · refine jr_iconst (v := 1) CC (jd ddL_isSet 176 rfl) (by decide) ?_
                refine jr_goto 338 CC (jd ddL_isSet 177 rfl) (by decide) ?_
                exact hJ8 _ (eB_t ⟨isLv_1 e3 c15, s_second (by omega), c16, (t101 _).mpr c17⟩)
        · have n6 := jeq_of (a := wh) (b := 2) c6 (by omega) (by omega)
          refine jr_iload CC (jd ddL_isSet 122 rfl) 1 rfl ?_
          refine jr_pc (pc' := 231) rfl ?_
          refine jr_iload CC (jd ddL_isSet 123 rfl) 7 rfl ?_
          refine jr_bipush (v := 60) CC (jd ddL_isSet 124 rfl) (by decide) ?_
          refine jr_irem CC (jd ddL_isSet 125 rfl) (by decide) ?_
          refine jr_st [.int (nI (kc % 60)), .int ((nI (kb % 258)) - 129)] (jst1 (pk_rem (a := kc) (d := 60) (by omega) (by omega) (by omega))) ?_
          refine jr_iadd CC (jd ddL_isSet 126 rfl) ?_
          refine jr_iconst (v := 5) CC (jd ddL_isSet 127 rfl) (by decide) ?_
          refine jr_isub CC (jd ddL_isSet 128 rfl) ?_
          refine jr_istore [(9, .int ((((nI (kb % 258)) - 129) + (nI (kc % 60))) - 5)), (8, .int v1), (7, .int ((nI (kb % 258)) - 129)), (6, .int (nI (ka % 3))), (0, .ref h0), (1, .int (nI wh)), (2, .int (nI ka)), (3, .int (nI kb)), (4, .int (nI kc)), (5, .int (nI kd))] CC (jd ddL_isSet 129 rfl) (by decide) rfl ?_
          have hJ19 : ∀ v18 : Int32, (eB (eRunt (nI (ka % 3)) ((nI (kb % 258)) - 129) ((((nI (kb % 258)) - 129) + (nI (kc % 60))) - 5))) = v18 → J p l e { frames := 11, cells := 5, slots := 31, locals := 202 } s m args below meth c D A 12 Q [(h0, .inr (9, [.ref x1, .ref x2, .ref x3, .ref x4, .ref x5, .ref x6, .int fi]))] [(9, .int ((((nI (kb % 258)) - 129) + (nI (kc % 60))) - 5)), (8, .int v1), (7, .int ((nI (kb % 258)) - 129)), (6, .int (nI (ka % 3))), (0, .ref h0), (1, .int (nI wh)), (2, .int (nI ka)), (3, .int (nI kb)), (4, .int (nI kc)), (5, .int (nI kd))] 272 [.int v18] 0 0 := by
            intro v18 e20
            have bv18 : v18 = 0 ∨ v18 = 1 := e20 ▸ (eB01 _)
            refine jr_istore [(10, .int v18), (9, .int ((((nI (kb % 258)) - 129) + (nI (kc % 60))) - 5)), (8, .int v1), (7, .int ((nI (kb % 258)) - 129)), (6, .int (nI (ka % 3))), (0, .ref h0), (1, .int (nI wh)), (2, .int (nI ka)), (3, .int (nI kb)), (4, .int (nI kc)), (5, .int (nI kd))] CC (jd ddL_isSet 144 rfl) (by decide) rfl ?_
            refine jr_aload_n CC (jd ddL_isSet 145 rfl) 5 rfl ?_
            refine jr_iconst (v := 2) CC (jd ddL_isSet 146 rfl) (by decide) ?_
            refine jr_iload CC (jd ddL_isSet 147 rfl) 4 rfl ?_
            refine jr_iload CC (jd ddL_isSet 148 rfl) 3 rfl ?_
            refine jr_iload CC (jd ddL_isSet 149 rfl) 1 rfl ?_
            refine jr_iconst (v := 0) CC (jd ddL_isSet 150 rfl) (by decide) ?_
            refine jr_iconst (v := 1) CC (jd ddL_isSet 151 rfl) (by decide) ?_
            refine jr_callW (rest := []) [.ref h0, .int 2, .int (nI (ka % 3)), .int ((nI (kb % 258)) - 129), .int ((((nI (kb % 258)) - 129) + (nI (kc % 60))) - 5), .int 0, .int 1] CC (jd ddL_isSet 152 rfl) (jy_L_182 CC) (k_L_sets2 l t hfl h0 x1 x2 x3 x4 x5 x6 fi (nI (ka % 3)) ((nI (kb % 258)) - 129) ((((nI (kb % 258)) - 129) + (nI (kc % 60))) - 5)) [0] rfl (by decide) rfl rfl (by decide) (Nat.le_of_ble_eq_true rfl) (by rintro v u h; rcases h with ⟨z9_0, rfl, rfl⟩ | ⟨q3, z9_0, rfl, rfl⟩ <;> exact (show ([h0] : List Nat) = [h0] from rfl)) (fun _ _ h => h.elim) (fun _ _ h => h.elim) (fun v u h => ?_)
            rcases h with ⟨c21, rfl, rfl⟩ | ⟨q22, c23, rfl, rfl⟩
            · refine jr_norm [(h0, .inr (9, [.ref x1, .ref x2, .ref x3, .ref x4, .ref x5, .ref x6, .int fi]))] [.int (-20)] 287 4 24 rfl rfl rfl rfl rfl ?_
              refine jr_iload CC (jd ddL_isSet 153 rfl) 0 rfl ?_
              refine jr_if_eq 296 CC (jd ddL_isSet 154 rfl) (by decide) (fun _ => ?_) (fun h => absurd (eB_1 e20 c21) h)
              refine jr_bipush (v := (-20)) CC (jd ddL_isSet 157 rfl) (by decide) ?_
              refine jr_icmp_ne 305 CC (jd ddL_isSet 158 rfl) (by decide) (fun h => absurd h (by decide)) (fun _ => ?_)
              refine jr_iconst (v := 1) CC (jd ddL_isSet 159 rfl) (by decide) ?_
              refine jr_goto 306 CC (jd ddL_isSet 160 rfl) (by decide) ?_
              exact jr_zret rfl CC MM (jd ddL_isSet 162 rfl) rfl (by decide) (by decide) (Or.inl ⟨rfl, rfl⟩)
            · refine jr_norm [(h0, .inr (9, [.ref x1, .ref x2, .ref x3, .ref x4, .ref x5, .ref q22, .int fi])), (q22, .inr (6, jcond 6 (gR (nI (ka % 3)) ((nI (kb % 258)) - 129) ((((nI (kb % 258)) - 129) + (nI (kc % 60))) - 5))))] [.int 0] 287 4 24 rfl rfl rfl rfl rfl ?_
              refine jr_iload CC (jd ddL_isSet 153 rfl) 0 rfl ?_
              refine jr_if_eq 296 CC (jd ddL_isSet 154 rfl) (by decide) (fun h => absurd h (eB_0 e20 c23)) (fun _ => ?_)
              refine jr_iconst (v := 0) CC (jd ddL_isSet 155 rfl) (by decide) ?_
              refine jr_goto 298 CC (jd ddL_isSet 156 rfl) (by decide) ?_
              refine jr_icmp_ne 305 CC (jd ddL_isSet 158 rfl) (by decide) (fun h => absurd h (by decide)) (fun _ => ?_)
              refine jr_iconst (v := 1) CC (jd ddL_isSet 159 rfl) (by decide) ?_
              refine jr_goto 306 CC (jd ddL_isSet 160 rfl) (by decide) ?_
              exact jr_zret rfl CC MM (jd ddL_isSet 162 rfl) rfl (by decide) (by decide) (Or.inr ⟨q22, 6, (gR (nI (ka % 3)) ((nI (kb % 258)) - 129) ((((nI (kb % 258)) - 129) + (nI (kc % 60))) - 5)), (Or.inr (Or.inl rfl)), (cOK_R _), rfl, rfl⟩)
          refine jr_norm [(h0, .inr (9, [.ref x1, .ref x2, .ref x3, .ref x4, .ref x5, .ref x6, .int fi]))] [] 241 0 0 rfl rfl rfl rfl rfl ?_
          refine jr_iload CC (jd ddL_isSet 130 rfl) 3 rfl ?_
          refine jr_iconst (v := 2) CC (jd ddL_isSet 131 rfl) (by decide) ?_
          refine jr_icmp_ge 271 CC (jd ddL_isSet 132 rfl) (by decide) (fun c26 => ?_) (fun c26 => ?_)
          · have n26 := jle_of (a := 2) (b := (ka % 3)) c26 (by omega) (by omega)
            refine jr_iconst (v := 0) CC (jd ddL_isSet 143 rfl) (by decide) ?_
            exact hJ19 _ (eB_f (fun q9 => (jin_ch (by omega)).mp q9.1 c26))
          · have n26 := jle_not (a := 2) (b := (ka % 3)) c26 (by omega) (by omega)
            refine jr_iload CC (jd ddL_isSet 133 rfl) 1 rfl ?_
            refine jr_if_eq 271 CC (jd ddL_isSet 134 rfl) (by decide) (fun c27 => ?_) (fun c27 => ?_)
            · refine jr_iconst (v := 0) CC (jd ddL_isSet 143 rfl) (by decide) ?_
              exact hJ19 _ (eB_f (fun q9 => isLv_0 e3 c27 q9.2.1))
            · refine jr_iload CC (jd ddL_isSet 135 rfl) 0 rfl ?_
              refine jr_iload CC (jd ddL_isSet 136 rfl) 2 rfl ?_
              refine jr_icmp_lt 271 CC (jd ddL_isSet 137 rfl) (by decide) (fun c28 => ?_) (fun c28 => ?_)
              · refine jr_iconst (v := 0) CC (jd ddL_isSet 143 rfl) (by decide) ?_
                exact hJ19 _ (eB_f (fun q9 => q9.2.2.1 c28))
              · refine jr_iload CC (jd ddL_isSet 138 rfl) 0 rfl ?_
                refine jr_sipush (v := 128) CC (jd ddL_isSet 139 rfl) (by decide) ?_
                refine jr_pc (pc' := 264) rfl ?_
                refine jr_icmp_ge 271 CC (jd ddL_isSet 140 rfl) (by decide) (fun c29 => ?_) (fun c29 => ?_)
                · refine jr_iconst (v := 0) CC (jd ddL_isSet 143 rfl) (by decide) ?_
                  exact hJ19 _ (eB_f (fun q9 => (t128 _).mp q9.2.2.2 c29))
                · refine jr_iconst (v := 1) CC (jd ddL_isSet 141 rfl) (by decide) ?_
                  refine jr_goto 272 CC (jd ddL_isSet 142 rfl) (by decide) ?_
                  exact hJ19 _ (eB_t ⟨(jin_ch (by omega)).mpr c26, isLv_1 e3 c27, c28, (t128 _).mpr c29⟩)
      · have n5 := jeq_of (a := wh) (b := 1) c5 (by omega) (by omega)
        refine jr_iload CC (jd ddL_isSet 69 rfl) 7 rfl ?_
        refine jr_bipush (v := 7) CC (jd ddL_isSet 70 rfl) (by decide) ?_
        refine jr_irem CC (jd ddL_isSet 71 rfl) (by decide) ?_
        refine jr_st [.int (nI (kc % 7))] (jst1 (pk_rem (a := kc) (d := 7) (by omega) (by omega) (by omega))) ?_
        refine jr_istore [(9, .int (nI (kc % 7))), (8, .int v1), (7, .int ((nI (kb % 258)) - 129)), (6, .int (nI (ka % 3))), (0, .ref h0), (1, .int (nI wh)), (2, .int (nI ka)), (3, .int (nI kb)), (4, .int (nI kc)), (5, .int (nI kd))] CC (jd ddL_isSet 72 rfl) (by decide) rfl ?_
        refine jr_pc (pc' := 137) rfl ?_
        refine jr_iload CC (jd ddL_isSet 73 rfl) 0 rfl ?_
        refine jr_iload CC (jd ddL_isSet 74 rfl) 9 rfl ?_
        refine jr_bipush (v := 9) CC (jd ddL_isSet 75 rfl) (by decide) ?_
        refine jr_irem CC (jd ddL_isSet 76 rfl) (by decide) ?_
        refine jr_st [.int (nI (kd % 9)), .int (nI (kc % 7))] (jst1 (pk_rem (a := kd) (d := 9) (by omega) (by omega) (by omega))) ?_
        refine jr_iadd CC (jd ddL_isSet 77 rfl) ?_
        refine jr_st [.int (nI ((kc % 7) + (kd % 9)))] (jst1 (nI_add (kc % 7) (kd % 9))) ?_
        refine jr_iconst (v := 2) CC (jd ddL_isSet 78 rfl) (by decide) ?_
        refine jr_isub CC (jd ddL_isSet 79 rfl) ?_
        refine jr_istore [(10, .int ((nI ((kc % 7) + (kd % 9))) - 2)), (9, .int (nI (kc % 7))), (8, .int v1), (7, .int ((nI (kb % 258)) - 129)), (6, .int (nI (ka % 3))), (0, .ref h0), (1, .int (nI wh)), (2, .int (nI ka)), (3, .int (nI kb)), (4, .int (nI kc)), (5, .int (nI kd))] CC (jd ddL_isSet 80 rfl) (by decide) rfl ?_
        have hJ31 : ∀ v30 : Int32, (eB (eWidth (nI (ka % 3)) ((nI (kb % 258)) - 129) (nI (kc % 7)) ((nI ((kc % 7) + (kd % 9))) - 2))) = v30 → J p l e { frames := 11, cells := 5, slots := 31, locals := 202 } s m args below meth c D A 12 Q [(h0, .inr (9, [.ref x1, .ref x2, .ref x3, .ref x4, .ref x5, .ref x6, .int fi]))] [(10, .int ((nI ((kc % 7) + (kd % 9))) - 2)), (9, .int (nI (kc % 7))), (8, .int v1), (7, .int ((nI (kb % 258)) - 129)), (6, .int (nI (ka % 3))), (0, .ref h0), (1, .int (nI wh)), (2, .int (nI ka)), (3, .int (nI kb)), (4, .int (nI kc)), (5, .int (nI kd))] 177 [.int v30] 0 0 := by
          intro v30 e32
          have bv30 : v30 = 0 ∨ v30 = 1 := e32 ▸ (eB01 _)
          refine jr_istore [(11, .int v30), (10, .int ((nI ((kc % 7) + (kd % 9))) - 2)), (9, .int (nI (kc % 7))), (8, .int v1), (7, .int ((nI (kb % 258)) - 129)), (6, .int (nI (ka % 3))), (0, .ref h0), (1, .int (nI wh)), (2, .int (nI ka)), (3, .int (nI kb)), (4, .int (nI kc)), (5, .int (nI kd))] CC (jd ddL_isSet 94 rfl) (by decide) rfl ?_
          refine jr_aload_n CC (jd ddL_isSet 95 rfl) 6 rfl ?_
          refine jr_iconst (v := 1) CC (jd ddL_isSet 96 rfl) (by decide) ?_
          refine jr_iload CC (jd ddL_isSet 97 rfl) 5 rfl ?_
          refine jr_iload CC (jd ddL_isSet 98 rfl) 4 rfl ?_
          refine jr_iload CC (jd ddL_isSet 99 rfl) 2 rfl ?_
          refine jr_iload CC (jd ddL_isSet 100 rfl) 1 rfl ?_
          refine jr_iload CC (jd ddL_isSet 101 rfl) 11 rfl ?_
          refine jr_iconst (v := 2) CC (jd ddL_isSet 102 rfl) (by decide) ?_
          refine jr_irem CC (jd ddL_isSet 103 rfl) (by decide) ?_
          refine jr_st [.int (nI (kd % 2)), .int ((nI ((kc % 7) + (kd % 9))) - 2), .int (nI (kc % 7)), .int ((nI (kb % 258)) - 129), .int (nI (ka % 3)), .int 1, .ref h0] (jst1 (pk_rem (a := kd) (d := 2) (by omega) (by omega) (by omega))) ?_
          refine jr_pc (pc' := 193) rfl ?_
          refine jr_if_ne 200 CC (jd ddL_isSet 104 rfl) (by decide) (fun c33 => ?_) (fun c33 => ?_)
          · have n33 := jeq_not (a := (kd % 2)) (b := 0) c33 (by omega) (by omega)
            refine jr_iconst (v := 0) CC (jd ddL_isSet 107 rfl) (by decide) ?_
            refine jr_callW (rest := []) [.ref h0, .int 1, .int (nI (ka % 3)), .int ((nI (kb % 258)) - 129), .int (nI (kc % 7)), .int ((nI ((kc % 7) + (kd % 9))) - 2), .int 0] CC (jd ddL_isSet 108 rfl) (jy_L_182 CC) (k_L_sets1 l t hfl h0 x1 x2 x3 x4 x5 x6 fi (nI (ka % 3)) ((nI (kb % 258)) - 129) (nI (kc % 7)) ((nI ((kc % 7) + (kd % 9))) - 2) 0 (by first | assumption | omega | decide)) [0] rfl (by decide) rfl rfl (by decide) (Nat.le_of_ble_eq_true rfl) (by rintro v u h; rcases h with ⟨z9_0, rfl, rfl⟩ | ⟨q3, z9_0, rfl, rfl⟩ <;> exact (show ([h0] : List Nat) = [h0] from rfl)) (fun _ _ h => h.elim) (fun _ _ h => h.elim) (fun v u h => ?_)
            rcases h with ⟨c34, rfl, rfl⟩ | ⟨q35, c36, rfl, rfl⟩
            · refine jr_norm [(h0, .inr (9, [.ref x1, .ref x2, .ref x3, .ref x4, .ref x5, .ref x6, .int fi]))] [.int (-20)] 204 5 31 rfl rfl rfl rfl rfl ?_
              refine jr_iload CC (jd ddL_isSet 109 rfl) 0 rfl ?_
              refine jr_if_eq 213 CC (jd ddL_isSet 110 rfl) (by decide) (fun _ => ?_) (fun h => absurd (eB_1 e32 c34) h)
              refine jr_bipush (v := (-20)) CC (jd ddL_isSet 113 rfl) (by decide) ?_
              refine jr_icmp_ne 222 CC (jd ddL_isSet 114 rfl) (by decide) (fun h => absurd h (by decide)) (fun _ => ?_)
              refine jr_iconst (v := 1) CC (jd ddL_isSet 115 rfl) (by decide) ?_
              refine jr_goto 223 CC (jd ddL_isSet 116 rfl) (by decide) ?_
              exact jr_zret rfl CC MM (jd ddL_isSet 118 rfl) rfl (by decide) (by decide) (Or.inl ⟨rfl, rfl⟩)
            · refine jr_norm [(h0, .inr (9, [.ref x1, .ref x2, .ref x3, .ref x4, .ref x5, .ref q35, .int fi])), (q35, .inr (8, jcond 8 (gW (nI (ka % 3)) ((nI (kb % 258)) - 129) (nI (kc % 7)) ((nI ((kc % 7) + (kd % 9))) - 2) 0)))] [.int 0] 204 5 31 rfl rfl rfl rfl rfl ?_
              refine jr_iload CC (jd ddL_isSet 109 rfl) 0 rfl ?_
              refine jr_if_eq 213 CC (jd ddL_isSet 110 rfl) (by decide) (fun h => absurd h (eB_0 e32 c36)) (fun _ => ?_)
              refine jr_iconst (v := 0) CC (jd ddL_isSet 111 rfl) (by decide) ?_
              refine jr_goto 215 CC (jd ddL_isSet 112 rfl) (by decide) ?_
              refine jr_icmp_ne 222 CC (jd ddL_isSet 114 rfl) (by decide) (fun h => absurd h (by decide)) (fun _ => ?_)
              refine jr_iconst (v := 1) CC (jd ddL_isSet 115 rfl) (by decide) ?_
              refine jr_goto 223 CC (jd ddL_isSet 116 rfl) (by decide) ?_
              exact jr_zret rfl CC MM (jd ddL_isSet 118 rfl) rfl (by decide) (by decide) (Or.inr ⟨q35, 8, (gW (nI (ka % 3)) ((nI (kb % 258)) - 129) (nI (kc % 7)) ((nI ((kc % 7) + (kd % 9))) - 2) 0), (Or.inr (Or.inr (Or.inr rfl))), (cOK_W (nI (ka % 3)) ((nI (kb % 258)) - 129) (nI (kc % 7)) ((nI ((kc % 7) + (kd % 9))) - 2) (by decide)), rfl, rfl⟩)
          · have n33 := jeq_of (a := (kd % 2)) (b := 0) c33 (by omega) (by omega)
            refine jr_iconst (v := 1) CC (jd ddL_isSet 105 rfl) (by decide) ?_
            refine jr_goto 201 CC (jd ddL_isSet 106 rfl) (by decide) ?_
            refine jr_callW (rest := []) [.ref h0, .int 1, .int (nI (ka % 3)), .int ((nI (kb % 258)) - 129), .int (nI (kc % 7)), .int ((nI ((kc % 7) + (kd % 9))) - 2), .int 1] CC (jd ddL_isSet 108 rfl) (jy_L_182 CC) (k_L_sets1 l t hfl h0 x1 x2 x3 x4 x5 x6 fi (nI (ka % 3)) ((nI (kb % 258)) - 129) (nI (kc % 7)) ((nI ((kc % 7) + (kd % 9))) - 2) 1 (by first | assumption | omega | decide)) [0] rfl (by decide) rfl rfl (by decide) (Nat.le_of_ble_eq_true rfl) (by rintro v u h; rcases h with ⟨z9_0, rfl, rfl⟩ | ⟨q3, z9_0, rfl, rfl⟩ <;> exact (show ([h0] : List Nat) = [h0] from rfl)) (fun _ _ h => h.elim) (fun _ _ h => h.elim) (fun v u h => ?_)
            rcases h with ⟨c39, rfl, rfl⟩ | ⟨q40, c41, rfl, rfl⟩
            · refine jr_norm [(h0, .inr (9, [.ref x1, .ref x2, .ref x3, .ref x4, .ref x5, .ref x6, .int fi]))] [.int (-20)] 204 5 31 rfl rfl rfl rfl rfl ?_
              refine jr_iload CC (jd ddL_isSet 109 rfl) 0 rfl ?_
              refine jr_if_eq 213 CC (jd ddL_isSet 110 rfl) (by decide) (fun _ => ?_) (fun h => absurd (eB_1 e32 c39) h)
              refine jr_bipush (v := (-20)) CC (jd ddL_isSet 113 rfl) (by decide) ?_
              refine jr_icmp_ne 222 CC (jd ddL_isSet 114 rfl) (by decide) (fun h => absurd h (by decide)) (fun _ => ?_)
              refine jr_iconst (v := 1) CC (jd ddL_isSet 115 rfl) (by decide) ?_
              refine jr_goto 223 CC (jd ddL_isSet 116 rfl) (by decide) ?_
              exact jr_zret rfl CC MM (jd ddL_isSet 118 rfl) rfl (by decide) (by decide) (Or.inl ⟨rfl, rfl⟩)
            · refine jr_norm [(h0, .inr (9, [.ref x1, .ref x2, .ref x3, .ref x4, .ref x5, .ref q40, .int fi])), (q40, .inr (8, jcond 8 (gW (nI (ka % 3)) ((nI (kb % 258)) - 129) (nI (kc % 7)) ((nI ((kc % 7) + (kd % 9))) - 2) 1)))] [.int 0] 204 5 31 rfl rfl rfl rfl rfl ?_
              refine jr_iload CC (jd ddL_isSet 109 rfl) 0 rfl ?_
              refine jr_if_eq 213 CC (jd ddL_isSet 110 rfl) (by decide) (fun h => absurd h (eB_0 e32 c41)) (fun _ => ?_)
              refine jr_iconst (v := 0) CC (jd ddL_isSet 111 rfl) (by decide) ?_
              refine jr_goto 215 CC (jd ddL_isSet 112 rfl) (by decide) ?_
              refine jr_icmp_ne 222 CC (jd ddL_isSet 114 rfl) (by decide) (fun h => absurd h (by decide)) (fun _ => ?_)
              refine jr_iconst (v := 1) CC (jd ddL_isSet 115 rfl) (by decide) ?_
              refine jr_goto 223 CC (jd ddL_isSet 116 rfl) (by decide) ?_
              exact jr_zret rfl CC MM (jd ddL_isSet 118 rfl) rfl (by decide) (by decide) (Or.inr ⟨q40, 8, (gW (nI (ka % 3)) ((nI (kb % 258)) - 129) (nI (kc % 7)) ((nI ((kc % 7) + (kd % 9))) - 2) 1), (Or.inr (Or.inr (Or.inr rfl))), (cOK_W (nI (ka % 3)) ((nI (kb % 258)) - 129) (nI (kc % 7)) ((nI ((kc % 7) + (kd % 9))) - 2) (by decide)), rfl, rfl⟩)
        refine jr_norm [(h0, .inr (9, [.ref x1, .ref x2, .ref x3, .ref x4, .ref x5, .ref x6, .int fi]))] [] 149 0 0 rfl rfl rfl rfl rfl ?_
        refine jr_iload CC (jd ddL_isSet 81 rfl) 4 rfl ?_
        refine jr_iconst (v := 2) CC (jd ddL_isSet 82 rfl) (by decide) ?_
        refine jr_icmp_ge 176 CC (jd ddL_isSet 83 rfl) (by decide) (fun c44 => ?_) (fun c44 => ?_)
        · have n44 := jle_of (a := 2) (b := (ka % 3)) c44 (by omega) (by omega)
          refine jr_iconst (v := 0) CC (jd ddL_isSet 93 rfl) (by decide) ?_
          exact hJ31 _ (eB_f (fun q9 => (jin_ch (by omega)).mp q9.1 c44))
        · have n44 := jle_not (a := 2) (b := (ka % 3)) c44 (by omega) (by omega)
          refine jr_iload CC (jd ddL_isSet 84 rfl) 2 rfl ?_
          refine jr_if_eq 176 CC (jd ddL_isSet 85 rfl) (by decide) (fun c45 => ?_) (fun c45 => ?_)
          · refine jr_iconst (v := 0) CC (jd ddL_isSet 93 rfl) (by decide) ?_
            exact hJ31 _ (eB_f (fun q9 => isLv_0 e3 c45 q9.2.1))
          · refine jr_iload CC (jd ddL_isSet 86 rfl) 1 rfl ?_
            refine jr_if_le 176 CC (jd ddL_isSet 87 rfl) (by decide) (fun c46 => ?_) (fun c46 => ?_)
            · have n46 := jle_of (a := (kc % 7)) (b := 0) c46 (by omega) (by omega)
              refine jr_iconst (v := 0) CC (jd ddL_isSet 93 rfl) (by decide) ?_
              exact hJ31 _ (eB_f (fun q9 => q9.2.2.1.1 ((t1 _).mpr c46)))
            · have n46 := jle_not (a := (kc % 7)) (b := 0) c46 (by omega) (by omega)
              refine jr_iload CC (jd ddL_isSet 88 rfl) 0 rfl ?_
              refine jr_iload CC (jd ddL_isSet 89 rfl) 1 rfl ?_
              refine jr_icmp_lt 176 CC (jd ddL_isSet 90 rfl) (by decide) (fun c47 => ?_) (fun c47 => ?_)
              · refine jr_pc (pc' := 176) rfl ?_
                refine jr_iconst (v := 0) CC (jd ddL_isSet 93 rfl) (by decide) ?_
                exact hJ31 _ (eB_f (fun q9 => q9.2.2.2.1 c47))
              · refine jr_pc (pc' := 172) rfl ?_
                refine jr_iconst (v := 1) CC (jd ddL_isSet 91 rfl) (by decide) ?_
                refine jr_goto 177 CC (jd ddL_isSet 92 rfl) (by decide) ?_
                exact hJ31 _ (eB_t ⟨(jin_ch (by omega)).mpr c44, isLv_1 e3 c45, ⟨fun z9 => c46 ((t1 _).mp z9), nI_le (b := 100) (by omega) (by decide)⟩, c47, w_most (by omega)⟩)
    · have n4 := jeq_of (a := wh) (b := 0) c4 (by omega) (by omega)
      refine jr_iload CC (jd ddL_isSet 22 rfl) 7 rfl ?_
      refine jr_bipush (v := 104) CC (jd ddL_isSet 23 rfl) (by decide) ?_
      refine jr_irem CC (jd ddL_isSet 24 rfl) (by decide) ?_
      refine jr_st [.int (nI (kc % 104))] (jst1 (pk_rem (a := kc) (d := 104) (by omega) (by omega) (by omega))) ?_
      refine jr_iconst (v := 1) CC (jd ddL_isSet 25 rfl) (by decide) ?_
      refine jr_isub CC (jd ddL_isSet 26 rfl) ?_
      refine jr_istore [(9, .int ((nI (kc % 104)) - 1)), (8, .int v1), (7, .int ((nI (kb % 258)) - 129)), (6, .int (nI (ka % 3))), (0, .ref h0), (1, .int (nI wh)), (2, .int (nI ka)), (3, .int (nI kb)), (4, .int (nI kc)), (5, .int (nI kd))] CC (jd ddL_isSet 27 rfl) (by decide) rfl ?_
      have hJ49 : ∀ v48 : Int32, (eB (eEdge (nI (ka % 3)) ((nI (kb % 258)) - 129) ((nI (kc % 104)) - 1))) = v48 → J p l e { frames := 11, cells := 5, slots := 31, locals := 202 } s m args below meth c D A 12 Q [(h0, .inr (9, [.ref x1, .ref x2, .ref x3, .ref x4, .ref x5, .ref x6, .int fi]))] [(9, .int ((nI (kc % 104)) - 1)), (8, .int v1), (7, .int ((nI (kb % 258)) - 129)), (6, .int (nI (ka % 3))), (0, .ref h0), (1, .int (nI wh)), (2, .int (nI ka)), (3, .int (nI kb)), (4, .int (nI kc)), (5, .int (nI kd))] 79 [.int v48] 0 0 := by
        intro v48 e50
        have bv48 : v48 = 0 ∨ v48 = 1 := e50 ▸ (eB01 _)
        refine jr_istore [(10, .int v48), (9, .int ((nI (kc % 104)) - 1)), (8, .int v1), (7, .int ((nI (kb % 258)) - 129)), (6, .int (nI (ka % 3))), (0, .ref h0), (1, .int (nI wh)), (2, .int (nI ka)), (3, .int (nI kb)), (4, .int (nI kc)), (5, .int (nI kd))] CC (jd ddL_isSet 41 rfl) (by decide) rfl ?_
        refine jr_aload_n CC (jd ddL_isSet 42 rfl) 5 rfl ?_
        refine jr_iconst (v := 0) CC (jd ddL_isSet 43 rfl) (by decide) ?_
        refine jr_iload CC (jd ddL_isSet 44 rfl) 4 rfl ?_
        refine jr_iload CC (jd ddL_isSet 45 rfl) 3 rfl ?_
        refine jr_iload CC (jd ddL_isSet 46 rfl) 1 rfl ?_
        refine jr_iconst (v := 0) CC (jd ddL_isSet 47 rfl) (by decide) ?_
        refine jr_iload CC (jd ddL_isSet 48 rfl) 10 rfl ?_
        refine jr_iconst (v := 2) CC (jd ddL_isSet 49 rfl) (by decide) ?_
        refine jr_irem CC (jd ddL_isSet 50 rfl) (by decide) ?_
        refine jr_st [.int (nI (kd % 2)), .int 0, .int ((nI (kc % 104)) - 1), .int ((nI (kb % 258)) - 129), .int (nI (ka % 3)), .int 0, .ref h0] (jst1 (pk_rem (a := kd) (d := 2) (by omega) (by omega) (by omega))) ?_
        refine jr_pc (pc' := 94) rfl ?_
        refine jr_if_ne 101 CC (jd ddL_isSet 51 rfl) (by decide) (fun c51 => ?_) (fun c51 => ?_)
        · have n51 := jeq_not (a := (kd % 2)) (b := 0) c51 (by omega) (by omega)
          refine jr_iconst (v := 0) CC (jd ddL_isSet 54 rfl) (by decide) ?_
          refine jr_callW (rest := []) [.ref h0, .int 0, .int (nI (ka % 3)), .int ((nI (kb % 258)) - 129), .int ((nI (kc % 104)) - 1), .int 0, .int 0] CC (jd ddL_isSet 55 rfl) (jy_L_182 CC) (k_L_sets0 l t hfl h0 x1 x2 x3 x4 x5 x6 fi (nI (ka % 3)) ((nI (kb % 258)) - 129) ((nI (kc % 104)) - 1) 0 (by first | assumption | omega | decide)) [0] rfl (by decide) rfl rfl (by decide) (Nat.le_of_ble_eq_true rfl) (by rintro v u h; rcases h with ⟨z9_0, rfl, rfl⟩ | ⟨q3, z9_0, rfl, rfl⟩ <;> exact (show ([h0] : List Nat) = [h0] from rfl)) (fun _ _ h => h.elim) (fun _ _ h => h.elim) (fun v u h => ?_)
          rcases h with ⟨c52, rfl, rfl⟩ | ⟨q53, c54, rfl, rfl⟩
          · refine jr_norm [(h0, .inr (9, [.ref x1, .ref x2, .ref x3, .ref x4, .ref x5, .ref x6, .int fi]))] [.int (-20)] 105 4 23 rfl rfl rfl rfl rfl ?_
            refine jr_iload CC (jd ddL_isSet 56 rfl) 0 rfl ?_
            refine jr_if_eq 114 CC (jd ddL_isSet 57 rfl) (by decide) (fun _ => ?_) (fun h => absurd (eB_1 e50 c52) h)
            refine jr_bipush (v := (-20)) CC (jd ddL_isSet 60 rfl) (by decide) ?_
            refine jr_icmp_ne 123 CC (jd ddL_isSet 61 rfl) (by decide) (fun h => absurd h (by decide)) (fun _ => ?_)
            refine jr_iconst (v := 1) CC (jd ddL_isSet 62 rfl) (by decide) ?_
            refine jr_goto 124 CC (jd ddL_isSet 63 rfl) (by decide) ?_
            exact jr_zret rfl CC MM (jd ddL_isSet 65 rfl) rfl (by decide) (by decide) (Or.inl ⟨rfl, rfl⟩)
          · refine jr_norm [(h0, .inr (9, [.ref x1, .ref x2, .ref x3, .ref x4, .ref x5, .ref q53, .int fi])), (q53, .inr (1, jcond 1 (gE (nI (ka % 3)) ((nI (kb % 258)) - 129) ((nI (kc % 104)) - 1) 0)))] [.int 0] 105 4 23 rfl rfl rfl rfl rfl ?_
            refine jr_iload CC (jd ddL_isSet 56 rfl) 0 rfl ?_
            refine jr_if_eq 114 CC (jd ddL_isSet 57 rfl) (by decide) (fun h => absurd h (eB_0 e50 c54)) (fun _ => ?_)
            refine jr_iconst (v := 0) CC (jd ddL_isSet 58 rfl) (by decide) ?_
            refine jr_goto 116 CC (jd ddL_isSet 59 rfl) (by decide) ?_
            refine jr_icmp_ne 123 CC (jd ddL_isSet 61 rfl) (by decide) (fun h => absurd h (by decide)) (fun _ => ?_)
            refine jr_iconst (v := 1) CC (jd ddL_isSet 62 rfl) (by decide) ?_
            refine jr_goto 124 CC (jd ddL_isSet 63 rfl) (by decide) ?_
            exact jr_zret rfl CC MM (jd ddL_isSet 65 rfl) rfl (by decide) (by decide) (Or.inr ⟨q53, 1, (gE (nI (ka % 3)) ((nI (kb % 258)) - 129) ((nI (kc % 104)) - 1) 0), (Or.inl rfl), (cOK_E (nI (ka % 3)) ((nI (kb % 258)) - 129) ((nI (kc % 104)) - 1) (by decide)), rfl, rfl⟩)
        · have n51 := jeq_of (a := (kd % 2)) (b := 0) c51 (by omega) (by omega)
          refine jr_iconst (v := 1) CC (jd ddL_isSet 52 rfl) (by decide) ?_
          refine jr_goto 102 CC (jd ddL_isSet 53 rfl) (by decide) ?_
          refine jr_callW (rest := []) [.ref h0, .int 0, .int (nI (ka % 3)), .int ((nI (kb % 258)) - 129), .int ((nI (kc % 104)) - 1), .int 0, .int 1] CC (jd ddL_isSet 55 rfl) (jy_L_182 CC) (k_L_sets0 l t hfl h0 x1 x2 x3 x4 x5 x6 fi (nI (ka % 3)) ((nI (kb % 258)) - 129) ((nI (kc % 104)) - 1) 1 (by first | assumption | omega | decide)) [0] rfl (by decide) rfl rfl (by decide) (Nat.le_of_ble_eq_true rfl) (by rintro v u h; rcases h with ⟨z9_0, rfl, rfl⟩ | ⟨q3, z9_0, rfl, rfl⟩ <;> exact (show ([h0] : List Nat) = [h0] from rfl)) (fun _ _ h => h.elim) (fun _ _ h => h.elim) (fun v u h => ?_)
          rcases h with ⟨c57, rfl, rfl⟩ | ⟨q58, c59, rfl, rfl⟩
          · refine jr_norm [(h0, .inr (9, [.ref x1, .ref x2, .ref x3, .ref x4, .ref x5, .ref x6, .int fi]))] [.int (-20)] 105 4 23 rfl rfl rfl rfl rfl ?_
            refine jr_iload CC (jd ddL_isSet 56 rfl) 0 rfl ?_
            refine jr_if_eq 114 CC (jd ddL_isSet 57 rfl) (by decide) (fun _ => ?_) (fun h => absurd (eB_1 e50 c57) h)
            refine jr_bipush (v := (-20)) CC (jd ddL_isSet 60 rfl) (by decide) ?_
            refine jr_icmp_ne 123 CC (jd ddL_isSet 61 rfl) (by decide) (fun h => absurd h (by decide)) (fun _ => ?_)
            refine jr_iconst (v := 1) CC (jd ddL_isSet 62 rfl) (by decide) ?_
            refine jr_goto 124 CC (jd ddL_isSet 63 rfl) (by decide) ?_
            exact jr_zret rfl CC MM (jd ddL_isSet 65 rfl) rfl (by decide) (by decide) (Or.inl ⟨rfl, rfl⟩)
          · refine jr_norm [(h0, .inr (9, [.ref x1, .ref x2, .ref x3, .ref x4, .ref x5, .ref q58, .int fi])), (q58, .inr (1, jcond 1 (gE (nI (ka % 3)) ((nI (kb % 258)) - 129) ((nI (kc % 104)) - 1) 1)))] [.int 0] 105 4 23 rfl rfl rfl rfl rfl ?_
            refine jr_iload CC (jd ddL_isSet 56 rfl) 0 rfl ?_
            refine jr_if_eq 114 CC (jd ddL_isSet 57 rfl) (by decide) (fun h => absurd h (eB_0 e50 c59)) (fun _ => ?_)
            refine jr_iconst (v := 0) CC (jd ddL_isSet 58 rfl) (by decide) ?_
            refine jr_goto 116 CC (jd ddL_isSet 59 rfl) (by decide) ?_
            refine jr_icmp_ne 123 CC (jd ddL_isSet 61 rfl) (by decide) (fun h => absurd h (by decide)) (fun _ => ?_)
            refine jr_iconst (v := 1) CC (jd ddL_isSet 62 rfl) (by decide) ?_
            refine jr_goto 124 CC (jd ddL_isSet 63 rfl) (by decide) ?_
            exact jr_zret rfl CC MM (jd ddL_isSet 65 rfl) rfl (by decide) (by decide) (Or.inr ⟨q58, 1, (gE (nI (ka % 3)) ((nI (kb % 258)) - 129) ((nI (kc % 104)) - 1) 1), (Or.inl rfl), (cOK_E (nI (ka % 3)) ((nI (kb % 258)) - 129) ((nI (kc % 104)) - 1) (by decide)), rfl, rfl⟩)
      refine jr_norm [(h0, .inr (9, [.ref x1, .ref x2, .ref x3, .ref x4, .ref x5, .ref x6, .int fi]))] [] 51 0 0 rfl rfl rfl rfl rfl ?_
      refine jr_iload CC (jd ddL_isSet 28 rfl) 3 rfl ?_
      refine jr_iconst (v := 2) CC (jd ddL_isSet 29 rfl) (by decide) ?_
      refine jr_icmp_ge 78 CC (jd ddL_isSet 30 rfl) (by decide) (fun c62 => ?_) (fun c62 => ?_)
      · have n62 := jle_of (a := 2) (b := (ka % 3)) c62 (by omega) (by omega)
        refine jr_iconst (v := 0) CC (jd ddL_isSet 40 rfl) (by decide) ?_
        exact hJ49 _ (eB_f (fun q9 => (jin_ch (by omega)).mp q9.1 c62))
      · have n62 := jle_not (a := 2) (b := (ka % 3)) c62 (by omega) (by omega)
        refine jr_iload CC (jd ddL_isSet 31 rfl) 1 rfl ?_
        refine jr_if_eq 78 CC (jd ddL_isSet 32 rfl) (by decide) (fun c63 => ?_) (fun c63 => ?_)
        · refine jr_iconst (v := 0) CC (jd ddL_isSet 40 rfl) (by decide) ?_
          exact hJ49 _ (eB_f (fun q9 => isLv_0 e3 c63 q9.2.1))
        · refine jr_iload CC (jd ddL_isSet 33 rfl) 0 rfl ?_
          refine jr_if_lt 78 CC (jd ddL_isSet 34 rfl) (by decide) (fun c64 => ?_) (fun c64 => ?_)
          · refine jr_iconst (v := 0) CC (jd ddL_isSet 40 rfl) (by decide) ?_
            exact hJ49 _ (eB_f (fun q9 => q9.2.2.1 c64))
          · refine jr_iload CC (jd ddL_isSet 35 rfl) 0 rfl ?_
            refine jr_bipush (v := 101) CC (jd ddL_isSet 36 rfl) (by decide) ?_
            refine jr_icmp_ge 78 CC (jd ddL_isSet 37 rfl) (by decide) (fun c65 => ?_) (fun c65 => ?_)
            · refine jr_pc (pc' := 78) rfl ?_
              refine jr_iconst (v := 0) CC (jd ddL_isSet 40 rfl) (by decide) ?_
              exact hJ49 _ (eB_f (fun q9 => (t101 _).mp q9.2.2.2 c65))
            · refine jr_pc (pc' := 74) rfl ?_
              refine jr_iconst (v := 1) CC (jd ddL_isSet 38 rfl) (by decide) ?_
              refine jr_goto 79 CC (jd ddL_isSet 39 rfl) (by decide) ?_
              exact hJ49 _ (eB_t ⟨(jin_ch (by omega)).mpr c62, isLv_1 e3 c63, c64, (t101 _).mpr c65⟩)
  refine jr_norm [(h0, .inr (9, [.ref x1, .ref x2, .ref x3, .ref x4, .ref x5, .ref x6, .int fi]))] [] 16 0 0 rfl rfl rfl rfl rfl ?_
  refine jr_iload CC (jd ddL_isSet 10 rfl) 0 rfl ?_
  refine jr_bipush (v := (-128)) CC (jd ddL_isSet 11 rfl) (by decide) ?_
  refine jr_icmp_lt 35 CC (jd ddL_isSet 12 rfl) (by decide) (fun c66 => ?_) (fun c66 => ?_)
  · refine jr_iconst (v := 0) CC (jd ddL_isSet 18 rfl) (by decide) ?_
    exact hJ2 _ (by first | (simp [isLv, c66]; done))
  · refine jr_iload CC (jd ddL_isSet 13 rfl) 0 rfl ?_
    refine jr_sipush (v := 128) CC (jd ddL_isSet 14 rfl) (by decide) ?_
    refine jr_icmp_ge 35 CC (jd ddL_isSet 15 rfl) (by decide) (fun c67 => ?_) (fun c67 => ?_)
    · refine jr_iconst (v := 0) CC (jd ddL_isSet 18 rfl) (by decide) ?_
      exact hJ2 _ (by first | (simp [isLv, c66, c67]; done))
    · refine jr_iconst (v := 1) CC (jd ddL_isSet 16 rfl) (by decide) ?_
      refine jr_goto 36 CC (jd ddL_isSet 17 rfl) (by decide) ?_
      exact hJ2 _ (by first | (simp [isLv, c66, c67]; done))
