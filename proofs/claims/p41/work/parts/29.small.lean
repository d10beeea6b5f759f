theorem jst1 {a b : Int32} {rest : List Value} (h : a = b) : (.int a :: rest : List Value) = .int b :: rest := by rw [h]
set_option maxHeartbeats 8000000 in
set_option maxRecDepth 100000 in
theorem k_L_came (l : Launch) (t : Nat → ClassId) (hfl : l.stackTraces = false) (bb : Nat) (ba : Nat) (bx : Nat) (bg : Nat) (fb : Nat → Int32) (fa : Nat → Int32) (fx : Nat → Int32) (g : Nat → Int32) (G : Nat) (n : Nat) (z : Nat) (B : Nat → Nat) (F : Nat → Int32) (hB : segB n G B fb) (hS : segR n G B fa fx F) (hg0 : g 0 = nI G) (hz : z < n) (hG : G ≤ 60) (hn : n ≤ 100000) : jKx l t yL_came (Cond.code yL_came cL_came 7 (some .int) :: jWS) { frames := 0, cells := 0, slots := 0, locals := 0 } [.ref bb, .ref ba, .ref bx, .ref bg, .int (nI z)] [(bb, .inl (t 0, 64, .inl fb)), (ba, .inl (t 0, 64, .inl fa)), (bx, .inl (t 0, 64, .inl fx)), (bg, .inl (t 0, 7, .inl g))] (fun vv uu => (vv = some (.int (F z)) ∧ uu = [(bb, .inl (t 0, 64, .inl fb)), (ba, .inl (t 0, 64, .inl fa)), (bx, .inl (t 0, 64, .inl fx)), (bg, .inl (t 0, 7, .inl g))])) (fun _ _ => False) := by
  refine jK_of hfl (by decide +kernel) (Nat.le_of_ble_eq_true rfl) ?_
  intro p e s m args below meth c D A Q CC MM
  refine jr_norm0 [(0, .ref bb), (1, .ref ba), (2, .ref bx), (3, .ref bg), (4, .int (nI z))] rfl ?_
  have hG1 := hB.2.1 (by omega)
  refine jr_iconst (v := 0) CC (jd ddL_came 0 rfl) (by decide) ?_
  refine jr_istore [(5, .int 0), (0, .ref bb), (1, .ref ba), (2, .ref bx), (3, .ref bg), (4, .int (nI z))] CC (jd ddL_came 1 rfl) (by decide) rfl ?_
  have hL1 : ∀ (d9 : Nat) (k : Nat) (hk : k < G) (hBk : B k ≤ z), G - k < d9 → J p l e { frames := 0, cells := 0, slots := 0, locals := 0 } s m args below meth c D A 7 Q [(bb, .inl (t 0, 64, .inl fb)), (ba, .inl (t 0, 64, .inl fa)), (bx, .inl (t 0, 64, .inl fx)), (bg, .inl (t 0, 7, .inl g))] [(0, .ref bb), (1, .ref ba), (2, .ref bx), (3, .ref bg), (4, .int (nI z)), (5, .int (nI k))] 3 [] 0 0 := by
    intro d9
    induction d9 with
    | zero => intro k hk hBk hmu; exact absurd hmu (Nat.not_lt_zero _)
    | succ d9 ih3 =>
      intro k hk hBk hmu
      refine jr_iload CC (jd ddL_came 2 rfl) 5 rfl ?_
      refine jr_iconst (v := 1) CC (jd ddL_came 3 rfl) (by decide) ?_
      refine jr_iadd CC (jd ddL_came 4 rfl) ?_
      refine jr_st [.int (nI (k + 1))] (jst1 (nI_add k 1)) ?_
      refine jr_aload_n CC (jd ddL_came 5 rfl) 3 rfl ?_
      refine jr_iconst (v := 0) CC (jd ddL_came 6 rfl) (by decide) ?_
      refine jr_ialdN CC (jd ddL_came 7 rfl) 3 0 rfl (by decide) (by decide) (by decide) ?_
      refine jr_st [.int (nI G), .int (nI (k + 1))] (jst1 hg0) ?_
      refine jr_icmp_ge 30 CC (jd ddL_came 8 rfl) (by decide) (fun c2 => ?_) (fun c2 => ?_)
      · have n2 := jle_of (a := G) (b := (k + 1)) c2 (by omega) (by omega)
        refine jr_aload_n CC (jd ddL_came 18 rfl) 1 rfl ?_
        refine jr_iload CC (jd ddL_came 19 rfl) 5 rfl ?_
        refine jr_ialdN CC (jd ddL_came 20 rfl) 1 k rfl rfl (by omega) (by decide) ?_
        refine jr_pc (pc' := 34) rfl ?_
        refine jr_aload_n CC (jd ddL_came 21 rfl) 2 rfl ?_
        refine jr_iload CC (jd ddL_came 22 rfl) 5 rfl ?_
        refine jr_ialdN CC (jd ddL_came 23 rfl) 2 k rfl rfl (by omega) (by decide) ?_
        refine jr_iload CC (jd ddL_came 24 rfl) 4 rfl ?_
        refine jr_aload_n CC (jd ddL_came 25 rfl) 0 rfl ?_
        refine jr_iload CC (jd ddL_came 26 rfl) 5 rfl ?_
        refine jr_ialdN CC (jd ddL_came 27 rfl) 0 k rfl rfl (by omega) (by decide) ?_
        refine jr_st [.int (nI (B k)), .int (nI z), .int (fx k), .int (fa k)] (jst1 ((hB.2.2 k hk).1)) ?_
        refine jr_isub CC (jd ddL_came 28 rfl) ?_
        refine jr_st [.int (nI (z - (B k))), .int (fx k), .int (fa k)] (jst1 (pk_sub (a := z) (b := (B k)) (by omega))) ?_
        refine jr_imul CC (jd ddL_came 29 rfl) ?_
        refine jr_iadd CC (jd ddL_came 30 rfl) ?_
        refine jr_pc (pc' := 47) rfl ?_
        refine jr_istore [(6, .int ((fa k) + ((fx k) * (nI (z - (B k)))))), (0, .ref bb), (1, .ref ba), (2, .ref bx), (3, .ref bg), (4, .int (nI z)), (5, .int (nI k))] CC (jd ddL_came 31 rfl) (by decide) rfl ?_
        refine jr_iload CC (jd ddL_came 32 rfl) 0 rfl ?_
        refine jr_bipush (v := (-128)) CC (jd ddL_came 33 rfl) (by decide) ?_
        refine jr_icmp_ge 61 CC (jd ddL_came 34 rfl) (by decide) (fun c3 => ?_) (fun c3 => ?_)
        · refine jr_iload CC (jd ddL_came 37 rfl) 0 rfl ?_
          refine jr_bipush (v := 127) CC (jd ddL_came 38 rfl) (by decide) ?_
          refine jr_icmp_le 73 CC (jd ddL_came 39 rfl) (by decide) (fun c4 => ?_) (fun c4 => ?_)
          · refine jr_iload CC (jd ddL_came 42 rfl) 0 rfl ?_
            exact jr_iret CC MM (jd ddL_came 43 rfl) rfl (by decide) (by decide) ⟨by rw [hS k hk z hBk hz (fun h5 => by omega), hld, if_neg (Int32.not_lt.mpr c3), if_neg (Int32.not_lt.mpr c4)], rfl⟩
          · refine jr_bipush (v := 127) CC (jd ddL_came 40 rfl) (by decide) ?_
            refine jr_goto 75 CC (jd ddL_came 41 rfl) (by decide) ?_
            exact jr_iret CC MM (jd ddL_came 43 rfl) rfl (by decide) (by decide) ⟨by rw [hS k hk z hBk hz (fun h5 => by omega), hld, if_neg (Int32.not_lt.mpr c3), if_pos (Int32.not_le.mp c4)], rfl⟩
        · refine jr_bipush (v := (-128)) CC (jd ddL_came 35 rfl) (by decide) ?_
          refine jr_goto 75 CC (jd ddL_came 36 rfl) (by decide) ?_
          exact jr_iret CC MM (jd ddL_came 43 rfl) rfl (by decide) (by decide) ⟨by rw [hS k hk z hBk hz (fun h5 => by omega), hld, if_pos (Int32.not_le.mp c3)], rfl⟩
      · have n2 := jle_not (a := G) (b := (k + 1)) c2 (by omega) (by omega)
        refine jr_aload_n CC (jd ddL_came 9 rfl) 0 rfl ?_
        refine jr_iload CC (jd ddL_came 10 rfl) 5 rfl ?_
        refine jr_iconst (v := 1) CC (jd ddL_came 11 rfl) (by decide) ?_
        refine jr_pc (pc' := 17) rfl ?_
        refine jr_iadd CC (jd ddL_came 12 rfl) ?_
        refine jr_st [.int (nI (k + 1)), .ref bb] (jst1 (nI_add k 1)) ?_
        refine jr_ialdN CC (jd ddL_came 13 rfl) 0 (k + 1) rfl rfl (by omega) (by decide) ?_
        refine jr_st [.int (nI (B (k + 1)))] (jst1 ((hB.2.2 (k + 1) (by omega)).1)) ?_
        have hb9 := (hB.2.2 (k + 1) (by omega)).2
        refine jr_iload CC (jd ddL_came 14 rfl) 4 rfl ?_
        refine jr_icmp_gt 30 CC (jd ddL_came 15 rfl) (by decide) (fun c5 => ?_) (fun c5 => ?_)
        · have n5 := jlt_of (a := z) (b := (B (k + 1))) c5 (by omega) (by omega)
          refine jr_aload_n CC (jd ddL_came 18 rfl) 1 rfl ?_
          refine jr_iload CC (jd ddL_came 19 rfl) 5 rfl ?_
          refine jr_ialdN CC (jd ddL_came 20 rfl) 1 k rfl rfl (by omega) (by decide) ?_
          refine jr_aload_n CC (jd ddL_came 21 rfl) 2 rfl ?_
          refine jr_iload CC (jd ddL_came 22 rfl) 5 rfl ?_
          refine jr_ialdN CC (jd ddL_came 23 rfl) 2 k rfl rfl (by omega) (by decide) ?_
          refine jr_pc (pc' := 38) rfl ?_
          refine jr_iload CC (jd ddL_came 24 rfl) 4 rfl ?_
          refine jr_aload_n CC (jd ddL_came 25 rfl) 0 rfl ?_
          refine jr_iload CC (jd ddL_came 26 rfl) 5 rfl ?_
          refine jr_ialdN CC (jd ddL_came 27 rfl) 0 k rfl rfl (by omega) (by decide) ?_
          refine jr_st [.int (nI (B k)), .int (nI z), .int (fx k), .int (fa k)] (jst1 ((hB.2.2 k hk).1)) ?_
          refine jr_isub CC (jd ddL_came 28 rfl) ?_
          refine jr_st [.int (nI (z - (B k))), .int (fx k), .int (fa k)] (jst1 (pk_sub (a := z) (b := (B k)) (by omega))) ?_
          refine jr_imul CC (jd ddL_came 29 rfl) ?_
          refine jr_iadd CC (jd ddL_came 30 rfl) ?_
          refine jr_istore [(6, .int ((fa k) + ((fx k) * (nI (z - (B k)))))), (0, .ref bb), (1, .ref ba), (2, .ref bx), (3, .ref bg), (4, .int (nI z)), (5, .int (nI k))] CC (jd ddL_came 31 rfl) (by decide) rfl ?_
          refine jr_iload CC (jd ddL_came 32 rfl) 0 rfl ?_
          refine jr_bipush (v := (-128)) CC (jd ddL_came 33 rfl) (by decide) ?_
          refine jr_pc (pc' := 53) rfl ?_
          refine jr_icmp_ge 61 CC (jd ddL_came 34 rfl) (by decide) (fun c6 => ?_) (fun c6 => ?_)
          · refine jr_iload CC (jd ddL_came 37 rfl) 0 rfl ?_
            refine jr_bipush (v := 127) CC (jd ddL_came 38 rfl) (by decide) ?_
            refine jr_icmp_le 73 CC (jd ddL_came 39 rfl) (by decide) (fun c7 => ?_) (fun c7 => ?_)
            · refine jr_iload CC (jd ddL_came 42 rfl) 0 rfl ?_
              exact jr_iret CC MM (jd ddL_came 43 rfl) rfl (by decide) (by decide) ⟨by rw [hS k hk z hBk hz (fun h5 => by omega), hld, if_neg (Int32.not_lt.mpr c6), if_neg (Int32.not_lt.mpr c7)], rfl⟩
            · refine jr_bipush (v := 127) CC (jd ddL_came 40 rfl) (by decide) ?_
              refine jr_goto 75 CC (jd ddL_came 41 rfl) (by decide) ?_
              exact jr_iret CC MM (jd ddL_came 43 rfl) rfl (by decide) (by decide) ⟨by rw [hS k hk z hBk hz (fun h5 => by omega), hld, if_neg (Int32.not_lt.mpr c6), if_pos (Int32.not_le.mp c7)], rfl⟩
          · refine jr_bipush (v := (-128)) CC (jd ddL_came 35 rfl) (by decide) ?_
            refine jr_goto 75 CC (jd ddL_came 36 rfl) (by decide) ?_
            exact jr_iret CC MM (jd ddL_came 43 rfl) rfl (by decide) (by decide) ⟨by rw [hS k hk z hBk hz (fun h5 => by omega), hld, if_pos (Int32.not_le.mp c6)], rfl⟩
        · have n5 := jlt_not (a := z) (b := (B (k + 1))) c5 (by omega) (by omega)
          refine jr_iinc [(5, .int (nI (k + 1))), (0, .ref bb), (1, .ref ba), (2, .ref bx), (3, .ref bg), (4, .int (nI z))] CC (jd ddL_came 16 rfl) 5 rfl (nI_1 _) (by decide) rfl ?_
          refine jr_goto 3 CC (jd ddL_came 17 rfl) (by decide) ?_
          refine jr_norm [(bb, .inl (t 0, 64, .inl fb)), (ba, .inl (t 0, 64, .inl fa)), (bx, .inl (t 0, 64, .inl fx)), (bg, .inl (t 0, 7, .inl g))] [] 3 0 0 rfl rfl rfl rfl rfl ?_
          refine jr_lv [1, 2, 3, 4, 5, 0] [(0, .ref bb), (1, .ref ba), (2, .ref bx), (3, .ref bg), (4, .int (nI z)), (5, .int (nI (k + 1)))] rfl ?_
          exact ih3 (k + 1) (by omega) (by omega) (by omega)
  refine jr_norm [(bb, .inl (t 0, 64, .inl fb)), (ba, .inl (t 0, 64, .inl fa)), (bx, .inl (t 0, 64, .inl fx)), (bg, .inl (t 0, 7, .inl g))] [] 3 0 0 rfl rfl rfl rfl rfl ?_
  refine jr_lv [1, 2, 3, 4, 5, 0] [(0, .ref bb), (1, .ref ba), (2, .ref bx), (3, .ref bg), (4, .int (nI z)), (5, .int (nI 0))] rfl ?_
  exact hL1 (G - 0 + 1) 0 hG1 (by rw [hB.1 hG1]; exact Nat.zero_le _) (Nat.lt_succ_self _)
set_option maxHeartbeats 8000000 in
set_option maxRecDepth 100000 in
theorem k_L_isRising (l : Launch) (t : Nat → ClassId) (hfl : l.stackTraces = false) (h0 : Nat) (x1 : Nat) (x2 : Nat) (x3 : Nat) (x4 : Nat) (x5 : Nat) (x6 : Nat) (fi : Int32) (M : Nat → Int32) (ca : Nat) (cg : Option Nat) (ad : Nat → Nat) (K : Nat → JCap) (e0 : Nat) (e1 : Nat) (e2 : Nat) (e3 : Nat) (pn : Nat) (ht : Int32) (KA : Nat → Int32) (DA : Nat → Int32) (CA : Nat → Int32) (ST : Nat → Int32) (RW : Nat → Int32) (m8 : Nat) (rr : Nat) (nn : Nat) (hM1 : M 1 = nI m8) (hm8 : m8 ≤ 8) (hK : recOK K m8) (hrr : rr < m8) (hnn : (K rr).2.2.1 = nI nn) (hn1 : 1 ≤ nn) (hn49 : nn ≤ 49) (hpn : pn ≤ 16) (hf : ∀ j, j < nn → rIn (jat (K rr) 0 j)) : jKx l t yL_isRising (Cond.code yL_isRising cL_isRising 7 (some .boolean) :: jWS) { frames := 10, cells := 158, slots := 948, locals := 209 } [.ref h0, .int (nI rr), .int (nI nn)] (([(h0, .inr (9, [.ref x1, .ref x2, .ref x3, .ref x4, .ref x5, .ref x6, .int fi])), (x2, .inr (5, jmem M ca cg)), (ca, .inl (t 2, 8, .inr (.inr (.inr (.inr (jcaps ad)))))), (x4, .inr (2, [.ref e0, .ref e1, .ref e2, .ref e3, .int (nI pn), .int ht])), (e0, .inl (t 0, 16, .inl KA)), (e1, .inl (t 0, 16, .inl DA)), (e2, .inl (t 0, 16, .inl CA)), (e3, .inl (t 0, 16, .inl ST)), (x5, .inl (t 0, 49, .inl RW))] : va_W) ++ jpool t ad K) (fun vv uu => (∃ CA9 : Nat → Int32, ∃ ST9 : Nat → Int32, ∃ RW9 : Nat → Int32, vv = some (.int 1) ∧ uu = (([(h0, .inr (9, [.ref x1, .ref x2, .ref x3, .ref x4, .ref x5, .ref x6, .int fi])), (x2, .inr (5, jmem M ca cg)), (ca, .inl (t 2, 8, .inr (.inr (.inr (.inr (jcaps ad)))))), (x4, .inr (2, [.ref e0, .ref e1, .ref e2, .ref e3, .int (nI pn), .int ht])), (e0, .inl (t 0, 16, .inl KA)), (e1, .inl (t 0, 16, .inl DA)), (e2, .inl (t 0, 16, .inl CA9)), (e3, .inl (t 0, 16, .inl ST9)), (x5, .inl (t 0, 49, .inl RW9))] : va_W) ++ jpool t ad K))) (fun _ _ => False) := by
  refine jK_of hfl (by decide +kernel) (Nat.le_of_ble_eq_true rfl) ?_
  intro p e s m args below meth c D A Q CC MM
  refine jr_norm0 [(0, .ref h0), (1, .int (nI rr)), (2, .int (nI nn))] rfl ?_
  refine jr_iconst (v := (-1)) CC (jd ddL_isRising 0 rfl) (by decide) ?_
  refine jr_istore_n 3 [(3, .int (-1)), (0, .ref h0), (1, .int (nI rr)), (2, .int (nI nn))] CC (jd ddL_isRising 1 rfl) rfl (by decide) rfl ?_
  refine jr_ldc CC (jk_L_107 CC.2.2.2.2.1) (jd ddL_isRising 2 rfl) ?_
  refine jr_istore [(4, .int (-2000000005)), (3, .int (-1)), (0, .ref h0), (1, .int (nI rr)), (2, .int (nI nn))] CC (jd ddL_isRising 3 rfl) (by decide) rfl ?_
  refine jr_iconst (v := 0) CC (jd ddL_isRising 4 rfl) (by decide) ?_
  refine jr_istore [(5, .int 0), (4, .int (-2000000005)), (3, .int (-1)), (0, .ref h0), (1, .int (nI rr)), (2, .int (nI nn))] CC (jd ddL_isRising 5 rfl) (by decide) rfl ?_
  have hL1 : ∀ (d9 : Nat) (k : Nat) (la : Int32) (du : Int32) (hk : k ≤ nn) (hq : riseI (jat (K rr) 0) nn k la du), nn - k < d9 → J p l e { frames := 10, cells := 158, slots := 948, locals := 209 } s m args below meth c D A 7 Q (([(h0, .inr (9, [.ref x1, .ref x2, .ref x3, .ref x4, .ref x5, .ref x6, .int fi])), (x2, .inr (5, jmem M ca cg)), (ca, .inl (t 2, 8, .inr (.inr (.inr (.inr (jcaps ad)))))), (x4, .inr (2, [.ref e0, .ref e1, .ref e2, .ref e3, .int (nI pn), .int ht])), (e0, .inl (t 0, 16, .inl KA)), (e1, .inl (t 0, 16, .inl DA)), (e2, .inl (t 0, 16, .inl CA)), (e3, .inl (t 0, 16, .inl ST)), (x5, .inl (t 0, 49, .inl RW))] : va_W) ++ jpool t ad K) [(0, .ref h0), (1, .int (nI rr)), (2, .int (nI nn)), (3, .int la), (4, .int du), (5, .int (nI k))] 9 [] (3 * k + 0) (18 * k + 0) := by
    intro d9
    induction d9 with
    | zero => intro k la du hk hq hmu; exact absurd hmu (Nat.not_lt_zero _)
    | succ d9 ih9 =>
      intro k la du hk hq hmu
      refine jr_iload CC (jd ddL_isRising 6 rfl) 5 rfl ?_
      refine jr_iload_n CC (jd ddL_isRising 7 rfl) 2 rfl ?_
      refine jr_icmp_ge 71 CC (jd ddL_isRising 8 rfl) (by decide) (fun c2 => ?_) (fun c2 => ?_)
      · have n2 := jle_of (a := nn) (b := k) c2 (by omega) (by omega)
        refine jr_aload_n CC (jd ddL_isRising 37 rfl) 0 rfl ?_
        refine jr_iconst (v := 3) CC (jd ddL_isRising 38 rfl) (by decide) ?_
        refine jr_iload_n CC (jd ddL_isRising 39 rfl) 1 rfl ?_
        refine jr_iconst (v := 0) CC (jd ddL_isRising 40 rfl) (by decide) ?_
        refine jr_bipush (v := (-3)) CC (jd ddL_isRising 41 rfl) (by decide) ?_
        refine jr_iconst (v := 4) CC (jd ddL_isRising 42 rfl) (by decide) ?_
        refine jr_norm (([(h0, .inr (9, [.ref x1, .ref x2, .ref x3, .ref x4, .ref x5, .ref x6, .int fi])), (x2, .inr (5, jmem M ca cg)), (ca, .inl (t 2, 8, .inr (.inr (.inr (.inr (jcaps ad)))))), (x4, .inr (2, [.ref e0, .ref e1, .ref e2, .ref e3, .int (nI pn), .int ht])), (e0, .inl (t 0, 16, .inl KA)), (e1, .inl (t 0, 16, .inl DA)), (e2, .inl (t 0, 16, .inl CA)), (e3, .inl (t 0, 16, .inl ST)), (x5, .inl (t 0, 49, .inl RW))] : va_W) ++ jpool t ad K) [.int 4, .int (-3), .int 0, .int (nI rr), .int 3, .ref h0] 78 (3 * k + 0) (18 * k + 0) rfl rfl rfl rfl rfl ?_
        refine jr_callW (rest := []) [.ref h0, .int 3, .int (nI rr), .int 0, .int (-3), .int 4] CC (jd ddL_isRising 43 rfl) (jy_L_124 CC) (k_L_measured3 l t hfl h0 x1 x2 x3 x4 x5 x6 fi M ca cg ad K e0 e1 e2 e3 pn ht KA DA CA ST RW m8 (nI rr) 0 (-3) 4 hM1 hm8 hK hpn) ([0, 1, 2, 3, 4, 5, 6, 7, 8] ++ (List.range 32).map (fun i => 9 + i)) (jpool_isC 9 rfl (is := [0, 1, 2, 3, 4, 5, 6, 7, 8]) rfl (by decide)) (by decide) rfl rfl ⟨by decide, Nat.le_of_ble_eq_true rfl, show (3 * k + 0) + 4 ≤ 158 from by omega, show (18 * k + 0) + 24 ≤ 948 from by omega⟩ (Nat.le_of_ble_eq_true rfl) (by rintro v u h; rcases h with ⟨CA9, ST9, RW9, rfl, rfl⟩ <;> exact jpool_same rfl) (fun _ _ h => h.elim) (fun _ _ h => h.elim) (fun v u h => ?_)
        rcases h with ⟨zz3, zz4, zz5, rfl, rfl⟩
        refine jr_ws (jput [(h0, .inr (9, [.ref x1, .ref x2, .ref x3, .ref x4, .ref x5, .ref x6, .int fi])), (x2, .inr (5, jmem M ca cg)), (ca, .inl (t 2, 8, .inr (.inr (.inr (.inr (jcaps ad)))))), (x4, .inr (2, [.ref e0, .ref e1, .ref e2, .ref e3, .int (nI pn), .int ht])), (e0, .inl (t 0, 16, .inl KA)), (e1, .inl (t 0, 16, .inl DA)), (e2, .inl (t 0, 16, .inl CA)), (e3, .inl (t 0, 16, .inl ST)), (x5, .inl (t 0, 49, .inl RW))] [0, 1, 2, 3, 4, 5, 6, 7, 8] [(h0, .inr (9, [.ref x1, .ref x2, .ref x3, .ref x4, .ref x5, .ref x6, .int fi])), (x2, .inr (5, jmem M ca cg)), (ca, .inl (t 2, 8, .inr (.inr (.inr (.inr (jcaps ad)))))), (x4, .inr (2, [.ref e0, .ref e1, .ref e2, .ref e3, .int (nI pn), .int ht])), (e0, .inl (t 0, 16, .inl KA)), (e1, .inl (t 0, 16, .inl DA)), (e2, .inl (t 0, 16, .inl zz3)), (e3, .inl (t 0, 16, .inl zz4)), (x5, .inl (t 0, 49, .inl zz5))] ++ jpool t ad K) (jpool_after 9 rfl rfl rfl (by decide)) ?_
        refine jr_norm (([(h0, .inr (9, [.ref x1, .ref x2, .ref x3, .ref x4, .ref x5, .ref x6, .int fi])), (x2, .inr (5, jmem M ca cg)), (ca, .inl (t 2, 8, .inr (.inr (.inr (.inr (jcaps ad)))))), (x4, .inr (2, [.ref e0, .ref e1, .ref e2, .ref e3, .int (nI pn), .int ht])), (e0, .inl (t 0, 16, .inl KA)), (e1, .inl (t 0, 16, .inl DA)), (e2, .inl (t 0, 16, .inl zz3)), (e3, .inl (t 0, 16, .inl zz4)), (x5, .inl (t 0, 49, .inl zz5))] : va_W) ++ jpool t ad K) [.int (wP (eRise (M 1) (nI rr) 0 (-3) 4 ht (rowRise (rowOf KA DA pn 0 (K (nI rr).toNatClampNeg) RW ST CA).1 (-3) 4 (K (nI rr).toNatClampNeg).2.2.1)) ((rowRise (rowOf KA DA pn 0 (K (nI rr).toNatClampNeg) RW ST CA).1 (-3) 4 (K (nI rr).toNatClampNeg).2.2.1).getD 0) (-2000000030) (-2000000020) (-2000000010) (-2000000005))] 81 (3 * k + 4) (18 * k + 24) rfl rfl rfl rfl rfl ?_
        refine jr_st [.int ((jrise (jat (K rr) 0) (-3) 4 nn 0 (-1)).getD (-2000000005))] (jst1 (wm_ri hM1 hm8 hrr hnn hn49 KA DA RW ST CA pn ht _ _ _ _)) ?_
        refine jr_iload CC (jd ddL_isRising 44 rfl) 4 rfl ?_
        refine jr_icmp_ne 118 CC (jd ddL_isRising 45 rfl) (by decide) (fun h => absurd h (fun h9 => h9 (riseI_e hq (Or.inl (by omega))))) (fun _ => ?_)
        refine jr_aload_n CC (jd ddL_isRising 46 rfl) 0 rfl ?_
        refine jr_iconst (v := 3) CC (jd ddL_isRising 47 rfl) (by decide) ?_
        refine jr_iload_n CC (jd ddL_isRising 48 rfl) 1 rfl ?_
        refine jr_iconst (v := 0) CC (jd ddL_isRising 49 rfl) (by decide) ?_
        refine jr_iconst (v := 4) CC (jd ddL_isRising 50 rfl) (by decide) ?_
        refine jr_iconst (v := 4) CC (jd ddL_isRising 51 rfl) (by decide) ?_
        refine jr_norm (([(h0, .inr (9, [.ref x1, .ref x2, .ref x3, .ref x4, .ref x5, .ref x6, .int fi])), (x2, .inr (5, jmem M ca cg)), (ca, .inl (t 2, 8, .inr (.inr (.inr (.inr (jcaps ad)))))), (x4, .inr (2, [.ref e0, .ref e1, .ref e2, .ref e3, .int (nI pn), .int ht])), (e0, .inl (t 0, 16, .inl KA)), (e1, .inl (t 0, 16, .inl DA)), (e2, .inl (t 0, 16, .inl zz3)), (e3, .inl (t 0, 16, .inl zz4)), (x5, .inl (t 0, 49, .inl zz5))] : va_W) ++ jpool t ad K) [.int 4, .int 4, .int 0, .int (nI rr), .int 3, .ref h0] 92 (3 * k + 4) (18 * k + 24) rfl rfl rfl rfl rfl ?_
        refine jr_callW (rest := []) [.ref h0, .int 3, .int (nI rr), .int 0, .int 4, .int 4] CC (jd ddL_isRising 52 rfl) (jy_L_124 CC) (k_L_measured3 l t hfl h0 x1 x2 x3 x4 x5 x6 fi M ca cg ad K e0 e1 e2 e3 pn ht KA DA zz3 zz4 zz5 m8 (nI rr) 0 4 4 hM1 hm8 hK hpn) ([0, 1, 2, 3, 4, 5, 6, 7, 8] ++ (List.range 32).map (fun i => 9 + i)) (jpool_isC 9 rfl (is := [0, 1, 2, 3, 4, 5, 6, 7, 8]) rfl (by decide)) (by decide) rfl rfl ⟨by decide, Nat.le_of_ble_eq_true rfl, show (3 * k + 4) + 4 ≤ 158 from by omega, show (18 * k + 24) + 24 ≤ 948 from by omega⟩ (Nat.le_of_ble_eq_true rfl) (by rintro v u h; rcases h with ⟨CA9, ST9, RW9, rfl, rfl⟩ <;> exact jpool_same rfl) (fun _ _ h => h.elim) (fun _ _ h => h.elim) (fun v u h => ?_)
        rcases h with ⟨zz6, zz7, zz8, rfl, rfl⟩
        refine jr_ws (jput [(h0, .inr (9, [.ref x1, .ref x2, .ref x3, .ref x4, .ref x5, .ref x6, .int fi])), (x2, .inr (5, jmem M ca cg)), (ca, .inl (t 2, 8, .inr (.inr (.inr (.inr (jcaps ad)))))), (x4, .inr (2, [.ref e0, .ref e1, .ref e2, .ref e3, .int (nI pn), .int ht])), (e0, .inl (t 0, 16, .inl KA)), (e1, .inl (t 0, 16, .inl DA)), (e2, .inl (t 0, 16, .inl zz3)), (e3, .inl (t 0, 16, .inl zz4)), (x5, .inl (t 0, 49, .inl zz5))] [0, 1, 2, 3, 4, 5, 6, 7, 8] [(h0, .inr (9, [.ref x1, .ref x2, .ref x3, .ref x4, .ref x5, .ref x6, .int fi])), (x2, .inr (5, jmem M ca cg)), (ca, .inl (t 2, 8, .inr (.inr (.inr (.inr (jcaps ad)))))), (x4, .inr (2, [.ref e0, .ref e1, .ref e2, .ref e3, .int (nI pn), .int ht])), (e0, .inl (t 0, 16, .inl KA)), (e1, .inl (t 0, 16, .inl DA)), (e2, .inl (t 0, 16, .inl zz6)), (e3, .inl (t 0, 16, .inl zz7)), (x5, .inl (t 0, 49, .inl zz8))] ++ jpool t ad K) (jpool_after 9 rfl rfl rfl (by decide)) ?_
        refine jr_norm (([(h0, .inr (9, [.ref x1, .ref x2, .ref x3, .ref x4, .ref x5, .ref x6, .int fi])), (x2, .inr (5, jmem M ca cg)), (ca, .inl (t 2, 8, .inr (.inr (.inr (.inr (jcaps ad)))))), (x4, .inr (2, [.ref e0, .ref e1, .ref e2, .ref e3, .int (nI pn), .int ht])), (e0, .inl (t 0, 16, .inl KA)), (e1, .inl (t 0, 16, .inl DA)), (e2, .inl (t 0, 16, .inl zz6)), (e3, .inl (t 0, 16, .inl zz7)), (x5, .inl (t 0, 49, .inl zz8))] : va_W) ++ jpool t ad K) [.int (wP (eRise (M 1) (nI rr) 0 4 4 ht (rowRise (rowOf KA DA pn 0 (K (nI rr).toNatClampNeg) zz5 zz4 zz3).1 4 4 (K (nI rr).toNatClampNeg).2.2.1)) ((rowRise (rowOf KA DA pn 0 (K (nI rr).toNatClampNeg) zz5 zz4 zz3).1 4 4 (K (nI rr).toNatClampNeg).2.2.1).getD 0) (-2000000030) (-2000000020) (-2000000010) (-2000000005))] 95 (3 * k + 8) (18 * k + 48) rfl rfl rfl rfl rfl ?_
        refine jr_st [.int (-2000000020)] (jst1 (wm_ri4 hM1 hm8 hrr ht _ _ _ _ _ _)) ?_
        refine jr_ldc CC (jk_L_106 CC.2.2.2.2.1) (jd ddL_isRising 53 rfl) ?_
        refine jr_icmp_ne 118 CC (jd ddL_isRising 54 rfl) (by decide) (fun h => absurd h (by decide)) (fun _ => ?_)
        refine jr_aload_n CC (jd ddL_isRising 55 rfl) 0 rfl ?_
        refine jr_iconst (v := 0) CC (jd ddL_isRising 56 rfl) (by decide) ?_
        refine jr_iload_n CC (jd ddL_isRising 57 rfl) 1 rfl ?_
        refine jr_iconst (v := 3) CC (jd ddL_isRising 58 rfl) (by decide) ?_
        refine jr_iconst (v := 0) CC (jd ddL_isRising 59 rfl) (by decide) ?_
        refine jr_iconst (v := 0) CC (jd ddL_isRising 60 rfl) (by decide) ?_
        refine jr_norm (([(h0, .inr (9, [.ref x1, .ref x2, .ref x3, .ref x4, .ref x5, .ref x6, .int fi])), (x2, .inr (5, jmem M ca cg)), (ca, .inl (t 2, 8, .inr (.inr (.inr (.inr (jcaps ad)))))), (x4, .inr (2, [.ref e0, .ref e1, .ref e2, .ref e3, .int (nI pn), .int ht])), (e0, .inl (t 0, 16, .inl KA)), (e1, .inl (t 0, 16, .inl DA)), (e2, .inl (t 0, 16, .inl zz6)), (e3, .inl (t 0, 16, .inl zz7)), (x5, .inl (t 0, 49, .inl zz8))] : va_W) ++ jpool t ad K) [.int 0, .int 0, .int 3, .int (nI rr), .int 0, .ref h0] 106 (3 * k + 8) (18 * k + 48) rfl rfl rfl rfl rfl ?_
        refine jr_callW (rest := []) [.ref h0, .int 0, .int (nI rr), .int 3, .int 0, .int 0] CC (jd ddL_isRising 61 rfl) (jy_L_124 CC) (k_L_measured0 l t hfl h0 x1 x2 x3 x4 x5 x6 fi M ca cg ad K e0 e1 e2 e3 pn ht KA DA zz6 zz7 zz8 m8 (nI rr) 3 0 0 hM1 hm8 hK hpn) ([0, 1, 2, 3, 4, 5, 6, 7, 8] ++ (List.range 32).map (fun i => 9 + i)) (jpool_isC 9 rfl (is := [0, 1, 2, 3, 4, 5, 6, 7, 8]) rfl (by decide)) (by decide) rfl rfl ⟨by decide, Nat.le_of_ble_eq_true rfl, show (3 * k + 8) + 3 ≤ 158 from by omega, show (18 * k + 48) + 18 ≤ 948 from by omega⟩ (Nat.le_of_ble_eq_true rfl) (by rintro v u h; rcases h with ⟨CA9, ST9, RW9, rfl, rfl⟩ <;> exact jpool_same rfl) (fun _ _ h => h.elim) (fun _ _ h => h.elim) (fun v u h => ?_)
        rcases h with ⟨zz10, zz11, zz12, rfl, rfl⟩
        refine jr_ws (jput [(h0, .inr (9, [.ref x1, .ref x2, .ref x3, .ref x4, .ref x5, .ref x6, .int fi])), (x2, .inr (5, jmem M ca cg)), (ca, .inl (t 2, 8, .inr (.inr (.inr (.inr (jcaps ad)))))), (x4, .inr (2, [.ref e0, .ref e1, .ref e2, .ref e3, .int (nI pn), .int ht])), (e0, .inl (t 0, 16, .inl KA)), (e1, .inl (t 0, 16, .inl DA)), (e2, .inl (t 0, 16, .inl zz6)), (e3, .inl (t 0, 16, .inl zz7)), (x5, .inl (t 0, 49, .inl zz8))] [0, 1, 2, 3, 4, 5, 6, 7, 8] [(h0, .inr (9, [.ref x1, .ref x2, .ref x3, .ref x4, .ref x5, .ref x6, .int fi])), (x2, .inr (5, jmem M ca cg)), (ca, .inl (t 2, 8, .inr (.inr (.inr (.inr (jcaps ad)))))), (x4, .inr (2, [.ref e0, .ref e1, .ref e2, .ref e3, .int (nI pn), .int ht])), (e0, .inl (t 0, 16, .inl KA)), (e1, .inl (t 0, 16, .inl DA)), (e2, .inl (t 0, 16, .inl zz10)), (e3, .inl (t 0, 16, .inl zz11)), (x5, .inl (t 0, 49, .inl zz12))] ++ jpool t ad K) (jpool_after 9 rfl rfl rfl (by decide)) ?_
        refine jr_norm (([(h0, .inr (9, [.ref x1, .ref x2, .ref x3, .ref x4, .ref x5, .ref x6, .int fi])), (x2, .inr (5, jmem M ca cg)), (ca, .inl (t 2, 8, .inr (.inr (.inr (.inr (jcaps ad)))))), (x4, .inr (2, [.ref e0, .ref e1, .ref e2, .ref e3, .int (nI pn), .int ht])), (e0, .inl (t 0, 16, .inl KA)), (e1, .inl (t 0, 16, .inl DA)), (e2, .inl (t 0, 16, .inl zz10)), (e3, .inl (t 0, 16, .inl zz11)), (x5, .inl (t 0, 49, .inl zz12))] : va_W) ++ jpool t ad K) [.int (wP (eSrc (M 1) (nI rr) 3 ht) (rowLo (rowOf KA DA pn 3 (K (nI rr).toNatClampNeg) zz8 zz7 zz6).1 (K (nI rr).toNatClampNeg).2.2.1) (-2000000030) (-2000000020) (-2000000010) 0)] 109 (3 * k + 11) (18 * k + 66) rfl rfl rfl rfl rfl ?_
        refine jr_st [.int (-2000000020)] (jst1 (wm_bad hM1 hm8 hrr ht _ _ _ _ _)) ?_
        refine jr_ldc CC (jk_L_106 CC.2.2.2.2.1) (jd ddL_isRising 62 rfl) ?_
        refine jr_icmp_ne 118 CC (jd ddL_isRising 63 rfl) (by decide) (fun h => absurd h (by decide)) (fun _ => ?_)
        refine jr_iconst (v := 1) CC (jd ddL_isRising 64 rfl) (by decide) ?_
        refine jr_goto 119 CC (jd ddL_isRising 65 rfl) (by decide) ?_
        exact jr_zret rfl CC MM (jd ddL_isRising 67 rfl) rfl (show (3 * k + 11) ≤ 158 from by omega) (show (18 * k + 66) ≤ 948 from by omega) ⟨zz10, zz11, zz12, rfl, rfl⟩
      · have n2 := jle_not (a := nn) (b := k) c2 (by omega) (by omega)
        refine jr_iload CC (jd ddL_isRising 9 rfl) 4 rfl ?_
        refine jr_if_ge 71 CC (jd ddL_isRising 10 rfl) (by decide) (fun c14 => ?_) (fun c14 => ?_)
        · refine jr_aload_n CC (jd ddL_isRising 37 rfl) 0 rfl ?_
          refine jr_iconst (v := 3) CC (jd ddL_isRising 38 rfl) (by decide) ?_
          refine jr_iload_n CC (jd ddL_isRising 39 rfl) 1 rfl ?_
          refine jr_iconst (v := 0) CC (jd ddL_isRising 40 rfl) (by decide) ?_
          refine jr_bipush (v := (-3)) CC (jd ddL_isRising 41 rfl) (by decide) ?_
          refine jr_pc (pc' := 77) rfl ?_
          refine jr_iconst (v := 4) CC (jd ddL_isRising 42 rfl) (by decide) ?_
          refine jr_norm (([(h0, .inr (9, [.ref x1, .ref x2, .ref x3, .ref x4, .ref x5, .ref x6, .int fi])), (x2, .inr (5, jmem M ca cg)), (ca, .inl (t 2, 8, .inr (.inr (.inr (.inr (jcaps ad)))))), (x4, .inr (2, [.ref e0, .ref e1, .ref e2, .ref e3, .int (nI pn), .int ht])), (e0, .inl (t 0, 16, .inl KA)), (e1, .inl (t 0, 16, .inl DA)), (e2, .inl (t 0, 16, .inl CA)), (e3, .inl (t 0, 16, .inl ST)), (x5, .inl (t 0, 49, .inl RW))] : va_W) ++ jpool t ad K) [.int 4, .int (-3), .int 0, .int (nI rr), .int 3, .ref h0] 78 (3 * k + 0) (18 * k + 0) rfl rfl rfl rfl rfl ?_
          refine jr_callW (rest := []) [.ref h0, .int 3, .int (nI rr), .int 0, .int (-3), .int 4] CC (jd ddL_isRising 43 rfl) (jy_L_124 CC) (k_L_measured3 l t hfl h0 x1 x2 x3 x4 x5 x6 fi M ca cg ad K e0 e1 e2 e3 pn ht KA DA CA ST RW m8 (nI rr) 0 (-3) 4 hM1 hm8 hK hpn) ([0, 1, 2, 3, 4, 5, 6, 7, 8] ++ (List.range 32).map (fun i => 9 + i)) (jpool_isC 9 rfl (is := [0, 1, 2, 3, 4, 5, 6, 7, 8]) rfl (by decide)) (by decide) rfl rfl ⟨by decide, Nat.le_of_ble_eq_true rfl, show (3 * k + 0) + 4 ≤ 158 from by omega, show (18 * k + 0) + 24 ≤ 948 from by omega⟩ (Nat.le_of_ble_eq_true rfl) (by rintro v u h; rcases h with ⟨CA9, ST9, RW9, rfl, rfl⟩ <;> exact jpool_same rfl) (fun _ _ h => h.elim) (fun _ _ h => h.elim) (fun v u h => ?_)
          rcases h with ⟨zz15, zz16, zz17, rfl, rfl⟩
          refine jr_ws (jput [(h0, .inr (9, [.ref x1, .ref x2, .ref x3, .ref x4, .ref x5, .ref x6, .int fi])), (x2, .inr (5, jmem M ca cg)), (ca, .inl (t 2, 8, .inr (.inr (.inr (.inr (jcaps ad)))))), (x4, .inr (2, [.ref e0, .ref e1, .ref e2, .ref e3, .int (nI pn), .int ht])), (e0, .inl (t 0, 16, .inl KA)), (e1, .inl (t 0, 16, .inl DA)), (e2, .inl (t 0, 16, .inl CA)), (e3, .inl (t 0, 16, .inl ST)), (x5, .inl (t 0, 49, .inl RW))] [0, 1, 2, 3, 4, 5, 6, 7, 8] [(h0, .inr (9, [.ref x1, .ref x2, .ref x3, .ref x4, .ref x5, .ref x6, .int fi])), (x2, .inr (5, jmem M ca cg)), (ca, .inl (t 2, 8, .inr (.inr (.inr (.inr (jcaps ad)))))), (x4, .inr (2, [.ref e0, .ref e1, .ref e2, .ref e3, .int (nI pn), .int ht])), (e0, .inl (t 0, 16, .inl KA)), (e1, .inl (t 0, 16, .inl DA)), (e2, .inl (t 0, 16, .inl zz15)), (e3, .inl (t 0, 16, .inl zz16)), (x5, .inl (t 0, 49, .inl zz17))] ++ jpool t ad K) (jpool_after 9 rfl rfl rfl (by decide)) ?_
          refine jr_norm (([(h0, .inr (9, [.ref x1, .ref x2, .ref x3, .ref x4, .ref x5, .ref x6, .int fi])), (x2, .inr (5, jmem M ca cg)), (ca, .inl (t 2, 8, .inr (.inr (.inr (.inr (jcaps ad)))))), (x4, .inr (2, [.ref e0, .ref e1, .ref e2, .ref e3, .int (nI pn), .int ht])), (e0, .inl (t 0, 16, .inl KA)), (e1, .inl (t 0, 16, .inl DA)), (e2, .inl (t 0, 16, .inl zz15)), (e3, .inl (t 0, 16, .inl zz16)), (x5, .inl (t 0, 49, .inl zz17))] : va_W) ++ jpool t ad K) [.int (wP (eRise (M 1) (nI rr) 0 (-3) 4 ht (rowRise (rowOf KA DA pn 0 (K (nI rr).toNatClampNeg) RW ST CA).1 (-3) 4 (K (nI rr).toNatClampNeg).2.2.1)) ((rowRise (rowOf KA DA pn 0 (K (nI rr).toNatClampNeg) RW ST CA).1 (-3) 4 (K (nI rr).toNatClampNeg).2.2.1).getD 0) (-2000000030) (-2000000020) (-2000000010) (-2000000005))] 81 (3 * k + 4) (18 * k + 24) rfl rfl rfl rfl rfl ?_
          refine jr_st [.int ((jrise (jat (K rr) 0) (-3) 4 nn 0 (-1)).getD (-2000000005))] (jst1 (wm_ri hM1 hm8 hrr hnn hn49 KA DA RW ST CA pn ht _ _ _ _)) ?_
          refine jr_iload CC (jd ddL_isRising 44 rfl) 4 rfl ?_
          refine jr_icmp_ne 118 CC (jd ddL_isRising 45 rfl) (by decide) (fun h => absurd h (fun h9 => h9 (riseI_e hq (Or.inr c14)))) (fun _ => ?_)
          refine jr_aload_n CC (jd ddL_isRising 46 rfl) 0 rfl ?_
          refine jr_iconst (v := 3) CC (jd ddL_isRising 47 rfl) (by decide) ?_
          refine jr_iload_n CC (jd ddL_isRising 48 rfl) 1 rfl ?_
          refine jr_iconst (v := 0) CC (jd ddL_isRising 49 rfl) (by decide) ?_
          refine jr_iconst (v := 4) CC (jd ddL_isRising 50 rfl) (by decide) ?_
          refine jr_iconst (v := 4) CC (jd ddL_isRising 51 rfl) (by decide) ?_
          refine jr_norm (([(h0, .inr (9, [.ref x1, .ref x2, .ref x3, .ref x4, .ref x5, .ref x6, .int fi])), (x2, .inr (5, jmem M ca cg)), (ca, .inl (t 2, 8, .inr (.inr (.inr (.inr (jcaps ad)))))), (x4, .inr (2, [.ref e0, .ref e1, .ref e2, .ref e3, .int (nI pn), .int ht])), (e0, .inl (t 0, 16, .inl KA)), (e1, .inl (t 0, 16, .inl DA)), (e2, .inl (t 0, 16, .inl zz15)), (e3, .inl (t 0, 16, .inl zz16)), (x5, .inl (t 0, 49, .inl zz17))] : va_W) ++ jpool t ad K) [.int 4, .int 4, .int 0, .int (nI rr), .int 3, .ref h0] 92 (3 * k + 4) (18 * k + 24) rfl rfl rfl rfl rfl ?_
          refine jr_callW (rest := []) [.ref h0, .int 3, .int (nI rr), .int 0, .int 4, .int 4] CC (jd ddL_isRising 52 rfl) (jy_L_124 CC) (k_L_measured3 l t hfl h0 x1 x2 x3 x4 x5 x6 fi M ca cg ad K e0 e1 e2 e3 pn ht KA DA zz15 zz16 zz17 m8 (nI rr) 0 4 4 hM1 hm8 hK hpn) ([0, 1, 2, 3, 4, 5, 6, 7, 8] ++ (List.range 32).map (fun i => 9 + i)) (jpool_isC 9 rfl (is := [0, 1, 2, 3, 4, 5, 6, 7, 8]) rfl (by decide)) (by decide) rfl rfl ⟨by decide, Nat.le_of_ble_eq_true rfl, show (3 * k + 4) + 4 ≤ 158 from by omega, show (18 * k + 24) + 24 ≤ 948 from by omega⟩ (Nat.le_of_ble_eq_true rfl) (by rintro v u h; rcases h with ⟨CA9, ST9, RW9, rfl, rfl⟩ <;> exact jpool_same rfl) (fun _ _ h => h.elim) (fun _ _ h => h.elim) (fun v u h => ?_)
          rcases h with ⟨zz18, zz19, zz20, rfl, rfl⟩
          refine jr_ws (jput [(h0, .inr (9, [.ref x1, .ref x2, .ref x3, .ref x4, .ref x5, .ref x6, .int fi])), (x2, .inr (5, jmem M ca cg)), (ca, .inl (t 2, 8, .inr (.inr (.inr (.inr (jcaps ad)))))), (x4, .inr (2, [.ref e0, .ref e1, .ref e2, .ref e3, .int (nI pn), .int ht])), (e0, .inl (t 0, 16, .inl KA)), (e1, .inl (t 0, 16, .inl DA)), (e2, .inl (t 0, 16, .inl zz15)), (e3, .inl (t 0, 16, .inl zz16)), (x5, .inl (t 0, 49, .inl zz17))] [0, 1, 2, 3, 4, 5, 6, 7, 8] [(h0, .inr (9, [.ref x1, .ref x2, .ref x3, .ref x4, .ref x5, .ref x6, .int fi])), (x2, .inr (5, jmem M ca cg)), (ca, .inl (t 2, 8, .inr (.inr (.inr (.inr (jcaps ad)))))), (x4, .inr (2, [.ref e0, .ref e1, .ref e2, .ref e3, .int (nI pn), .int ht])), (e0, .inl (t 0, 16, .inl KA)), (e1, .inl (t 0, 16, .inl DA)), (e2, .inl (t 0, 16, .inl zz18)), (e3, .inl (t 0, 16, .inl zz19)), (x5, .inl (t 0, 49, .inl zz20))] ++ jpool t ad K) (jpool_after 9 rfl rfl rfl (by decide)) ?_
          refine jr_norm (([(h0, .inr (9, [.ref x1, .ref x2, .ref x3, .ref x4, .ref x5, .ref x6, .int fi])), (x2, .inr (5, jmem M ca cg)), (ca, .inl (t 2, 8, .inr (.inr (.inr (.inr (jcaps ad)))))), (x4, .inr (2, [.ref e0, .ref e1, .ref e2, .ref e3, .int (nI pn), .int ht])), (e0, .inl (t 0, 16, .inl KA)), (e1, .inl (t 0, 16, .inl DA)), (e2, .inl (t 0, 16, .inl zz18)), (e3, .inl (t 0, 16, .inl zz19)), (x5, .inl (t 0, 49, .inl zz20))] : va_W) ++ jpool t ad K) [.int (wP (eRise (M 1) (nI rr) 0 4 4 ht (rowRise (rowOf KA DA pn 0 (K (nI rr).toNatClampNeg) zz17 zz16 zz15).1 4 4 (K (nI rr).toNatClampNeg).2.2.1)) ((rowRise (rowOf KA DA pn 0 (K (nI rr).toNatClampNeg) zz17 zz16 zz15).1 4 4 (K (nI rr).toNatClampNeg).2.2.1).getD 0) (-2000000030) (-2000000020) (-2000000010) (-2000000005))] 95 (3 * k + 8) (18 * k + 48) rfl rfl rfl rfl rfl ?_
          refine jr_st [.int (-2000000020)] (jst1 (wm_ri4 hM1 hm8 hrr ht _ _ _ _ _ _)) ?_
          refine jr_ldc CC (jk_L_106 CC.2.2.2.2.1) (jd ddL_isRising 53 rfl) ?_
          refine jr_icmp_ne 118 CC (jd ddL_isRising 54 rfl) (by decide) (fun h => absurd h (by decide)) (fun _ => ?_)
          refine jr_aload_n CC (jd ddL_isRising 55 rfl) 0 rfl ?_
          refine jr_iconst (v := 0) CC (jd ddL_isRising 56 rfl) (by decide) ?_
          refine jr_iload_n CC (jd ddL_isRising 57 rfl) 1 rfl ?_
          refine jr_iconst (v := 3) CC (jd ddL_isRising 58 rfl) (by decide) ?_
          refine jr_iconst (v := 0) CC (jd ddL_isRising 59 rfl) (by decide) ?_
          refine jr_iconst (v := 0) CC (jd ddL_isRising 60 rfl) (by decide) ?_
          refine jr_norm (([(h0, .inr (9, [.ref x1, .ref x2, .ref x3, .ref x4, .ref x5, .ref x6, .int fi])), (x2, .inr (5, jmem M ca cg)), (ca, .inl (t 2, 8, .inr (.inr (.inr (.inr (jcaps ad)))))), (x4, .inr (2, [.ref e0, .ref e1, .ref e2, .ref e3, .int (nI pn), .int ht])), (e0, .inl (t 0, 16, .inl KA)), (e1, .inl (t 0, 16, .inl DA)), (e2, .inl (t 0, 16, .inl zz18)), (e3, .inl (t 0, 16, .inl zz19)), (x5, .inl (t 0, 49, .inl zz20))] : va_W) ++ jpool t ad K) [.int 0, .int 0, .int 3, .int (nI rr), .int 0, .ref h0] 106 (3 * k + 8) (18 * k + 48) rfl rfl rfl rfl rfl ?_
          refine jr_callW (rest := []) [.ref h0, .int 0, .int (nI rr), .int 3, .int 0, .int 0] CC (jd ddL_isRising 61 rfl) (jy_L_124 CC) (k_L_measured0 l t hfl h0 x1 x2 x3 x4 x5 x6 fi M ca cg ad K e0 e1 e2 e3 pn ht KA DA zz18 zz19 zz20 m8 (nI rr) 3 0 0 hM1 hm8 hK hpn) ([0, 1, 2, 3, 4, 5, 6, 7, 8] ++ (List.range 32).map (fun i => 9 + i)) (jpool_isC 9 rfl (is := [0, 1, 2, 3, 4, 5, 6, 7, 8]) rfl (by decide)) (by decide) rfl rfl ⟨by decide, Nat.le_of_ble_eq_true rfl, show (3 * k + 8) + 3 ≤ 158 from by omega, show (18 * k + 48) + 18 ≤ 948 from by omega⟩ (Nat.le_of_ble_eq_true rfl) (by rintro v u h; rcases h with ⟨CA9, ST9, RW9, rfl, rfl⟩ <;> exact jpool_same rfl) (fun _ _ h => h.elim) (fun _ _ h => h.elim) (fun v u h => ?_)
          rcases h with ⟨zz22, zz23, zz24, rfl, rfl⟩
          refine jr_ws (jput [(h0, .inr (9, [.ref x1, .ref x2, .ref x3, .ref x4, .ref x5, .ref x6, .int fi])), (x2, .inr (5, jmem M ca cg)), (ca, .inl (t 2, 8, .inr (.inr (.inr (.inr (jcaps ad)))))), (x4, .inr (2, [.ref e0, .ref e1, .ref e2, .ref e3, .int (nI pn), .int ht])), (e0, .inl (t 0, 16, .inl KA)), (e1, .inl (t 0, 16, .inl DA)), (e2, .inl (t 0, 16, .inl zz18)), (e3, .inl (t 0, 16, .inl zz19)), (x5, .inl (t 0, 49, .inl zz20))] [0, 1, 2, 3, 4, 5, 6, 7, 8] [(h0, .inr (9, [.ref x1, .ref x2, .ref x3, .ref x4, .ref x5, .ref x6, .int fi])), (x2, .inr (5, jmem M ca cg)), (ca, .inl (t 2, 8, .inr (.inr (.inr (.inr (jcaps ad)))))), (x4, .inr (2, [.ref e0, .ref e1, .ref e2, .ref e3, .int (nI pn), .int ht])), (e0, .inl (t 0, 16, .inl KA)), (e1, .inl (t 0, 16, .inl DA)), (e2, .inl (t 0, 16, .inl zz22)), (e3, .inl (t 0, 16, .inl zz23)), (x5, .inl (t 0, 49, .inl zz24))] ++ jpool t ad K) (jpool_after 9 rfl rfl rfl (by decide)) ?_
          refine jr_norm (([(h0, .inr (9, [.ref x1, .ref x2, .ref x3, .ref x4, .ref x5, .ref x6, .int fi])), (x2, .inr (5, jmem M ca cg)), (ca, .inl (t 2, 8, .inr (.inr (.inr (.inr (jcaps ad)))))), (x4, .inr (2, [.ref e0, .ref e1, .ref e2, .ref e3, .int (nI pn), .int ht])), (e0, .inl (t 0, 16, .inl KA)), (e1, .inl (t 0, 16, .inl DA)), (e2, .inl (t 0, 16, .inl zz22)), (e3, .inl (t 0, 16, .inl zz23)), (x5, .inl (t 0, 49, .inl zz24))] : va_W) ++ jpool t ad K) [.int (wP (eSrc (M 1) (nI rr) 3 ht) (rowLo (rowOf KA DA pn 3 (K (nI rr).toNatClampNeg) zz20 zz19 zz18).1 (K (nI rr).toNatClampNeg).2.2.1) (-2000000030) (-2000000020) (-2000000010) 0)] 109 (3 * k + 11) (18 * k + 66) rfl rfl rfl rfl rfl ?_
          refine jr_st [.int (-2000000020)] (jst1 (wm_bad hM1 hm8 hrr ht _ _ _ _ _)) ?_
          refine jr_ldc CC (jk_L_106 CC.2.2.2.2.1) (jd ddL_isRising 62 rfl) ?_
          refine jr_icmp_ne 118 CC (jd ddL_isRising 63 rfl) (by decide) (fun h => absurd h (by decide)) (fun _ => ?_)
          refine jr_iconst (v := 1) CC (jd ddL_isRising 64 rfl) (by decide) ?_
          refine jr_goto 119 CC (jd ddL_isRising 65 rfl) (by decide) ?_
          exact jr_zret rfl CC MM (jd ddL_isRising 67 rfl) rfl (show (3 * k + 11) ≤ 158 from by omega) (show (18 * k + 66) ≤ 948 from by omega) ⟨zz22, zz23, zz24, rfl, rfl⟩
        · refine jr_aload_n CC (jd ddL_isRising 11 rfl) 0 rfl ?_
          refine jr_iload_n CC (jd ddL_isRising 12 rfl) 1 rfl ?_
          refine jr_iconst (v := 0) CC (jd ddL_isRising 13 rfl) (by decide) ?_
          refine jr_iload CC (jd ddL_isRising 14 rfl) 5 rfl ?_
          refine jr_norm (([(h0, .inr (9, [.ref x1, .ref x2, .ref x3, .ref x4, .ref x5, .ref x6, .int fi])), (x2, .inr (5, jmem M ca cg)), (ca, .inl (t 2, 8, .inr (.inr (.inr (.inr (jcaps ad)))))), (x4, .inr (2, [.ref e0, .ref e1, .ref e2, .ref e3, .int (nI pn), .int ht])), (e0, .inl (t 0, 16, .inl KA)), (e1, .inl (t 0, 16, .inl DA)), (e2, .inl (t 0, 16, .inl CA)), (e3, .inl (t 0, 16, .inl ST)), (x5, .inl (t 0, 49, .inl RW))] : va_W) ++ jpool t ad K) [.int (nI k), .int 0, .int (nI rr), .ref h0] 25 (3 * k + 0) (18 * k + 0) rfl rfl rfl rfl rfl ?_
          refine jr_callW (rest := []) [.ref h0, .int (nI rr), .int 0, .int (nI k)] CC (jd ddL_isRising 15 rfl) (jy_L_117 CC) (k_L_value l t hfl h0 x1 x2 x3 x4 x5 x6 fi M ca cg ad K m8 (nI rr) 0 (nI k) hM1 hm8 hK) ([0, 1, 2] ++ (List.range 32).map (fun i => 9 + i)) (jpool_isC 9 rfl (is := [0, 1, 2]) rfl (by decide)) (by decide) rfl rfl ⟨by decide, Nat.le_of_ble_eq_true rfl, show (3 * k + 0) + 3 ≤ 158 from by omega, show (18 * k + 0) + 18 ≤ 948 from by omega⟩ (Nat.le_of_ble_eq_true rfl) (by rintro v u h; rcases h with ⟨rfl, rfl⟩ <;> exact jpool_same rfl) (fun _ _ h => h.elim) (fun _ _ h => h.elim) (fun v u h => ?_)
          rcases h with ⟨rfl, rfl⟩
          refine jr_ws (jput [(h0, .inr (9, [.ref x1, .ref x2, .ref x3, .ref x4, .ref x5, .ref x6, .int fi])), (x2, .inr (5, jmem M ca cg)), (ca, .inl (t 2, 8, .inr (.inr (.inr (.inr (jcaps ad)))))), (x4, .inr (2, [.ref e0, .ref e1, .ref e2, .ref e3, .int (nI pn), .int ht])), (e0, .inl (t 0, 16, .inl KA)), (e1, .inl (t 0, 16, .inl DA)), (e2, .inl (t 0, 16, .inl CA)), (e3, .inl (t 0, 16, .inl ST)), (x5, .inl (t 0, 49, .inl RW))] [0, 1, 2] [(h0, .inr (9, [.ref x1, .ref x2, .ref x3, .ref x4, .ref x5, .ref x6, .int fi])), (x2, .inr (5, jmem M ca cg)), (ca, .inl (t 2, 8, .inr (.inr (.inr (.inr (jcaps ad))))))] ++ jpool t ad K) (jpool_after 9 rfl rfl rfl (by decide)) ?_
          refine jr_norm (([(h0, .inr (9, [.ref x1, .ref x2, .ref x3, .ref x4, .ref x5, .ref x6, .int fi])), (x2, .inr (5, jmem M ca cg)), (ca, .inl (t 2, 8, .inr (.inr (.inr (.inr (jcaps ad)))))), (x4, .inr (2, [.ref e0, .ref e1, .ref e2, .ref e3, .int (nI pn), .int ht])), (e0, .inl (t 0, 16, .inl KA)), (e1, .inl (t 0, 16, .inl DA)), (e2, .inl (t 0, 16, .inl CA)), (e3, .inl (t 0, 16, .inl ST)), (x5, .inl (t 0, 49, .inl RW))] : va_W) ++ jpool t ad K) [.int (wP (eVal (M 1) (nI rr) (K (nI rr).toNatClampNeg).2.2.1 (nI k) 0) (jat (K (nI rr).toNatClampNeg) 0 (nI k).toNatClampNeg) (-300) (-200) 0 0)] 28 (3 * k + 3) (18 * k + 18) rfl rfl rfl rfl rfl ?_
          refine jr_st [.int (jat (K rr) 0 k)] (jst1 (wv_in hM1 hm8 hrr hnn hn49 jin01.1 (by omega) _ _ _ _)) ?_
          refine jr_istore [(6, .int (jat (K rr) 0 k)), (0, .ref h0), (1, .int (nI rr)), (2, .int (nI nn)), (3, .int la), (4, .int du), (5, .int (nI k))] CC (jd ddL_isRising 16 rfl) (by decide) rfl ?_
          refine jr_iload_n CC (jd ddL_isRising 17 rfl) 4 rfl ?_
          refine jr_if_lt 47 CC (jd ddL_isRising 18 rfl) (by decide) (fun c26 => ?_) (fun c26 => ?_)
          · refine jr_iload CC (jd ddL_isRising 26 rfl) 5 rfl ?_
            refine jr_istore [(4, .int du), (6, .int (jat (K rr) 0 k)), (0, .ref h0), (1, .int (nI rr)), (2, .int (nI nn)), (3, .int la), (5, .int (nI k))] CC (jd ddL_isRising 27 rfl) (by decide) rfl ?_
            refine jr_iload CC (jd ddL_isRising 28 rfl) 1 rfl ?_
            refine jr_bipush (v := (-3)) CC (jd ddL_isRising 29 rfl) (by decide) ?_
            refine jr_icmp_gt 63 CC (jd ddL_isRising 30 rfl) (by decide) (fun c27 => ?_) (fun c27 => ?_)
            · refine jr_iload_n CC (jd ddL_isRising 33 rfl) 5 rfl ?_
              refine jr_istore_n 3 [(3, .int la), (4, .int du), (6, .int (jat (K rr) 0 k)), (0, .ref h0), (1, .int (nI rr)), (2, .int (nI nn)), (5, .int (nI k))] CC (jd ddL_isRising 34 rfl) rfl (by decide) rfl ?_
              refine jr_pc (pc' := 65) rfl ?_
              refine jr_iinc [(5, .int (nI (k + 1))), (3, .int la), (4, .int du), (6, .int (jat (K rr) 0 k)), (0, .ref h0), (1, .int (nI rr)), (2, .int (nI nn))] CC (jd ddL_isRising 35 rfl) 6 rfl (nI_1 _) (by decide) rfl ?_
              refine jr_goto 9 CC (jd ddL_isRising 36 rfl) (by decide) ?_
              refine jr_norm (([(h0, .inr (9, [.ref x1, .ref x2, .ref x3, .ref x4, .ref x5, .ref x6, .int fi])), (x2, .inr (5, jmem M ca cg)), (ca, .inl (t 2, 8, .inr (.inr (.inr (.inr (jcaps ad)))))), (x4, .inr (2, [.ref e0, .ref e1, .ref e2, .ref e3, .int (nI pn), .int ht])), (e0, .inl (t 0, 16, .inl KA)), (e1, .inl (t 0, 16, .inl DA)), (e2, .inl (t 0, 16, .inl CA)), (e3, .inl (t 0, 16, .inl ST)), (x5, .inl (t 0, 49, .inl RW))] : va_W) ++ jpool t ad K) [] 9 (3 * k + 3) (18 * k + 18) rfl rfl rfl rfl rfl ?_
              refine jr_lv [4, 5, 6, 1, 2, 0] [(0, .ref h0), (1, .int (nI rr)), (2, .int (nI nn)), (3, .int la), (4, .int du), (5, .int (nI (k + 1)))] rfl ?_
              refine jr_widen (k' := (3 * (k + 1) + 0)) (n' := (18 * (k + 1) + 0)) (by omega) (by omega) ?_
              exact ih9 (k + 1) la du (by omega) (by have h9 := riseI_s hq (Int32.not_le.mp c14) (by omega) hn49; rw [if_neg (Int32.not_le.mpr c27), if_neg (fun q => Int32.not_le.mpr c26 q.1)] at h9; exact h9) (by omega)
            · refine jr_iload CC (jd ddL_isRising 31 rfl) 6 rfl ?_
              refine jr_goto 64 CC (jd ddL_isRising 32 rfl) (by decide) ?_
              refine jr_istore_n 3 [(3, .int (nI k)), (4, .int du), (6, .int (jat (K rr) 0 k)), (0, .ref h0), (1, .int (nI rr)), (2, .int (nI nn)), (5, .int (nI k))] CC (jd ddL_isRising 34 rfl) rfl (by decide) rfl ?_
              refine jr_iinc [(5, .int (nI (k + 1))), (3, .int (nI k)), (4, .int du), (6, .int (jat (K rr) 0 k)), (0, .ref h0), (1, .int (nI rr)), (2, .int (nI nn))] CC (jd ddL_isRising 35 rfl) 6 rfl (nI_1 _) (by decide) rfl ?_
              refine jr_goto 9 CC (jd ddL_isRising 36 rfl) (by decide) ?_
              refine jr_norm (([(h0, .inr (9, [.ref x1, .ref x2, .ref x3, .ref x4, .ref x5, .ref x6, .int fi])), (x2, .inr (5, jmem M ca cg)), (ca, .inl (t 2, 8, .inr (.inr (.inr (.inr (jcaps ad)))))), (x4, .inr (2, [.ref e0, .ref e1, .ref e2, .ref e3, .int (nI pn), .int ht])), (e0, .inl (t 0, 16, .inl KA)), (e1, .inl (t 0, 16, .inl DA)), (e2, .inl (t 0, 16, .inl CA)), (e3, .inl (t 0, 16, .inl ST)), (x5, .inl (t 0, 49, .inl RW))] : va_W) ++ jpool t ad K) [] 9 (3 * k + 3) (18 * k + 18) rfl rfl rfl rfl rfl ?_
              refine jr_lv [4, 5, 6, 1, 2, 0] [(0, .ref h0), (1, .int (nI rr)), (2, .int (nI nn)), (3, .int (nI k)), (4, .int du), (5, .int (nI (k + 1)))] rfl ?_
              refine jr_widen (k' := (3 * (k + 1) + 0)) (n' := (18 * (k + 1) + 0)) (by omega) (by omega) ?_
              exact ih9 (k + 1) (nI k) du (by omega) (by have h9 := riseI_s hq (Int32.not_le.mp c14) (by omega) hn49; rw [if_pos (Int32.not_lt.mp c27), if_neg (fun q => Int32.not_le.mpr c26 q.1)] at h9; exact h9) (by omega)
          · refine jr_iload CC (jd ddL_isRising 19 rfl) 0 rfl ?_
            refine jr_iconst (v := 4) CC (jd ddL_isRising 20 rfl) (by decide) ?_
            refine jr_icmp_lt 47 CC (jd ddL_isRising 21 rfl) (by decide) (fun c28 => ?_) (fun c28 => ?_)
            · refine jr_iload CC (jd ddL_isRising 26 rfl) 5 rfl ?_
              refine jr_istore [(4, .int du), (6, .int (jat (K rr) 0 k)), (0, .ref h0), (1, .int (nI rr)), (2, .int (nI nn)), (3, .int la), (5, .int (nI k))] CC (jd ddL_isRising 27 rfl) (by decide) rfl ?_
              refine jr_iload CC (jd ddL_isRising 28 rfl) 1 rfl ?_
              refine jr_bipush (v := (-3)) CC (jd ddL_isRising 29 rfl) (by decide) ?_
              refine jr_pc (pc' := 55) rfl ?_
              refine jr_icmp_gt 63 CC (jd ddL_isRising 30 rfl) (by decide) (fun c29 => ?_) (fun c29 => ?_)
              · refine jr_iload_n CC (jd ddL_isRising 33 rfl) 5 rfl ?_
                refine jr_istore_n 3 [(3, .int la), (4, .int du), (6, .int (jat (K rr) 0 k)), (0, .ref h0), (1, .int (nI rr)), (2, .int (nI nn)), (5, .int (nI k))] CC (jd ddL_isRising 34 rfl) rfl (by decide) rfl ?_
                refine jr_iinc [(5, .int (nI (k + 1))), (3, .int la), (4, .int du), (6, .int (jat (K rr) 0 k)), (0, .ref h0), (1, .int (nI rr)), (2, .int (nI nn))] CC (jd ddL_isRising 35 rfl) 6 rfl (nI_1 _) (by decide) rfl ?_
                refine jr_goto 9 CC (jd ddL_isRising 36 rfl) (by decide) ?_
                refine jr_norm (([(h0, .inr (9, [.ref x1, .ref x2, .ref x3, .ref x4, .ref x5, .ref x6, .int fi])), (x2, .inr (5, jmem M ca cg)), (ca, .inl (t 2, 8, .inr (.inr (.inr (.inr (jcaps ad)))))), (x4, .inr (2, [.ref e0, .ref e1, .ref e2, .ref e3, .int (nI pn), .int ht])), (e0, .inl (t 0, 16, .inl KA)), (e1, .inl (t 0, 16, .inl DA)), (e2, .inl (t 0, 16, .inl CA)), (e3, .inl (t 0, 16, .inl ST)), (x5, .inl (t 0, 49, .inl RW))] : va_W) ++ jpool t ad K) [] 9 (3 * k + 3) (18 * k + 18) rfl rfl rfl rfl rfl ?_
                refine jr_lv [4, 5, 6, 1, 2, 0] [(0, .ref h0), (1, .int (nI rr)), (2, .int (nI nn)), (3, .int la), (4, .int du), (5, .int (nI (k + 1)))] rfl ?_
                refine jr_widen (k' := (3 * (k + 1) + 0)) (n' := (18 * (k + 1) + 0)) (by omega) (by omega) ?_
                exact ih9 (k + 1) la du (by omega) (by have h9 := riseI_s hq (Int32.not_le.mp c14) (by omega) hn49; rw [if_neg (Int32.not_le.mpr c29), if_neg (fun q => Int32.not_le.mpr c28 q.2)] at h9; exact h9) (by omega)
              · refine jr_iload CC (jd ddL_isRising 31 rfl) 6 rfl ?_
                refine jr_goto 64 CC (jd ddL_isRising 32 rfl) (by decide) ?_
                refine jr_istore_n 3 [(3, .int (nI k)), (4, .int du), (6, .int (jat (K rr) 0 k)), (0, .ref h0), (1, .int (nI rr)), (2, .int (nI nn)), (5, .int (nI k))] CC (jd ddL_isRising 34 rfl) rfl (by decide) rfl ?_
                refine jr_iinc [(5, .int (nI (k + 1))), (3, .int (nI k)), (4, .int du), (6, .int (jat (K rr) 0 k)), (0, .ref h0), (1, .int (nI rr)), (2, .int (nI nn))] CC (jd ddL_isRising 35 rfl) 6 rfl (nI_1 _) (by decide) rfl ?_
                refine jr_goto 9 CC (jd ddL_isRising 36 rfl) (by decide) ?_
                refine jr_norm (([(h0, .inr (9, [.ref x1, .ref x2, .ref x3, .ref x4, .ref x5, .ref x6, .int fi])), (x2, .inr (5, jmem M ca cg)), (ca, .inl (t 2, 8, .inr (.inr (.inr (.inr (jcaps ad)))))), (x4, .inr (2, [.ref e0, .ref e1, .ref e2, .ref e3, .int (nI pn), .int ht])), (e0, .inl (t 0, 16, .inl KA)), (e1, .inl (t 0, 16, .inl DA)), (e2, .inl (t 0, 16, .inl CA)), (e3, .inl (t 0, 16, .inl ST)), (x5, .inl (t 0, 49, .inl RW))] : va_W) ++ jpool t ad K) [] 9 (3 * k + 3) (18 * k + 18) rfl rfl rfl rfl rfl ?_
                refine jr_lv [4, 5, 6, 1, 2, 0] [(0, .ref h0), (1, .int (nI rr)), (2, .int (nI nn)), (3, .int (nI k)), (4, .int du), (5, .int (nI (k + 1)))] rfl ?_
                refine jr_widen (k' := (3 * (k + 1) + 0)) (n' := (18 * (k + 1) + 0)) (by omega) (by omega) ?_
                exact ih9 (k + 1) (nI k) du (by omega) (by have h9 := riseI_s hq (Int32.not_le.mp c14) (by omega) hn49; rw [if_pos (Int32.not_lt.mp c29), if_neg (fun q => Int32.not_le.mpr c28 q.2)] at h9; exact h9) (by omega)
            · refine jr_iload CC (jd ddL_isRising 22 rfl) 6 rfl ?_
              refine jr_iload_n CC (jd ddL_isRising 23 rfl) 4 rfl ?_
              refine jr_isub CC (jd ddL_isRising 24 rfl) ?_
              refine jr_goto 49 CC (jd ddL_isRising 25 rfl) (by decide) ?_
              refine jr_istore [(4, .int ((nI k) - la)), (6, .int (jat (K rr) 0 k)), (0, .ref h0), (1, .int (nI rr)), (2, .int (nI nn)), (3, .int la), (5, .int (nI k))] CC (jd ddL_isRising 27 rfl) (by decide) rfl ?_
              refine jr_iload CC (jd ddL_isRising 28 rfl) 1 rfl ?_
              refine jr_bipush (v := (-3)) CC (jd ddL_isRising 29 rfl) (by decide) ?_
              refine jr_icmp_gt 63 CC (jd ddL_isRising 30 rfl) (by decide) (fun c30 => ?_) (fun c30 => ?_)
              · refine jr_iload_n CC (jd ddL_isRising 33 rfl) 5 rfl ?_
                refine jr_istore_n 3 [(3, .int la), (4, .int ((nI k) - la)), (6, .int (jat (K rr) 0 k)), (0, .ref h0), (1, .int (nI rr)), (2, .int (nI nn)), (5, .int (nI k))] CC (jd ddL_isRising 34 rfl) rfl (by decide) rfl ?_
                refine jr_iinc [(5, .int (nI (k + 1))), (3, .int la), (4, .int ((nI k) - la)), (6, .int (jat (K rr) 0 k)), (0, .ref h0), (1, .int (nI rr)), (2, .int (nI nn))] CC (jd ddL_isRising 35 rfl) 6 rfl (nI_1 _) (by decide) rfl ?_
                refine jr_goto 9 CC (jd ddL_isRising 36 rfl) (by decide) ?_
                refine jr_norm (([(h0, .inr (9, [.ref x1, .ref x2, .ref x3, .ref x4, .ref x5, .ref x6, .int fi])), (x2, .inr (5, jmem M ca cg)), (ca, .inl (t 2, 8, .inr (.inr (.inr (.inr (jcaps ad)))))), (x4, .inr (2, [.ref e0, .ref e1, .ref e2, .ref e3, .int (nI pn), .int ht])), (e0, .inl (t 0, 16, .inl KA)), (e1, .inl (t 0, 16, .inl DA)), (e2, .inl (t 0, 16, .inl CA)), (e3, .inl (t 0, 16, .inl ST)), (x5, .inl (t 0, 49, .inl RW))] : va_W) ++ jpool t ad K) [] 9 (3 * k + 3) (18 * k + 18) rfl rfl rfl rfl rfl ?_
                refine jr_lv [4, 5, 6, 1, 2, 0] [(0, .ref h0), (1, .int (nI rr)), (2, .int (nI nn)), (3, .int la), (4, .int ((nI k) - la)), (5, .int (nI (k + 1)))] rfl ?_
                refine jr_widen (k' := (3 * (k + 1) + 0)) (n' := (18 * (k + 1) + 0)) (by omega) (by omega) ?_
                exact ih9 (k + 1) la ((nI k) - la) (by omega) (by have h9 := riseI_s hq (Int32.not_le.mp c14) (by omega) hn49; rw [if_neg (Int32.not_le.mpr c30), if_pos ⟨Int32.not_lt.mp c26, Int32.not_lt.mp c28⟩] at h9; exact h9) (by omega)
              · refine jr_iload CC (jd ddL_isRising 31 rfl) 6 rfl ?_
                refine jr_goto 64 CC (jd ddL_isRising 32 rfl) (by decide) ?_
                refine jr_istore_n 3 [(3, .int (nI k)), (4, .int ((nI k) - la)), (6, .int (jat (K rr) 0 k)), (0, .ref h0), (1, .int (nI rr)), (2, .int (nI nn)), (5, .int (nI k))] CC (jd ddL_isRising 34 rfl) rfl (by decide) rfl ?_
                refine jr_iinc [(5, .int (nI (k + 1))), (3, .int (nI k)), (4, .int ((nI k) - la)), (6, .int (jat (K rr) 0 k)), (0, .ref h0), (1, .int (nI rr)), (2, .int (nI nn))] CC (jd ddL_isRising 35 rfl) 6 rfl (nI_1 _) (by decide) rfl ?_
                refine jr_goto 9 CC (jd ddL_isRising 36 rfl) (by decide) ?_
                refine jr_norm (([(h0, .inr (9, [.ref x1, .ref x2, .ref x3, .ref x4, .ref x5, .ref x6, .int fi])), (x2, .inr (5, jmem M ca cg)), (ca, .inl (t 2, 8, .inr (.inr (.inr (.inr (jcaps ad)))))), (x4, .inr (2, [.ref e0, .ref e1, .ref e2, .ref e3, .int (nI pn), .int ht])), (e0, .inl (t 0, 16, .inl KA)), (e1, .inl (t 0, 16, .inl DA)), (e2, .inl (t 0, 16, .inl CA)), (e3, .inl (t 0, 16, .inl ST)), (x5, .inl (t 0, 49, .inl RW))] : va_W) ++ jpool t ad K) [] 9 (3 * k + 3) (18 * k + 18) rfl rfl rfl rfl rfl ?_
                refine jr_lv [4, 5, 6, 1, 2, 0] [(0, .ref h0), (1, .int (nI rr)), (2, .int (nI nn)), (3, .int (nI k)), (4, .int ((nI k) - la)), (5, .int (nI (k + 1)))] rfl ?_
                refine jr_widen (k' := (3 * (k + 1) + 0)) (n' := (18 * (k + 1) + 0)) (by omega) (by omega) ?_
                exact ih9 (k + 1) (nI k) ((nI k) - la) (by omega) (by have h9 := riseI_s hq (Int32.not_le.mp c14) (by omega) hn49; rw [if_pos (Int32.not_lt.mp c30), if_pos ⟨Int32.not_lt.mp c26, Int32.not_lt.mp c28⟩] at h9; exact h9) (by omega)
  refine jr_norm (([(h0, .inr (9, [.ref x1, .ref x2, .ref x3, .ref x4, .ref x5, .ref x6, .int fi])), (x2, .inr (5, jmem M ca cg)), (ca, .inl (t 2, 8, .inr (.inr (.inr (.inr (jcaps ad)))))), (x4, .inr (2, [.ref e0, .ref e1, .ref e2, .ref e3, .int (nI pn), .int ht])), (e0, .inl (t 0, 16, .inl KA)), (e1, .inl (t 0, 16, .inl DA)), (e2, .inl (t 0, 16, .inl CA)), (e3, .inl (t 0, 16, .inl ST)), (x5, .inl (t 0, 49, .inl RW))] : va_W) ++ jpool t ad K) [] 9 0 0 rfl rfl rfl rfl rfl ?_
  refine jr_lv [3, 4, 5, 2, 1, 0] [(0, .ref h0), (1, .int (nI rr)), (2, .int (nI nn)), (3, .int (-1)), (4, .int (-2000000005)), (5, .int (nI 0))] rfl ?_
  refine jr_widen (k' := (3 * 0 + 0)) (n' := (18 * 0 + 0)) (by omega) (by omega) ?_
  exact hL1 (nn - 0 + 1) 0 (-1) (-2000000005) (Nat.zero_le _) (riseI_0 _ _) (Nat.lt_succ_self _)
