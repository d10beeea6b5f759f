theorem jst1 {a b : Int32} {rest : List Value} (h : a = b) : (.int a :: rest : List Value) = .int b :: rest := by rw [h]
set_option maxHeartbeats 8000000 in
set_option maxRecDepth 100000 in
theorem k_L_came (l : Launch) (t : Nat → ClassId) (hfl : l.stackTraces = false) (bb : Nat) (ba : Nat) (bx : Nat) (bg : Nat) (fb : Nat → Int32) (fa : Nat → Int32) (fx : Nat → Int32) (g : Nat → Int32) (G : Nat) (n : Nat) (z : Nat) (B : Nat → Nat) (F : Nat → Int32) (hB : segB n G B fb) (hS : segR n G B fa fx F) (hg0 : g 0 = nI G) (hz : z < n) (hG : G ≤ 60) (hn : n ≤ 100000) : jKx l t yL_came (Cond.code yL_came cL_came 7 (some .int) :: jWS) { frames := 0, cells := 0, slots := 0, locals := 0 } [.ref bb, .ref ba, .ref bx, .ref bg, .int (nI z)] [(bb, .inl (t 0, 64, .inl fb)), (ba, .inl (t 0, 64, .inl fa)), (bx, .inl (t 0, 64, .inl fx)), (bg, .inl (t 0, 7, .inl g))] (fun vv uu => (vv = some (.int (F z)) ∧ uu = [(bb, .inl (t 0, 64, .inl fb)), (ba, .inl (t 0, 64, .inl fa)), (bx, .inl (t 0, 64, .inl fx)), (bg, .inl (t 0, 7, .inl g))])) (fun _ _ => False) := by
  refine jK_of hfl (by decide +kernel) (Nat.le_of_ble_eq_true rfl) ?_
  intro p e s m args below meth c D A Q CC MM
  refine jr_norm0 [(0, .ref bb), (1, .ref ba), (2, .ref bx), (3, .ref bg), (4, .int (nI z))] rfl ?_
  have hG1 := hB.2.1 (by omega)
  refine jr_iconst (v := 0) CC (jd ddL_came 0 rfl) (by decide) ?_
  refine jr_istore [(5, .int 0), (0, .ref bb), (1, .ref ba), (2, .ref bx), (3, .ref bg), (4, .int (nI z))] CC (jd ddL_came 1 rfl) (by decide) rfl ?_
  have hL1 : ∀ (d9 : Nat) (k : Nat) (hk : k < G) (hBk : B k ≤ z), G - k < d9 → J p l e { frames := 0, cells := 0, slots := 0, locals := 0 } s m args below meth c D A 7 Q [(bb, .inl (t 0, 64, .inl fb)), (ba, .inl (t 0, 64, .inl fa)), (bx, .inl (t 0, 64, .inl fx)), (bg, .inl (t 0, 7, .inl g))] [(0, .ref bb), (1, .ref ba), (2, .ref bx), (3, .ref bg), (4, .int (nI z)), (5, .int (nI k))] 3 [] 0 0 := by
    intro d9
    induction d9 with
    | zero => intro k hk hBk hmu; exact absurd hmu (Nat.not_lt_zero _)
    | succ d9 ih3 =>
      intro k hk hBk hmu
      refine jr_iload CC (jd ddL_came 2 rfl) 5 rfl ?_
      refine jr_iconst (v := 1) CC (jd ddL_came 3 rfl) (by decide) ?_
      refine jr_iadd CC (jd ddL_came 4 rfl) ?_
      refine jr_st [.int (nI (k + 1))] (jst1 (nI_add k 1)) ?_
      refine jr_aload_n CC (jd ddL_came 5 rfl) 3 rfl ?_
      refine jr_iconst (v := 0) CC (jd ddL_came 6 rfl) (by decide) ?_
      refine jr_ialdN CC (jd ddL_came 7 rfl) 3 0 rfl (by decide) (by decide) (by decide) ?_
      refine jr_st [.int (nI G), .int (nI (k + 1))] (jst1 hg0) ?_
      refine jr_icmp_ge 30 CC (jd ddL_came 8 rfl) (by decide) (fun c2 => ?_) (fun c2 => ?_)
      · have n2 := jle_of (a := G) (b := (k + 1)) c2 (by omega) (by omega)
        refine jr_aload_n CC (jd ddL_came 18 rfl) 1 rfl ?_
        refine jr_iload CC (jd ddL_came 19 rfl) 5 rfl ?_
        refine jr_ialdN CC (jd ddL_came 20 rfl) 1 k rfl rfl (by omega) (by decide) ?_
        refine jr_pc (pc' := 34) rfl ?_
        refine jr_aload_n CC (jd ddL_came 21 rfl) 2 rfl ?_
        refine jr_iload CC (jd ddL_came 22 rfl) 5 rfl ?_
        refine jr_ialdN CC (jd ddL_came 23 rfl) 2 k rfl rfl (by omega) (by decide) ?_
        refine jr_iload CC (jd ddL_came 24 rfl) 4 rfl ?_
        refine jr_aload_n CC (jd ddL_came 25 rfl) 0 rfl ?_
        refine jr_iload CC (jd ddL_came 26 rfl) 5 rfl ?_
        refine jr_ialdN CC (jd ddL_came 27 rfl) 0 k rfl rfl (by omega) (by decide) ?_
        refine jr_st [.int (nI (B k)), .int (nI z), .int (fx k), .int (fa k)] (jst1 ((hB.2.2 k hk).1)) ?_
        refine jr_isub CC (jd ddL_came 28 rfl) ?_
        refine jr_st [.int (nI (z - (B k))), .int (fx k), .int (fa k)] (jst1 (pk_sub (a := z) (b := (B k)) (by omega))) ?_
        refine jr_imul CC (jd ddL_came 29 rfl) ?_
        refine jr_iadd CC (jd ddL_came 30 rfl) ?_
        refine jr_pc (pc' := 47) rfl ?_
        refine jr_istore [(6, .int ((fa k) + ((fx k) * (nI (z - (B k)))))), (0, .ref bb), (1, .ref ba), (2, .ref bx), (3, .ref bg), (4, .int (nI z)), (5, .int (nI k))] CC (jd ddL_came 31 rfl) (by decide) rfl ?_
        refine jr_iload CC (jd ddL_came 32 rfl) 0 rfl ?_
        refine jr_bipush (v := (-128)) CC (jd ddL_came 33 rfl) (by decide) ?_
        refine jr_icmp_ge 61 CC (jd ddL_came 34 rfl) (by decide) (fun c3 => ?_) (fun c3 => ?_)
        · refine jr_iload CC (jd ddL_came 37 rfl) 0 rfl ?_
          refine jr_bipush (v := 127) CC (jd ddL_came 38 rfl) (by decide) ?_
          refine jr_icmp_le 73 CC (jd ddL_came 39 rfl) (by decide) (fun c4 => ?_) (fun c4 => ?_)
          · refine jr_iload CC (jd ddL_came 42 rfl) 0 rfl ?_
            exact jr_iret CC MM (jd ddL_came 43 rfl) rfl (by decide) (by decide) ⟨by rw [hS k hk z hBk hz (fun h5 => by omega), hld, if_neg (Int32.not_lt.mpr c3), if_neg (Int32.not_lt.mpr c4)], rfl⟩
          · refine jr_bipush (v := 127) CC (jd ddL_came 40 rfl) (by decide) ?_
            refine jr_goto 75 CC (jd ddL_came 41 rfl) (by decide) ?_
            exact jr_iret CC MM (jd ddL_came 43 rfl) rfl (by decide) (by decide) ⟨by rw [hS k hk z hBk hz (fun h5 => by omega), hld, if_neg (Int32.not_lt.mpr c3), if_pos (Int32.not_le.mp c4)], rfl⟩
        · refine jr_bipush (v := (-128)) CC (jd ddL_came 35 rfl) (by decide) ?_
          refine jr_goto 75 CC (jd ddL_came 36 rfl) (by decide) ?_
          exact jr_iret CC MM (jd ddL_came 43 rfl) rfl (by decide) (by decide) ⟨by rw [hS k hk z hBk hz (fun h5 => by omega), hld, if_pos (Int32.not_le.mp c3)], rfl⟩
      · have n2 := jle_not (a := G) (b := (k + 1)) c2 (by omega) (by omega)
        refine jr_aload_n CC (jd ddL_came 9 rfl) 0 rfl ?_
        refine jr_iload CC (jd ddL_came 10 rfl) 5 rfl ?_
        refine jr_iconst (v := 1) CC (jd ddL_came 11 rfl) (by decide) ?_
        refine jr_pc (pc' := 17) rfl ?_
        refine jr_iadd CC (jd ddL_came 12 rfl) ?_
        refine jr_st [.int (nI (k + 1)), .ref bb] (jst1 (nI_add k 1)) ?_
        refine jr_ialdN CC (jd ddL_came 13 rfl) 0 (k + 1) rfl rfl (by omega) (by decide) ?_
        refine jr_st [.int (nI (B (k + 1)))] (jst1 ((hB.2.2 (k + 1) (by omega)).1)) ?_
        have hb9 := (hB.2.2 (k + 1) (by omega)).2
        refine jr_iload CC (jd ddL_came 14 rfl) 4 rfl ?_
        refine jr_icmp_gt 30 CC (jd ddL_came 15 rfl) (by decide) (fun c5 => ?_) (fun c5 => ?_)
        · have n5 := jlt_of (a := z) (b := (B (k + 1))) c5 (by omega) (by omega)
          refine jr_aload_n CC (jd ddL_came 18 rfl) 1 rfl ?_
          refine jr_iload CC (jd ddL_came 19 rfl) 5 rfl ?_
          refine jr_ialdN CC (jd ddL_came 20 rfl) 1 k rfl rfl (by omega) (by decide) ?_
          refine jr_aload_n CC (jd ddL_came 21 rfl) 2 rfl ?_
          refine jr_iload CC (jd ddL_came 22 rfl) 5 rfl ?_
          refine jr_ialdN CC (jd ddL_came 23 rfl) 2 k rfl rfl (by omega) (by decide) ?_
          refine jr_pc (pc' := 38) rfl ?_
          refine jr_iload CC (jd ddL_came 24 rfl) 4 rfl ?_
          refine jr_aload_n CC (jd ddL_came 25 rfl) 0 rfl ?_
          refine jr_iload CC (jd ddL_came 26 rfl) 5 rfl ?_
          refine jr_ialdN CC (jd ddL_came 27 rfl) 0 k rfl rfl (by omega) (by decide) ?_
          refine jr_st [.int (nI (B k)), .int (nI z), .int (fx k), .int (fa k)] (jst1 ((hB.2.2 k hk).1)) ?_
          refine jr_isub CC (jd ddL_came 28 rfl) ?_
          refine jr_st [.int (nI (z - (B k))), .int (fx k), .int (fa k)] (jst1 (pk_sub (a := z) (b := (B k)) (by omega))) ?_
          refine jr_imul CC (jd ddL_came 29 rfl) ?_
          refine jr_iadd CC (jd ddL_came 30 rfl) ?_
          refine jr_istore [(6, .int ((fa k) + ((fx k) * (nI (z - (B k)))))), (0, .ref bb), (1, .ref ba), (2, .ref bx), (3, .ref bg), (4, .int (nI z)), (5, .int (nI k))] CC (jd ddL_came 31 rfl) (by decide) rfl ?_
          refine jr_iload CC (jd ddL_came 32 rfl) 0 rfl ?_
          refine jr_bipush (v := (-128)) CC (jd ddL_came 33 rfl) (by decide) ?_
          refine jr_pc (pc' := 53) rfl ?_
          refine jr_icmp_ge 61 CC (jd ddL_came 34 rfl) (by decide) (fun c6 => ?_) (fun c6 => ?_)
          · refine jr_iload CC (jd ddL_came 37 rfl) 0 rfl ?_
            refine jr_bipush (v := 127) CC (jd ddL_came 38 rfl) (by decide) ?_
            refine jr_icmp_le 73 CC (jd ddL_came 39 rfl) (by decide) (fun c7 => ?_) (fun c7 => ?_)
            · refine jr_iload CC (jd ddL_came 42 rfl) 0 rfl ?_
              exact jr_iret CC MM (jd ddL_came 43 rfl) rfl (by decide) (by decide) ⟨by rw [hS k hk z hBk hz (fun h5 => by omega), hld, if_neg (Int32.not_lt.mpr c6), if_neg (Int32.not_lt.mpr c7)], rfl⟩
            · refine jr_bipush (v := 127) CC (jd ddL_came 40 rfl) (by decide) ?_
              refine jr_goto 75 CC (jd ddL_came 41 rfl) (by decide) ?_
              exact jr_iret CC MM (jd ddL_came 43 rfl) rfl (by decide) (by decide) ⟨by rw [hS k hk z hBk hz (fun h5 => by omega), hld, if_neg (Int32.not_lt.mpr c6), if_pos (Int32.not_le.mp c7)], rfl⟩
          · refine jr_bipush (v := (-128)) CC (jd ddL_came 35 rfl) (by decide) ?_
            refine jr_goto 75 CC (jd ddL_came 36 rfl) (by decide) ?_
            exact jr_iret CC MM (jd ddL_came 43 rfl) rfl (by decide) (by decide) ⟨by rw [hS k hk z hBk hz (fun h5 => by omega), hld, if_pos (Int32.not_le.mp c6)], rfl⟩
        · have n5 := jlt_not (a := z) (b := (B (k + 1))) c5 (by omega) (by omega)
          refine jr_iinc [(5, .int (nI (k + 1))), (0, .ref bb), (1, .ref ba), (2, .ref bx), (3, .ref bg), (4, .int (nI z))] CC (jd ddL_came 16 rfl) 5 rfl (nI_1 _) (by decide) rfl ?_
          refine jr_goto 3 CC (jd ddL_came 17 rfl) (by decide) ?_
          refine jr_norm [(bb, .inl (t 0, 64, .inl fb)), (ba, .inl (t 0, 64, .inl fa)), (bx, .inl (t 0, 64, .inl fx)), (bg, .inl (t 0, 7, .inl g))] [] 3 0 0 rfl rfl rfl rfl rfl ?_
          refine jr_lv [1, 2, 3, 4, 5, 0] [(0, .ref bb), (1, .ref ba), (2, .ref bx), (3, .ref bg), (4, .int (nI z)), (5, .int (nI (k + 1)))] rfl ?_
          exact ih3 (k + 1) (by omega) (by omega) (by omega)
  refine jr_norm [(bb, .inl (t 0, 64, .inl fb)), (ba, .inl (t 0, 64, .inl fa)), (bx, .inl (t 0, 64, .inl fx)), (bg, .inl (t 0, 7, .inl g))] [] 3 0 0 rfl rfl rfl rfl rfl ?_
  refine jr_lv [1, 2, 3, 4, 5, 0] [(0, .ref bb), (1, .ref ba), (2, .ref bx), (3, .ref bg), (4, .int (nI z)), (5, .int (nI 0))] rfl ?_
  exact hL1 (G - 0 + 1) 0 hG1 (by rw [hB.1 hG1]; exact Nat.zero_le _) (Nat.lt_succ_self _)
set_option maxHeartbeats 8000000 in
set_option maxRecDepth 100000 in
theorem k_L_isRising (l : Launch) (t : Nat → ClassId) (hfl : l.stackTraces = false) (h0 : Nat) (x1 : Nat) (x2 : Nat) (x3 : Nat) (x4 : Nat) (x5 : Nat) (x6 : Nat) (fi : Int32) (M : Nat → Int32) (ca : Nat) (cg : Option Nat) (ad : Nat → Nat) (K : Nat → JCap) (e0 : Nat) (e1 : Nat) (e2 : Nat) (e3 : Nat) (pn : Nat) (ht : Int32) (KA : Nat → Int32) (DA : Nat → Int32) (CA : Nat → Int32) (ST : Nat → Int32) (RW : Nat → Int32) (m8 : Nat) (rr : Nat) (nn : Nat) (hM1 : M 1 = nI m8) (hm8 : m8 ≤ 8) (hK : recOK K m8) (hrr : rr < m8) (hnn : (K rr).2.2.1 = nI nn) (hn1 : 1 ≤ nn) (hn49 : nn ≤ 49) (hpn : pn ≤ 16) (hf : ∀ j, j < nn → rIn (jat (K rr) 0 j)) : jKx l t yL_isRising (Cond.code yL_isRising cL_isRising 7 (some .boolean) :: jWS) { frames := 10, cells := 158, slots := 948, locals := 209 } [.ref h0, .int (nI rr), .int (nI nn)] (([(h0, .inr (9, [.ref x1, .ref x2, .ref x3, .ref x4, .ref x5, .ref x6, .int fi])), (x2, .inr (5, jmem M ca cg)), (ca, .inl (t 2, 8, .inr (.inr (.inr (.inr (jcaps ad)))))), (x4, .inr (2, [.ref e0, .ref e1, .ref e2, .ref e3, .int (nI pn), .int ht])), (e0, .inl (t 0, 16, .inl KA)), (e1, .inl (t 0, 16, .inl DA)), (e2, .inl (t 0, 16, .inl CA)), (e3, .inl (t 0, 16, .inl ST)), (x5, .inl (t 0, 49, .inl RW))] : va_W) ++ jpool t ad K) (fun vv uu => (∃ CA9 : Nat → Int32, ∃ ST9 : Nat → Int32, ∃ RW9 : Nat → Int32, vv = some (.int 1) ∧ uu = (([(h0, .inr (9, [.ref x1, .ref x2, .ref x3, .ref x4, .ref x5, .ref x6, .int fi])), (x2, .inr (5, jmem M ca cg)), (ca, .inl (t 2, 8, .inr (.inr (.inr (.inr (jcaps ad)))))), (x4, .inr (2, [.ref e0, .ref e1, .ref e2, .ref e3, .int (nI pn), .int ht])), (e0, .inl (t 0, 16, .inl KA)), (e1, .inl (t 0, 16, .inl DA)), (e2, .inl (t 0, 16, .inl CA9)), (e3, .inl (t 0, 16, .inl ST9)), (x5, .inl (t 0, 49, .inl RW9))] : va_W) ++ jpool t ad K))) (fun _ _ => False) := by
  refine jK_of hfl (by decide +kernel) (Nat.le_of_ble_eq_true rfl) ?_
  intro p e s m args below meth c D A Q CC MM
  refine jr_norm0 [(0, .ref h0), (1, .int (nI rr)), (2, .int (nI nn))] rfl ?_
  refine jr_iconst (v := (-1)) CC (jd ddL_isRising 0 rfl) (by decide) ?_
  refine jr_istore_n 3 [(3, .int (-1)), (0, .ref h0), (1, .int (nI rr)), (2, .int (nI nn))] CC (jd ddL_isRising 1 rfl) rfl (by decide) rfl ?_
  refine jr_ldc CC (jk_L_107 CC.2.2.2.2.1) (jd ddL_isRising 2 rfl) ?_
  refine jr_istore [(4, .int (-2000000005)), (3, .int (-1)), (0, .ref h0), (1, .int (nI rr)), (2, .int (nI nn))] CC (jd ddL_isRising 3 rfl) (by decide) rfl ?_
  refine jr_iconst (v := 0) CC (jd ddL_isRising 4 rfl) (by decide) ?_
  refine jr_istore [(5, .int 0), (4, .int (-2000000005)), (3, .int (-1)), (0, .ref h0), (1, .int (nI rr)), (2, .int (nI nn))] CC (jd ddL_isRising 5 rfl) (by decide) rfl ?_
  have hL1 : ∀ (d9 : Nat) (k : Nat) (la : Int32) (du : Int32) (hk : k ≤ nn) (hq : riseI (jat (K rr) 0) nn k la du), nn - k < d9 → J p l e { frames := 10, cells := 158, slots := 948, locals := 209 } s m args below meth c D A 7 Q (([(h0, .inr (9, [.ref x1, .ref x2, .ref x3, .ref x4, .ref x5, .ref x6, .int fi])), (x2, .inr (5, jmem M ca cg)), (ca, .inl (t 2, 8, .inr (.inr (.inr (.inr (jcaps ad)))))), (x4, .inr (2, [.ref e0, .ref e1, .ref e2, .ref e3, .int (nI pn), .int ht])), (e0, .inl (t 0, 16, .inl KA)), (e1, .inl (t 0, 16, .inl DA)), (e2, .inl (t 0, 16, .inl CA)), (e3, .inl (t 0, 16, .inl ST)), (x5, .inl (t 0, 49, .inl RW))] : va_W) ++ jpool t ad K) [(0, .ref h0), (1, .int (nI rr)), (2, .int (nI nn)), (3, .int la), (4, .int du), (5, .int (nI k))] 9 [] (3 * k + 0) (18 * k + 0) := by
    intro d9
    induction d9 with
    | zero => intro k la du hk hq hmu; exact absurd hmu (Nat.not_lt_zero _)
    | succ d9 ih9 =>
      intro k la du hk hq hmu
      refine jr_iload CC (jd ddL_isRising 6 rfl) 5 rfl ?_
      refine jr_iload_n CC (jd ddL_isRising 7 rfl) 2 rfl ?_
      refine jr_icmp_ge 71 CC (jd ddL_isRising 8 rfl) (by decide) (fun c2 => ?_) (fun c2 => ?_)
      · have n2 := jle_of (a := nn) (b := k) c2 (by omega) (by omega)
        refine jr_aload_n CC (jd ddL_isRising 37 rfl) 0 rfl ?_
        refine jr_iconst (v := 3) CC (jd ddL_isRising 38 rfl) (by decide) ?_
        refine jr_iload_n CC (jd ddL_isRising 39 rfl) 1 rfl ?_
        refine jr_iconst (v := 0) CC (jd ddL_isRising 40 rfl) (by decide) ?_
        refine jr_bipush (v := (-3)) CC (jd ddL_isRising 41 rfl) (by decide) ?_
        refine jr_iconst (v := 4) CC (jd ddL_isRising 42 rfl) (by decide) ?_
        refine jr_norm (([(h0, .inr (9, [.ref x1, .ref x2, .ref x3, .ref x4, .ref x5, .ref x6, .int fi])), (x2, .inr (5, jmem M ca cg)), (ca, .inl (t 2, 8, .inr (.inr (.inr (.inr (jcaps ad)))))), (x4, .inr (2, [.ref e0, .ref e1, .ref e2, .ref e3, .int (nI pn), .int ht])), (e0, .inl (t 0, 16, .inl KA)), (e1, .inl (t 0, 16, .inl DA)), (e2, .inl (t 0, 16, .inl CA)), (e3, .inl (t 0, 16, .inl ST)), (x5, .inl (t 0, 49, .inl RW))] : va_W) ++ jpool t ad K) [.int 4, .int (-3), .int 0, .int (nI rr), .int 3, .ref h0] 78 (3 * k + 0) (18 * k + 0) rfl rfl rfl rfl rfl ?_
        refine jr_callW (rest := []) [.ref h0, .int 3, .int (nI rr), .int 0, .int (-3), .int 4] CC (jd ddL_isRising 43 rfl) (jy_L_124 CC) (k_L_measured3 l t hfl h0 x1 x2 x3 x4 x5 x6 fi M ca cg ad K e0 e1 e2 e3 pn ht KA DA CA ST RW m8 (nI rr) 0 (-3 : Int32) 4 hM1 hm8 hK hpn) ([0, 1, 2, 3, 4, 5, 6, 7, 8] ++ (List.range 32).map (fun i => 9 + i)) (jpool_isC 9 rfl (is := [0, 1, 2, 3, 4, 5, 6, 7, 8]) rfl (by decide)) (by decide) rfl rfl ⟨by decide, Nat.le_of_ble_eq_true rfl, show (3 * k + 0) + 4 ≤ 158 from by omega, show (18 * k + 0) + 24 ≤ 948 from by omega⟩ (Nat.le_of_ble_eq_true rfl) (by rintro v u h; rcases h with ⟨CA9, ST9, RW9, rfl, rfl⟩ <;> exact jpool_same rfl) (fun _ _ h => h.elim) (fun _ _ h => h.elim) (fun v u h => ?_)
        rcases h with ⟨zz3, zz4, zz5, rfl, rfl⟩
        refine jr_ws (jput [(h0, .inr (9, [.ref x1, .ref x2, .ref x3, .ref x4, .ref x5, .ref x6, .int fi])), (x2, .inr (5, jmem M ca cg)), (ca, .inl (t 2, 8, .inr (.inr (.inr (.inr (jcaps ad)))))), (x4, .inr (2, [.ref e0, .ref e1, .ref e2, .ref e3, .int (nI pn), .int ht])), (e0, .inl (t 0, 16, .inl KA)), (e1, .inl (t 0, 16, .inl DA)), (e2, .inl (t 0, 16, .inl CA)), (e3, .inl (t 0, 16, .inl ST)), (x5, .inl (t 0, 49, .inl RW))] [0, 1, 2, 3, 4, 5, 6, 7, 8] [(h0, .inr (9, [.ref x1, .ref x2, .ref x3, .ref x4, .ref x5, .ref x6, .int fi])), (x2, .inr (5, jmem M ca cg)), (ca, .inl (t 2, 8, .inr (.inr (.inr (.inr (jcaps ad)))))), (x4, .inr (2, [.ref e0, .ref e1, .ref e2, .ref e3, .int (nI pn), .int ht])), (e0, .inl (t 0, 16, .inl KA)), (e1, .inl (t 0, 16, .inl DA)), (e2, .inl (t 0, 16, .inl zz3)), (e3, .inl (t 0, 16, .inl zz4)), (x5, .inl (t 0, 49, .inl zz5))] ++ jpool t ad K) (jpool_after 9 rfl rfl rfl (by decide)) ?_
        refine jr_norm (([(h0, .inr (9, [.ref x1, .ref x2, .ref x3, .ref x4, .ref x5, .ref x6, .int fi])), (x2, .inr (5, jmem M ca cg)), (ca, .inl (t 2, 8, .inr (.inr (.inr (.inr (jcaps ad)))))), (x4, .inr (2, [.ref e0, .ref e1, .ref e2, .ref e3, .int (nI pn), .int ht])), (e0, .inl (t 0, 16, .inl KA)), (e1, .inl (t 0, 16, .inl DA)), (e2, .inl (t 0, 16, .inl zz3)), (e3, .inl (t 0, 16, .inl zz4)), (x5, .inl (t 0, 49, .inl zz5))] : va_W) ++ jpool t ad K) [.int (wP (eRise (M 1) (nI rr) 0 (-3 : Int32) 4 ht (rowRise (rowOf KA DA pn 0 (K (nI rr).toNatClampNeg) RW ST CA).1 (-3 : Int32) 4 (K (nI rr).toNatClampNeg).2.2.1)) ((rowRise (rowOf KA DA pn 0 (K (nI rr).toNatClampNeg) RW ST CA).1 (-3 : Int32) 4 (K (nI rr).toNatClampNeg).2.2.1).getD 0) (-2000000030) (-2000000020) (-2000000010) (-2000000005))] 81 (3 * k + 4) (18 * k + 24) rfl rfl rfl rfl rfl ?_
        refine jr_st [.int ((jrise (jat (K rr) 0) (-3) 4 nn 0 (-1)).getD (-2000000005))] (jst1 (wm_ri hM1 hm8 hrr hnn hn49 KA DA RW ST CA pn ht _ _ _ _)) ?_
        refine jr_iload CC (jd ddL_isRising 44 rfl) 4 rfl ?_
        refine jr_icmp_ne 118 CC (jd ddL_isRising 45 rfl) (by decide) (fun h => absurd h (fun h9 => h9 (riseI_e hq (Or.inl (by omega))))) (fun _ => ?_)
        refine jr_aload_n CC (jd ddL_isRising 46 rfl) 0 rfl ?_
        refine jr_iconst (v := 3) CC (jd ddL_isRising 47 rfl) (by decide) ?_
        refine jr_iload_n CC (jd ddL_isRising 48 rfl) 1 rfl ?_
        refine jr_iconst (v := 0) CC (jd ddL_isRising 49 rfl) (by decide) ?_
        refine jr_iconst (v := 4) CC (jd ddL_isRising 50 rfl) (by decide) ?_
        refine jr_iconst (v := 4) CC (jd ddL_isRising 51 rfl) (by decide) ?_
        refine jr_norm (([(h0, .inr (9, [.ref x1, .ref x2, .ref x3, .ref x4, .ref x5, .ref x6, .int fi])), (x2, .inr (5, jmem M ca cg)), (ca, .inl (t 2, 8, .inr (.inr (.inr (.inr (jcaps ad)))))), (x4, .inr (2, [.ref e0, .ref e1, .ref e2, .ref e3, .int (nI pn), .int ht])), (e0, .inl (t 0, 16, .inl KA)), (e1, .inl (t 0, 16, .inl DA)), (e2, .inl (t 0, 16, .inl zz3)), (e3, .inl (t 0, 16, .inl zz4)), (x5, .inl (t 0, 49, .inl zz5))] : va_W) ++ jpool t ad K) [.int 4, .int 4, .int 0, .int (nI rr), .int 3, .ref h0] 92 (3 * k + 4) (18 * k + 24) rfl rfl rfl rfl rfl ?_
        refine jr_callW (rest := []) [.ref h0, .int 3, .int (nI rr), .int 0, .int 4, .int 4] CC (jd ddL_isRising 52 rfl) (jy_L_124 CC) (k_L_measured3 l t hfl h0 x1 x2 x3 x4 x5 x6 fi M ca cg ad K e0 e1 e2 e3 pn ht KA DA zz3 zz4 zz5 m8 (nI rr) 0 4 4 hM1 hm8 hK hpn) ([0, 1, 2, 3, 4, 5, 6, 7, 8] ++ (List.range 32).map (fun i => 9 + i)) (jpool_isC 9 rfl (is := [0, 1, 2, 3, 4, 5, 6, 7, 8]) rfl (by decide)) (by decide) rfl rfl ⟨by decide, Nat.le_of_ble_eq_true rfl, show (3 * k + 4) + 4 ≤ 158 from by omega, show (18 * k + 24) + 24 ≤ 948 from by omega⟩ (Nat.le_of_ble_eq_true rfl) (by rintro v u h; rcases h with ⟨CA9, ST9, RW9, rfl, rfl⟩ <;> exact jpool_same rfl) (fun _ _ h => h.elim) (fun _ _ h => h.elim) (fun v u h => ?_)
        rcases h with ⟨zz6, zz7, zz8, rfl, rfl⟩
        refine jr_ws (jput [(h0, .inr (9, [.ref x1, .ref x2, .ref x3, .ref x4, .ref x5, .ref x6, .int fi])), (x2, .inr (5, jmem M ca cg)), (ca, .inl (t 2, 8, .inr (.inr (.inr (.inr (jcaps ad)))))), (x4, .inr (2, [.ref e0, .ref e1, .ref e2, .ref e3, .int (nI pn), .int ht])), (e0, .inl (t 0, 16, .inl KA)), (e1, .inl (t 0, 16, .inl DA)), (e2, .inl (t 0, 16, .inl zz3)), (e3, .inl (t 0, 16, .inl zz4)), (x5, .inl (t 0, 49, .inl zz5))] [0, 1, 2, 3, 4, 5, 6, 7, 8] [(h0, .inr (9, [.ref x1, .ref x2, .ref x3, .ref x4, .ref x5, .ref x6, .int fi])), (x2, .inr (5, jmem M ca cg)), (ca, .inl (t 2, 8, .inr (.inr (.inr (.inr (jcaps ad)))))), (x4, .inr (2, [.ref e0, .ref e1, .ref e2, .ref e3, .int (nI pn), .int ht])), (e0, .inl (t 0, 16, .inl KA)), (e1, .inl (t 0, 16, .inl DA)), (e2, .inl (t 0, 16, .inl zz6)), (e3, .inl (t 0, 16, .inl zz7)), (x5, .inl (t 0, 49, .inl zz8))] ++ jpool t ad K) (jpool_after 9 rfl rfl rfl (by decide)) ?_
        refine jr_norm (([(h0, .inr (9, [.ref x1, .ref x2, .ref x3, .ref x4, .ref x5, .ref x6, .int fi])), (x2, .inr (5, jmem M ca cg)), (ca, .inl (t 2, 8, .inr (.inr (.inr (.inr (jcaps ad)))))), (x4, .inr (2, [.ref e0, .ref e1, .ref e2, .ref e3, .int (nI pn), .int ht])), (e0, .inl (t 0, 16, .inl KA)), (e1, .inl (t 0, 16, .inl DA)), (e2, .inl (t 0, 16, .inl zz6)), (e3, .inl (t 0, 16, .inl zz7)), (x5, .inl (t 0, 49, .inl zz8))] : va_W) ++ jpool t ad K) [.int (wP (eRise (M 1) (nI rr) 0 4 4 ht (rowRise (rowOf KA DA pn 0 (K (nI rr).toNatClampNeg) zz5 zz4 zz3).1 4 4 (K (nI rr).toNatClampNeg).2.2.1)) ((rowRise (rowOf KA DA pn 0 (K (nI rr).toNatClampNeg) zz5 zz4 zz3).1 4 4 (K (nI rr).toNatClampNeg).2.2.1).getD 0) (-2000000030) (-2000000020) (-2000000010) (-2000000005))] 95 (3 * k + 8) (18 * k + 48) rfl rfl rfl rfl rfl ?_
        refine jr_st [.int (-2000000020)] (jst1 (wm_ri4 hM1 hm8 hrr ht _ _ _ _ _ _)) ?_
        refine jr_ldc CC (jk_L_106 CC.2.2.2.2.1) (jd ddL_isRising 53 rfl) ?_
        refine jr_icmp_ne 118 CC (jd ddL_isRising 54 rfl) (by decide) (fun h => absurd h (by decide)) (fun _ => ?_)
        refine jr_aload_n CC (jd ddL_isRising 55 rfl) 0 rfl ?_
        refine jr_iconst (v := 0) CC (jd ddL_isRising 56 rfl) (by decide) ?_
        refine jr_iload_n CC (jd ddL_isRising 57 rfl) 1 rfl ?_
        refine jr_iconst (v := 3) CC (jd ddL_isRising 58 rfl) (by decide) ?_
        refine jr_iconst (v := 0) CC (jd ddL_isRising 59 rfl) (by decide) ?_
        refine jr_iconst (v := 0) CC (jd ddL_isRising 60 rfl) (by decide) ?_
        refine jr_norm (([(h0, .inr (9, [.ref x1, .ref x2, .ref x3, .ref x4, .ref x5, .ref x6, .int fi])), (x2, .inr (5, jmem M ca cg)), (ca, .inl (t 2, 8, .inr (.inr (.inr (.inr (jcaps ad)))))), (x4, .inr (2, [.ref e0, .ref e1, .ref e2, .ref e3, .int (nI pn), .int ht])), (e0, .inl (t 0, 16, .inl KA)), (e1, .inl (t 0, 16, .inl DA)), (e2, .inl (t 0, 16, .inl zz6)), (e3, .inl (t 0, 16, .inl zz7)), (x5, .inl (t 0, 49, .inl zz8))] : va_W) ++ jpool t ad K) [.int 0, .int 0, .int 3, .int (nI rr), .int 0, .ref h0] 106 (3 * k + 8) (18 * k + 48) rfl rfl rfl rfl rfl ?_
        refine jr_callW (rest := []) [.ref h0, .int 0, .int (nI rr), .int 3, .int 0, .int 0] CC (jd ddL_isRising 61 rfl) (jy_L_124 CC) (k_L_measured0 l t hfl h0 x1 x2 x3 x4 x5 x6 fi M ca cg ad K e0 e1 e2 e3 pn ht KA DA zz6 zz7 zz8 m8 (nI rr) 3 0 0 hM1 hm8 hK hpn) ([0, 1, 2, 3, 4, 5, 6, 7, 8] ++ (List.range 32).map (fun i => 9 + i)) (jpool_isC 9 rfl (is := [0, 1, 2, 3, 4, 5, 6, 7, 8]) rfl (by decide)) (by decide) rfl rfl ⟨by decide, Nat.le_of_ble_eq_true rfl, show (3 * k + 8) + 3 ≤ 158 from by omega, show (18 * k + 48) + 18 ≤ 948 from by omega⟩ (Nat.le_of_ble_eq_true rfl) (by rintro v u h; rcases h with ⟨CA9, ST9, RW9, rfl, rfl⟩ <;> exact jpool_same rfl) (fun _ _ h => h.elim) (fun _ _ h => h.elim) (fun v u h => ?_)
        rcases h with ⟨zz10, zz11, zz12, rfl, rfl⟩
        refine jr_ws (jput [(h0, .inr (9, [.ref x1, .ref x2, .ref x3, .ref x4, .ref x5, .ref x6, .int fi])), (x2, .inr (5, jmem M ca cg)), (ca, .inl (t 2, 8, .inr (.inr (.inr (.inr (jcaps ad)))))), (x4, .inr (2, [.ref e0, .ref e1, .ref e2, .ref e3, .int (nI pn), .int ht])), (e0, .inl (t 0, 16, .inl KA)), (e1, .inl (t 0, 16, .inl DA)), (e2, .inl (t 0, 16, .inl zz6)), (e3, .inl (t 0, 16, .inl zz7)), (x5, .inl (t 0, 49, .inl zz8))] [0, 1, 2, 3, 4, 5, 6, 7, 8] [(h0, .inr (9, [.ref x1, .ref x2, .ref x3, .ref x4, .ref x5, .ref x6, .int fi])), (x2, .inr (5, jmem M ca cg)), (ca, .inl (t 2, 8, .inr (.inr (.inr (.inr (jcaps ad)))))), (x4, .inr (2, [.ref e0, .ref e1, .ref e2, .ref e3, .int (nI pn), .int ht])), (e0, .inl (t 0, 16, .inl KA)), (e1, .inl (t 0, 16, .inl DA)), (e2, .inl (t 0, 16, .inl zz10)), (e3, .inl (t 0, 16, .inl zz11)), (x5, .inl (t 0, 49, .inl zz12))] ++ jpool t ad K) (jpool_after 9 rfl rfl rfl (by decide)) ?_
        refine jr_norm (([(h0, .inr (9, [.ref x1, .ref x2, .ref x3, .ref x4, .ref x5, .ref x6, .int fi])), (x2, .inr (5, jmem M ca cg)), (ca, .inl (t 2, 8, .inr (.inr (.inr (.inr (jcaps ad)))))), (x4, .inr (2, [.ref e0, .ref e1, .ref e2, .ref e3, .int (nI pn), .int ht])), (e0, .inl (t 0, 16, .inl KA)), (e1, .inl (t 0, 16, .inl DA)), (e2, .inl (t 0, 16, .inl zz10)), (e3, .inl (t 0, 16, .inl zz11)), (x5, .inl (t 0, 49, .inl zz12))] : va_W) ++ jpool t ad K) [.int (wP (eSrc (M 1) (nI rr) 3 ht) (rowLo (rowOf KA DA pn 3 (K (nI rr).toNatClampNeg) zz8 zz7 zz6).1 (K (nI rr).toNatClampNeg).2.2.1) (-2000000030) (-2000000020) (-2000000010) 0)] 109 (3 * k + 11) (18 * k + 66) rfl rfl rfl rfl rfl ?_
        refine jr_st [.int (-2000000020)] (jst1 (wm_bad hM1 hm8 hrr ht _ _ _ _ _)) ?_
        refine jr_ldc CC (jk_L_106 CC.2.2.2.2.1) (jd ddL_isRising 62 rfl) ?_
        refine jr_icmp_ne 118 CC (jd ddL_isRising 63 rfl) (by decide) (fun h => absurd h (by decide)) (fun _ => ?_)
        refine jr_iconst (v := 1) CC (jd ddL_isRising 64 rfl) (by decide) ?_
        refine jr_goto 119 CC (jd ddL_isRising 65 rfl) (by decide) ?_
        exact jr_zret rfl CC MM (jd ddL_isRising 67 rfl) rfl (show (3 * k + 11) ≤ 158 from by omega) (show (18 * k + 66) ≤ 948 from by omega) ⟨zz10, zz11, zz12, rfl, rfl⟩
      · have n2 := jle_not (a := nn) (b := k) c2 (by omega) (by omega)
        refine jr_iload CC (jd ddL_isRising 9 rfl) 4 rfl ?_
        refine jr_if_ge 71 CC (jd ddL_isRising 10 rfl) (by decide) (fun c14 => ?_) (fun c14 => ?_)
        · refine jr_aload_n CC (jd ddL_isRising 37 rfl) 0 rfl ?_
          refine jr_iconst (v := 3) CC (jd ddL_isRising 38 rfl) (by decide) ?_
          refine jr_iload_n CC (jd ddL_isRising 39 rfl) 1 rfl ?_
          refine jr_iconst (v := 0) CC (jd ddL_isRising 40 rfl) (by decide) ?_
          refine jr_bipush (v := (-3)) CC (jd ddL_isRising 41 rfl) (by decide) ?_
          refine jr_pc (pc' := 77) rfl ?_
          refine jr_iconst (v := 4) CC (jd ddL_isRising 42 rfl) (by decide) ?_
          refine jr_norm (([(h0, .inr (9, [.ref x1, .ref x2, .ref x3, .ref x4, .ref x5, .ref x6, .int fi])), (x2, .inr (5, jmem M ca cg)), (ca, .inl (t 2, 8, .inr (.inr (.inr (.inr (jcaps ad)))))), (x4, .inr (2, [.ref e0, .ref e1, .ref e2, .ref e3, .int (nI pn), .int ht])), (e0, .inl (t 0, 16, .inl KA)), (e1, .inl (t 0, 16, .inl DA)), (e2, .inl (t 0, 16, .inl CA)), (e3, .inl (t 0, 16, .inl ST)), (x5, .inl (t 0, 49, .inl RW))] : va_W) ++ jpool t ad K) [.int 4, .int (-3), .int 0, .int (nI rr), .int 3, .ref h0] 78 (3 * k + 0) (18 * k + 0) rfl rfl rfl rfl rfl ?_
          refine jr_callW (rest := []) [.ref h0, .int 3, .int (nI rr), .int 0, .int (-3), .int 4] CC (jd ddL_isRising 43 rfl) (jy_L_124 CC) (k_L_measured3 l t hfl h0 x1 x2 x3 x4 x5 x6 fi M ca cg ad K e0 e1 e2 e3 pn ht KA DA CA ST RW m8 (nI rr) 0 (-3 : Int32) 4 hM1 hm8 hK hpn) ([0, 1, 2, 3, 4, 5, 6, 7, 8] ++ (List.range 32).map (fun i => 9 + i)) (jpool_isC 9 rfl (is := [0, 1, 2, 3, 4, 5, 6, 7, 8]) rfl (by decide)) (by decide) rfl rfl ⟨by decide, Nat.le_of_ble_eq_true rfl, show (3 * k + 0) + 4 ≤ 158 from by omega, show (18 * k + 0) + 24 ≤ 948 from by omega⟩ (Nat.le_of_ble_eq_true rfl) (by rintro v u h; rcases h with ⟨CA9, ST9, RW9, rfl, rfl⟩ <;> exact jpool_same rfl) (fun _ _ h => h.elim) (fun _ _ h => h.elim) (fun v u h => ?_)
          rcases h with ⟨zz15, zz16, zz17, rfl, rfl⟩
          refine jr_ws (jput [(h0, .inr (9, [.ref x1, .ref x2, .ref x3, .ref x4, .ref x5, .ref x6, .int fi])), (x2, .inr (5, jmem M ca cg)), (ca, .inl (t 2, 8, .inr (.inr (.inr (.inr (jcaps ad)))))), (x4, .inr (2, [.ref e0, .ref e1, .ref e2, .ref e3, .int (nI pn), .int ht])), (e0, .inl (t 0, 16, .inl KA)), (e1, .inl (t 0, 16, .inl DA)), (e2, .inl (t 0, 16, .inl CA)), (e3, .inl (t 0, 16, .inl ST)), (x5, .inl (t 0, 49, .inl RW))] [0, 1, 2, 3, 4, 5, 6, 7, 8] [(h0, .inr (9, [.ref x1, .ref x2, .ref x3, .ref x4, .ref x5, .ref x6, .int fi])), (x2, .inr (5, jmem M ca cg)), (ca, .inl (t 2, 8, .inr (.inr (.inr (.inr (jcaps ad)))))), (x4, .inr (2, [.ref e0, .ref e1, .ref e2, .ref e3, .int (nI pn), .int ht])), (e0, .inl (t 0, 16, .inl KA)), (e1, .inl (t 0, 16, .inl DA)), (e2, .inl (t 0, 16, .inl zz15)), (e3, .inl (t 0, 16, .inl zz16)), (x5, .inl (t 0, 49, .inl zz17))] ++ jpool t ad K) (jpool_after 9 rfl rfl rfl (by decide)) ?_
          refine jr_norm (([(h0, .inr (9, [.ref x1, .ref x2, .ref x3, .ref x4, .ref x5, .ref x6, .int fi])), (x2, .inr (5, jmem M ca cg)), (ca, .inl (t 2, 8, .inr (.inr (.inr (.inr (jcaps ad)))))), (x4, .inr (2, [.ref e0, .ref e1, .ref e2, .ref e3, .int (nI pn), .int ht])), (e0, .inl (t 0, 16, .inl KA)), (e1, .inl (t 0, 16, .inl DA)), (e2, .inl (t 0, 16, .inl zz15)), (e3, .inl (t 0, 16, .inl zz16)), (x5, .inl (t 0, 49, .inl zz17))] : va_W) ++ jpool t ad K) [.int (wP (eRise (M 1) (nI rr) 0 (-3 : Int32) 4 ht (rowRise (rowOf KA DA pn 0 (K (nI rr).toNatClampNeg) RW ST CA).1 (-3 : Int32) 4 (K (nI rr).toNatClampNeg).2.2.1)) ((rowRise (rowOf KA DA pn 0 (K (nI rr).toNatClampNeg) RW ST CA).1 (-3 : Int32) 4 (K (nI rr).toNatClampNeg).2.2.1).getD 0) (-2000000030) (-2000000020) (-2000000010) (-2000000005))] 81 (3 * k + 4) (18 * k + 24) rfl rfl rfl rfl rfl ?_
          refine jr_st [.int ((jrise (jat (K rr) 0) (-3) 4 nn 0 (-1)).getD (-2000000005))] (jst1 (wm_ri hM1 hm8 hrr hnn hn49 KA DA RW ST CA pn ht _ _ _ _)) ?_
          refine jr_iload CC (jd ddL_isRising 44 rfl) 4 rfl ?_
          refine jr_icmp_ne 118 CC (jd ddL_isRising 45 rfl) (by decide) (fun h => absurd h (fun h9 => h9 (riseI_e hq (Or.inr c14)))) (fun _ => ?_)
          refine jr_aload_n CC (jd ddL_isRising 46 rfl) 0 rfl ?_
          refine jr_iconst (v := 3) CC (jd ddL_isRising 47 rfl) (by decide) ?_
          refine jr_iload_n CC (jd ddL_isRising 48 rfl) 1 rfl ?_
          refine jr_iconst (v := 0) CC (jd ddL_isRising 49 rfl) (by decide) ?_
          refine jr_iconst (v := 4) CC (jd ddL_isRising 50 rfl) (by decide) ?_
          refine jr_iconst (v := 4) CC (jd ddL_isRising 51 rfl) (by decide) ?_
          refine jr_norm (([(h0, .inr (9, [.ref x1, .ref x2, .ref x3, .ref x4, .ref x5, .ref x6, .int fi])), (x2, .inr (5, jmem M ca cg)), (ca, .inl (t 2, 8, .inr (.inr (.inr (.inr (jcaps ad)))))), (x4, .inr (2, [.ref e0, .ref e1, .ref e2, .ref e3, .int (nI pn), .int ht])), (e0, .inl (t 0, 16, .inl KA)), (e1, .inl (t 0, 16, .inl DA)), (e2, .inl (t 0, 16, .inl zz15)), (e3, .inl (t 0, 16, .inl zz16)), (x5, .inl (t 0, 49, .inl zz17))] : va_W) ++ jpool t ad K) [.int 4, .int 4, .int 0, .int (nI rr), .int 3, .ref h0] 92 (3 * k + 4) (18 * k + 24) rfl rfl rfl rfl rfl ?_
          refine jr_callW (rest := []) [.ref h0, .int 3, .int (nI rr), .int 0, .int 4, .int 4] CC (jd ddL_isRising 52 rfl) (jy_L_124 CC) (k_L_measured3 l t hfl h0 x1 x2 x3 x4 x5 x6 fi M ca cg ad K e0 e1 e2 e3 pn ht KA DA zz15 zz16 zz17 m8 (nI rr) 0 4 4 hM1 hm8 hK hpn) ([0, 1, 2, 3, 4, 5, 6, 7, 8] ++ (List.range 32).map (fun i => 9 + i)) (jpool_isC 9 rfl (is := [0, 1, 2, 3, 4, 5, 6, 7, 8]) rfl (by decide)) (by decide) rfl rfl ⟨by decide, Nat.le_of_ble_eq_true rfl, show (3 * k + 4) + 4 ≤ 158 from by omega, show (18 * k + 24) + 24 ≤ 948 from by omega⟩ (Nat.le_of_ble_eq_true rfl) (by rintro v u h; rcases h with ⟨CA9, ST9, RW9, rfl, rfl⟩ <;> exact jpool_same rfl) (fun _ _ h => h.elim) (fun _ _ h => h.elim) (fun v u h => ?_)
          rcases h with ⟨zz18, zz19, zz20, rfl, rfl⟩
          refine jr_ws (jput [(h0, .inr (9, [.ref x1, .ref x2, .ref x3, .ref x4, .ref x5, .ref x6, .int fi])), (x2, .inr (5, jmem M ca cg)), (ca, .inl (t 2, 8, .inr (.inr (.inr (.inr (jcaps ad)))))), (x4, .inr (2, [.ref e0, .ref e1, .ref e2, .ref e3, .int (nI pn), .int ht])), (e0, .inl (t 0, 16, .inl KA)), (e1, .inl (t 0, 16, .inl DA)), (e2, .inl (t 0, 16, .inl zz15)), (e3, .inl (t 0, 16, .inl zz16)), (x5, .inl (t 0, 49, .inl zz17))] [0, 1, 2, 3, 4, 5, 6, 7, 8] [(h0, .inr (9, [.ref x1, .ref x2, .ref x3, .ref x4, .ref x5, .ref x6, .int fi])), (x2, .inr (5, jmem M ca cg)), (ca, .inl (t 2, 8, .inr (.inr (.inr (.inr (jcaps ad)))))), (x4, .inr (2, [.ref e0, .ref e1, .ref e2, .ref e3, .int (nI pn), .int ht])), (e0, .inl (t 0, 16, .inl KA)), (e1, .inl (t 0, 16, .inl DA)), (e2, .inl (t 0, 16, .inl zz18)), (e3, .inl (t 0, 16, .inl zz19)), (x5, .inl (t 0, 49, .inl zz20))] ++ jpool t ad K) (jpool_after 9 rfl rfl rfl (by decide)) ?_
          refine jr_norm (([(h0, .inr (9, [.ref x1, .ref x2, .ref x3, .ref x4, .ref x5, .ref x6, .int fi])), (x2, .inr (5, jmem M ca cg)), (ca, .inl (t 2, 8, .inr (.inr (.inr (.inr (jcaps ad)))))), (x4, .inr (2, [.ref e0, .ref e1, .ref e2, .ref e3, .int (nI pn), .int ht])), (e0, .inl (t 0, 16, .inl KA)), (e1, .inl (t 0, 16, .inl DA)), (e2, .inl (t 0, 16, .inl zz18)), (e3, .inl (t 0, 16, .inl zz19)), (x5, .inl (t 0, 49, .inl zz20))] : va_W) ++ jpool t ad K) [.int (wP (eRise (M 1) (nI rr) 0 4 4 ht (rowRise (rowOf KA DA pn 0 (K (nI rr).toNatClampNeg) zz17 zz16 zz15).1 4 4 (K (nI rr).toNatClampNeg).2.2.1)) ((rowRise (rowOf KA DA pn 0 (K (nI rr).toNatClampNeg) zz17 zz16 zz15).1 4 4 (K (nI rr).toNatClampNeg).2.2.1).getD 0) (-2000000030) (-2000000020) (-2000000010) (-2000000005))] 95 (3 * k + 8) (18 * k + 48) rfl rfl rfl rfl rfl ?_
          refine jr_st [.int (-2000000020)] (jst1 (wm_ri4 hM1 hm8 hrr ht _ _ _ _ _ _)) ?_
          refine jr_ldc CC (jk_L_106 CC.2.2.2.2.1) (jd ddL_isRising 53 rfl) ?_
          refine jr_icmp_ne 118 CC (jd ddL_isRising 54 rfl) (by decide) (fun h => absurd h (by decide)) (fun _ => ?_)
          refine jr_aload_n CC (jd ddL_isRising 55 rfl) 0 rfl ?_
          refine jr_iconst (v := 0) CC (jd ddL_isRising 56 rfl) (by decide) ?_
          refine jr_iload_n CC (jd ddL_isRising 57 rfl) 1 rfl ?_
          refine jr_iconst (v := 3) CC (jd ddL_isRising 58 rfl) (by decide) ?_
          refine jr_iconst (v := 0) CC (jd ddL_isRising 59 rfl) (by decide) ?_
          refine jr_iconst (v := 0) CC (jd ddL_isRising 60 rfl) (by decide) ?_
          refine jr_norm (([(h0, .inr (9, [.ref x1, .ref x2, .ref x3, .ref x4, .ref x5, .ref x6, .int fi])), (x2, .inr (5, jmem M ca cg)), (ca, .inl (t 2, 8, .inr (.inr (.inr (.inr (jcaps ad)))))), (x4, .inr (2, [.ref e0, .ref e1, .ref e2, .ref e3, .int (nI pn), .int ht])), (e0, .inl (t 0, 16, .inl KA)), (e1, .inl (t 0, 16, .inl DA)), (e2, .inl (t 0, 16, .inl zz18)), (e3, .inl (t 0, 16, .inl zz19)), (x5, .inl (t 0, 49, .inl zz20))] : va_W) ++ jpool t ad K) [.int 0, .int 0, .int 3, .int (nI rr), .int 0, .ref h0] 106 (3 * k + 8) (18 * k + 48) rfl rfl rfl rfl rfl ?_
          refine jr_callW (rest := []) [.ref h0, .int 0, .int (nI rr), .int 3, .int 0, .int 0] CC (jd ddL_isRising 61 rfl) (jy_L_124 CC) (k_L_measured0 l t hfl h0 x1 x2 x3 x4 x5 x6 fi M ca cg ad K e0 e1 e2 e3 pn ht KA DA zz18 zz19 zz20 m8 (nI rr) 3 0 0 hM1 hm8 hK hpn) ([0, 1, 2, 3, 4, 5, 6, 7, 8] ++ (List.range 32).map (fun i => 9 + i)) (jpool_isC 9 rfl (is := [0, 1, 2, 3, 4, 5, 6, 7, 8]) rfl (by decide)) (by decide) rfl rfl ⟨by decide, Nat.le_of_ble_eq_true rfl, show (3 * k + 8) + 3 ≤ 158 from by omega, show (18 * k + 48) + 18 ≤ 948 from by omega⟩ (Nat.le_of_ble_eq_true rfl) (by rintro v u h; rcases h with ⟨CA9, ST9, RW9, rfl, rfl⟩ <;> exact jpool_same rfl) (fun _ _ h => h.elim) (fun _ _ h => h.elim) (fun v u h => ?_)
          rcases h with ⟨zz22, zz23, zz24, rfl, rfl⟩
          refine jr_ws (jput [(h0, .inr (9, [.ref x1, .ref x2, .ref x3, .ref x4, .ref x5, .ref x6, .int fi])), (x2, .inr (5, jmem M ca cg)), (ca, .inl (t 2, 8, .inr (.inr (.inr (.inr (jcaps ad)))))), (x4, .inr (2, [.ref e0, .ref e1, .ref e2, .ref e3, .int (nI pn), .int ht])), (e0, .inl (t 0, 16, .inl KA)), (e1, .inl (t 0, 16, .inl DA)), (e2, .inl (t 0, 16, .inl zz18)), (e3, .inl (t 0, 16, .inl zz19)), (x5, .inl (t 0, 49, .inl zz20))] [0, 1, 2, 3, 4, 5, 6, 7, 8] [(h0, .inr (9, [.ref x1, .ref x2, .ref x3, .ref x4, .ref x5, .ref x6, .int fi])), (x2, .inr (5, jmem M ca cg)), (ca, .inl (t 2, 8, .inr (.inr (.inr (.inr (jcaps ad)))))), (x4, .inr (2, [.ref e0, .ref e1, .ref e2, .ref e3, .int (nI pn), .int ht])), (e0, .inl (t 0, 16, .inl KA)), (e1, .inl (t 0, 16, .inl DA)), (e2, .inl (t 0, 16, .inl zz22)), (e3, .inl (t 0, 16, .inl zz23)), (x5, .inl (t 0, 49, .inl zz24))] ++ jpool t ad K) (jpool_after 9 rfl rfl rfl (by decide)) ?_
          refine jr_norm (([(h0, .inr (9, [.ref x1, .ref x2, .ref x3, .ref x4, .ref x5, .ref x6, .int fi])), (x2, .inr (5, jmem M ca cg)), (ca, .inl (t 2, 8, .inr (.inr (.inr (.inr (jcaps ad)))))), (x4, .inr (2, [.ref e0, .ref e1, .ref e2, .ref e3, .int (nI pn), .int ht])), (e0, .inl (t 0, 16, .inl KA)), (e1, .inl (t 0, 16, .inl DA)), (e2, .inl (t 0, 16, .inl zz22)), (e3, .inl (t 0, 16, .inl zz23)), (x5, .inl (t 0, 49, .inl zz24))] : va_W) ++ jpool t ad K) [.int (wP (eSrc (M 1) (nI rr) 3 ht) (rowLo (rowOf KA DA pn 3 (K (nI rr).toNatClampNeg) zz20 zz19 zz18).1 (K (nI rr).toNatClampNeg).2.2.1) (-2000000030) (-2000000020) (-2000000010) 0)] 109 (3 * k + 11) (18 * k + 66) rfl rfl rfl rfl rfl ?_
          refine jr_st [.int (-2000000020)] (jst1 (wm_bad hM1 hm8 hrr ht _ _ _ _ _)) ?_
          refine jr_ldc CC (jk_L_106 CC.2.2.2.2.1) (jd ddL_isRising 62 rfl) ?_
          refine jr_icmp_ne 118 CC (jd ddL_isRising 63 rfl) (by decide) (fun h => absurd h (by decide)) (fun _ => ?_)
          refine jr_iconst (v := 1) CC (jd ddL_isRising 64 rfl) (by decide) ?_
          refine jr_goto 119 CC (jd ddL_isRising 65 rfl) (by decide) ?_
          exact jr_zret rfl CC MM (jd ddL_isRising 67 rfl) rfl (show (3 * k + 11) ≤ 158 from by omega) (show (18 * k + 66) ≤ 948 from by omega) ⟨zz22, zz23, zz24, rfl, rfl⟩
        · refine jr_aload_n CC (jd ddL_isRising 11 rfl) 0 rfl ?_
          refine jr_iload_n CC (jd ddL_isRising 12 rfl) 1 rfl ?_
          refine jr_iconst (v := 0) CC (jd ddL_isRising 13 rfl) (by decide) ?_
          refine jr_iload CC (jd ddL_isRising 14 rfl) 5 rfl ?_
          refine jr_norm (([(h0, .inr (9, [.ref x1, .ref x2, .ref x3, .ref x4, .ref x5, .ref x6, .int fi])), (x2, .inr (5, jmem M ca cg)), (ca, .inl (t 2, 8, .inr (.inr (.inr (.inr (jcaps ad)))))), (x4, .inr (2, [.ref e0, .ref e1, .ref e2, .ref e3, .int (nI pn), .int ht])), (e0, .inl (t 0, 16, .inl KA)), (e1, .inl (t 0, 16, .inl DA)), (e2, .inl (t 0, 16, .inl CA)), (e3, .inl (t 0, 16, .inl ST)), (x5, .inl (t 0, 49, .inl RW))] : va_W) ++ jpool t ad K) [.int (nI k), .int 0, .int (nI rr), .ref h0] 25 (3 * k + 0) (18 * k + 0) rfl rfl rfl rfl rfl ?_
          refine jr_callW (rest := []) [.ref h0, .int (nI rr), .int 0, .int (nI k)] CC (jd ddL_isRising 15 rfl) (jy_L_117 CC) (k_L_value l t hfl h0 x1 x2 x3 x4 x5 x6 fi M ca cg ad K m8 (nI rr) 0 (nI k) hM1 hm8 hK) ([0, 1, 2] ++ (List.range 32).map (fun i => 9 + i)) (jpool_isC 9 rfl (is := [0, 1, 2]) rfl (by decide)) (by decide) rfl rfl ⟨by decide, Nat.le_of_ble_eq_true rfl, show (3 * k + 0) + 3 ≤ 158 from by omega, show (18 * k + 0) + 18 ≤ 948 from by omega⟩ (Nat.le_of_ble_eq_true rfl) (by rintro v u h; rcases h with ⟨rfl, rfl⟩ <;> exact jpool_same rfl) (fun _ _ h => h.elim) (fun _ _ h => h.elim) (fun v u h => ?_)
          rcases h with ⟨rfl, rfl⟩
          refine jr_ws (jput [(h0, .inr (9, [.ref x1, .ref x2, .ref x3, .ref x4, .ref x5, .ref x6, .int fi])), (x2, .inr (5, jmem M ca cg)), (ca, .inl (t 2, 8, .inr (.inr (.inr (.inr (jcaps ad)))))), (x4, .inr (2, [.ref e0, .ref e1, .ref e2, .ref e3, .int (nI pn), .int ht])), (e0, .inl (t 0, 16, .inl KA)), (e1, .inl (t 0, 16, .inl DA)), (e2, .inl (t 0, 16, .inl CA)), (e3, .inl (t 0, 16, .inl ST)), (x5, .inl (t 0, 49, .inl RW))] [0, 1, 2] [(h0, .inr (9, [.ref x1, .ref x2, .ref x3, .ref x4, .ref x5, .ref x6, .int fi])), (x2, .inr (5, jmem M ca cg)), (ca, .inl (t 2, 8, .inr (.inr (.inr (.inr (jcaps ad))))))] ++ jpool t ad K) (jpool_after 9 rfl rfl rfl (by decide)) ?_
          refine jr_norm (([(h0, .inr (9, [.ref x1, .ref x2, .ref x3, .ref x4, .ref x5, .ref x6, .int fi])), (x2, .inr (5, jmem M ca cg)), (ca, .inl (t 2, 8, .inr (.inr (.inr (.inr (jcaps ad)))))), (x4, .inr (2, [.ref e0, .ref e1, .ref e2, .ref e3, .int (nI pn), .int ht])), (e0, .inl (t 0, 16, .inl KA)), (e1, .inl (t 0, 16, .inl DA)), (e2, .inl (t 0, 16, .inl CA)), (e3, .inl (t 0, 16, .inl ST)), (x5, .inl (t 0, 49, .inl RW))] : va_W) ++ jpool t ad K) [.int (wP (eVal (M 1) (nI rr) (K (nI rr).toNatClampNeg).2.2.1 (nI k) 0) (jat (K (nI rr).toNatClampNeg) 0 (nI k).toNatClampNeg) (-300) (-200) 0 0)] 28 (3 * k + 3) (18 * k + 18) rfl rfl rfl rfl rfl ?_
          refine jr_st [.int (jat (K rr) 0 k)] (jst1 (wv_in hM1 hm8 hrr hnn hn49 jin01.1 (by omega) _ _ _ _)) ?_
          refine jr_istore [(6, .int (jat (K rr) 0 k)), (0, .ref h0), (1, .int (nI rr)), (2, .int (nI nn)), (3, .int la), (4, .int du), (5, .int (nI k))] CC (jd ddL_isRising 16 rfl) (by decide) rfl ?_
          refine jr_iload_n CC (jd ddL_isRising 17 rfl) 4 rfl ?_
          refine jr_if_lt 47 CC (jd ddL_isRising 18 rfl) (by decide) (fun c26 => ?_) (fun c26 => ?_)
          · refine jr_iload CC (jd ddL_isRising 26 rfl) 5 rfl ?_
            refine jr_istore [(4, .int du), (6, .int (jat (K rr) 0 k)), (0, .ref h0), (1, .int (nI rr)), (2, .int (nI nn)), (3, .int la), (5, .int (nI k))] CC (jd ddL_isRising 27 rfl) (by decide) rfl ?_
            refine jr_iload CC (jd ddL_isRising 28 rfl) 1 rfl ?_
            refine jr_bipush (v := (-3)) CC (jd ddL_isRising 29 rfl) (by decide) ?_
            refine jr_icmp_gt 63 CC (jd ddL_isRising 30 rfl) (by decide) (fun c27 => ?_) (fun c27 => ?_)
            · refine jr_iload_n CC (jd ddL_isRising 33 rfl) 5 rfl ?_
              refine jr_istore_n 3 [(3, .int la), (4, .int du), (6, .int (jat (K rr) 0 k)), (0, .ref h0), (1, .int (nI rr)), (2, .int (nI nn)), (5, .int (nI k))] CC (jd ddL_isRising 34 rfl) rfl (by decide) rfl ?_
              refine jr_pc (pc' := 65) rfl ?_
              refine jr_iinc [(5, .int (nI (k + 1))), (3, .int la), (4, .int du), (6, .int (jat (K rr) 0 k)), (0, .ref h0), (1, .int (nI rr)), (2, .int (nI nn))] CC (jd ddL_isRising 35 rfl) 6 rfl (nI_1 _) (by decide) rfl ?_
              refine jr_goto 9 CC (jd ddL_isRising 36 rfl) (by decide) ?_
              refine jr_norm (([(h0, .inr (9, [.ref x1, .ref x2, .ref x3, .ref x4, .ref x5, .ref x6, .int fi])), (x2, .inr (5, jmem M ca cg)), (ca, .inl (t 2, 8, .inr (.inr (.inr (.inr (jcaps ad)))))), (x4, .inr (2, [.ref e0, .ref e1, .ref e2, .ref e3, .int (nI pn), .int ht])), (e0, .inl (t 0, 16, .inl KA)), (e1, .inl (t 0, 16, .inl DA)), (e2, .inl (t 0, 16, .inl CA)), (e3, .inl (t 0, 16, .inl ST)), (x5, .inl (t 0, 49, .inl RW))] : va_W) ++ jpool t ad K) [] 9 (3 * k + 3) (18 * k + 18) rfl rfl rfl rfl rfl ?_
              refine jr_lv [4, 5, 6, 1, 2, 0] [(0, .ref h0), (1, .int (nI rr)), (2, .int (nI nn)), (3, .int la), (4, .int du), (5, .int (nI (k + 1)))] rfl ?_
              refine jr_widen (k' := (3 * (k + 1) + 0)) (n' := (18 * (k + 1) + 0)) (by omega) (by omega) ?_
              exact ih9 (k + 1) la du (by omega) (by have h9 := riseI_s hq (Int32.not_le.mp c14) (by omega) hn49; rw [if_neg (Int32.not_le.mpr c27), if_neg (fun q => Int32.not_le.mpr c26 q.1)] at h9; exact h9) (by omega)
            · refine jr_iload CC (jd ddL_isRising 31 rfl) 6 rfl ?_
              refine jr_goto 64 CC (jd ddL_isRising 32 rfl) (by decide) ?_
              refine jr_istore_n 3 [(3, .int (nI k)), (4, .int du), (6, .int (jat (K rr) 0 k)), (0, .ref h0), (1, .int (nI rr)), (2, .int (nI nn)), (5, .int (nI k))] CC (jd ddL_isRising 34 rfl) rfl (by decide) rfl ?_
              refine jr_iinc [(5, .int (nI (k + 1))), (3, .int (nI k)), (4, .int du), (6, .int (jat (K rr) 0 k)), (0, .ref h0), (1, .int (nI rr)), (2, .int (nI nn))] CC (jd ddL_isRising 35 rfl) 6 rfl (nI_1 _) (by decide) rfl ?_
              refine jr_goto 9 CC (jd ddL_isRising 36 rfl) (by decide) ?_
              refine jr_norm (([(h0, .inr (9, [.ref x1, .ref x2, .ref x3, .ref x4, .ref x5, .ref x6, .int fi])), (x2, .inr (5, jmem M ca cg)), (ca, .inl (t 2, 8, .inr (.inr (.inr (.inr (jcaps ad)))))), (x4, .inr (2, [.ref e0, .ref e1, .ref e2, .ref e3, .int (nI pn), .int ht])), (e0, .inl (t 0, 16, .inl KA)), (e1, .inl (t 0, 16, .inl DA)), (e2, .inl (t 0, 16, .inl CA)), (e3, .inl (t 0, 16, .inl ST)), (x5, .inl (t 0, 49, .inl RW))] : va_W) ++ jpool t ad K) [] 9 (3 * k + 3) (18 * k + 18) rfl rfl rfl rfl rfl ?_
              refine jr_lv [4, 5, 6, 1, 2, 0] [(0, .ref h0), (1, .int (nI rr)), (2, .int (nI nn)), (3, .int (nI k)), (4, .int du), (5, .int (nI (k + 1)))] rfl ?_
              refine jr_widen (k' := (3 * (k + 1) + 0)) (n' := (18 * (k + 1) + 0)) (by omega) (by omega) ?_
              exact ih9 (k + 1) (nI k) du (by omega) (by have h9 := riseI_s hq (Int32.not_le.mp c14) (by omega) hn49; rw [if_pos (Int32.not_lt.mp c27), if_neg (fun q => Int32.not_le.mpr c26 q.1)] at h9; exact h9) (by omega)
          · refine jr_iload CC (jd ddL_isRising 19 rfl) 0 rfl ?_
            refine jr_iconst (v := 4) CC (jd ddL_isRising 20 rfl) (by decide) ?_
            refine jr_icmp_lt 47 CC (jd ddL_isRising 21 rfl) (by decide) (fun c28 => ?_) (fun c28 => ?_)
            · refine jr_iload CC (jd ddL_isRising 26 rfl) 5 rfl ?_
              refine jr_istore [(4, .int du), (6, .int (jat (K rr) 0 k)), (0, .ref h0), (1, .int (nI rr)), (2, .int (nI nn)), (3, .int la), (5, .int (nI k))] CC (jd ddL_isRising 27 rfl) (by decide) rfl ?_
              refine jr_iload CC (jd ddL_isRising 28 rfl) 1 rfl ?_
              refine jr_bipush (v := (-3)) CC (jd ddL_isRising 29 rfl) (by decide) ?_
              refine jr_pc (pc' := 55) rfl ?_
              refine jr_icmp_gt 63 CC (jd ddL_isRising 30 rfl) (by decide) (fun c29 => ?_) (fun c29 => ?_)
              · refine jr_iload_n CC (jd ddL_isRising 33 rfl) 5 rfl ?_
                refine jr_istore_n 3 [(3, .int la), (4, .int du), (6, .int (jat (K rr) 0 k)), (0, .ref h0), (1, .int (nI rr)), (2, .int (nI nn)), (5, .int (nI k))] CC (jd ddL_isRising 34 rfl) rfl (by decide) rfl ?_
                refine jr_iinc [(5, .int (nI (k + 1))), (3, .int la), (4, .int du), (6, .int (jat (K rr) 0 k)), (0, .ref h0), (1, .int (nI rr)), (2, .int (nI nn))] CC (jd ddL_isRising 35 rfl) 6 rfl (nI_1 _) (by decide) rfl ?_
                refine jr_goto 9 CC (jd ddL_isRising 36 rfl) (by decide) ?_
                refine jr_norm (([(h0, .inr (9, [.ref x1, .ref x2, .ref x3, .ref x4, .ref x5, .ref x6, .int fi])), (x2, .inr (5, jmem M ca cg)), (ca, .inl (t 2, 8, .inr (.inr (.inr (.inr (jcaps ad)))))), (x4, .inr (2, [.ref e0, .ref e1, .ref e2, .ref e3, .int (nI pn), .int ht])), (e0, .inl (t 0, 16, .inl KA)), (e1, .inl (t 0, 16, .inl DA)), (e2, .inl (t 0, 16, .inl CA)), (e3, .inl (t 0, 16, .inl ST)), (x5, .inl (t 0, 49, .inl RW))] : va_W) ++ jpool t ad K) [] 9 (3 * k + 3) (18 * k + 18) rfl rfl rfl rfl rfl ?_
                refine jr_lv [4, 5, 6, 1, 2, 0] [(0, .ref h0), (1, .int (nI rr)), (2, .int (nI nn)), (3, .int la), (4, .int du), (5, .int (nI (k + 1)))] rfl ?_
                refine jr_widen (k' := (3 * (k + 1) + 0)) (n' := (18 * (k + 1) + 0)) (by omega) (by omega) ?_
                exact ih9 (k + 1) la du (by omega) (by have h9 := riseI_s hq (Int32.not_le.mp c14) (by omega) hn49; rw [if_neg (Int32.not_le.mpr c29), if_neg (fun q => Int32.not_le.mpr c28 q.2)] at h9; exact h9) (by omega)
              · refine jr_iload CC (jd ddL_isRising 31 rfl) 6 rfl ?_
                refine jr_goto 64 CC (jd ddL_isRising 32 rfl) (by decide) ?_
                refine jr_istore_n 3 [(3, .int (nI k)), (4, .int du), (6, .int (jat (K rr) 0 k)), (0, .ref h0), (1, .int (nI rr)), (2, .int (nI nn)), (5, .int (nI k))] CC (jd ddL_isRising 34 rfl) rfl (by decide) rfl ?_
                refine jr_iinc [(5, .int (nI (k + 1))), (3, .int (nI k)), (4, .int du), (6, .int (jat (K rr) 0 k)), (0, .ref h0), (1, .int (nI rr)), (2, .int (nI nn))] CC (jd ddL_isRising 35 rfl) 6 rfl (nI_1 _) (by decide) rfl ?_
                refine jr_goto 9 CC (jd ddL_isRising 36 rfl) (by decide) ?_
                refine jr_norm (([(h0, .inr (9, [.ref x1, .ref x2, .ref x3, .ref x4, .ref x5, .ref x6, .int fi])), (x2, .inr (5, jmem M ca cg)), (ca, .inl (t 2, 8, .inr (.inr (.inr (.inr (jcaps ad)))))), (x4, .inr (2, [.ref e0, .ref e1, .ref e2, .ref e3, .int (nI pn), .int ht])), (e0, .inl (t 0, 16, .inl KA)), (e1, .inl (t 0, 16, .inl DA)), (e2, .inl (t 0, 16, .inl CA)), (e3, .inl (t 0, 16, .inl ST)), (x5, .inl (t 0, 49, .inl RW))] : va_W) ++ jpool t ad K) [] 9 (3 * k + 3) (18 * k + 18) rfl rfl rfl rfl rfl ?_
                refine jr_lv [4, 5, 6, 1, 2, 0] [(0, .ref h0), (1, .int (nI rr)), (2, .int (nI nn)), (3, .int (nI k)), (4, .int du), (5, .int (nI (k + 1)))] rfl ?_
                refine jr_widen (k' := (3 * (k + 1) + 0)) (n' := (18 * (k + 1) + 0)) (by omega) (by omega) ?_
                exact ih9 (k + 1) (nI k) du (by omega) (by have h9 := riseI_s hq (Int32.not_le.mp c14) (by omega) hn49; rw [if_pos (Int32.not_lt.mp c29), if_neg (fun q => Int32.not_le.mpr c28 q.2)] at h9; exact h9) (by omega)
            · refine jr_iload CC (jd ddL_isRising 22 rfl) 6 rfl ?_
              refine jr_iload_n CC (jd ddL_isRising 23 rfl) 4 rfl ?_
              refine jr_isub CC (jd ddL_isRising 24 rfl) ?_
              refine jr_goto 49 CC (jd ddL_isRising 25 rfl) (by decide) ?_
              refine jr_istore [(4, .int ((nI k) - la)), (6, .int (jat (K rr) 0 k)), (0, .ref h0), (1, .int (nI rr)), (2, .int (nI nn)), (3, .int la), (5, .int (nI k))] CC (jd ddL_isRising 27 rfl) (by decide) rfl ?_
              refine jr_iload CC (jd ddL_isRising 28 rfl) 1 rfl ?_
              refine jr_bipush (v := (-3)) CC (jd ddL_isRising 29 rfl) (by decide) ?_
              refine jr_icmp_gt 63 CC (jd ddL_isRising 30 rfl) (by decide) (fun c30 => ?_) (fun c30 => ?_)
              · refine jr_iload_n CC (jd ddL_isRising 33 rfl) 5 rfl ?_
                refine jr_istore_n 3 [(3, .int la), (4, .int ((nI k) - la)), (6, .int (jat (K rr) 0 k)), (0, .ref h0), (1, .int (nI rr)), (2, .int (nI nn)), (5, .int (nI k))] CC (jd ddL_isRising 34 rfl) rfl (by decide) rfl ?_
                refine jr_iinc [(5, .int (nI (k + 1))), (3, .int la), (4, .int ((nI k) - la)), (6, .int (jat (K rr) 0 k)), (0, .ref h0), (1, .int (nI rr)), (2, .int (nI nn))] CC (jd ddL_isRising 35 rfl) 6 rfl (nI_1 _) (by decide) rfl ?_
                refine jr_goto 9 CC (jd ddL_isRising 36 rfl) (by decide) ?_
                refine jr_norm (([(h0, .inr (9, [.ref x1, .ref x2, .ref x3, .ref x4, .ref x5, .ref x6, .int fi])), (x2, .inr (5, jmem M ca cg)), (ca, .inl (t 2, 8, .inr (.inr (.inr (.inr (jcaps ad)))))), (x4, .inr (2, [.ref e0, .ref e1, .ref e2, .ref e3, .int (nI pn), .int ht])), (e0, .inl (t 0, 16, .inl KA)), (e1, .inl (t 0, 16, .inl DA)), (e2, .inl (t 0, 16, .inl CA)), (e3, .inl (t 0, 16, .inl ST)), (x5, .inl (t 0, 49, .inl RW))] : va_W) ++ jpool t ad K) [] 9 (3 * k + 3) (18 * k + 18) rfl rfl rfl rfl rfl ?_
                refine jr_lv [4, 5, 6, 1, 2, 0] [(0, .ref h0), (1, .int (nI rr)), (2, .int (nI nn)), (3, .int la), (4, .int ((nI k) - la)), (5, .int (nI (k + 1)))] rfl ?_
                refine jr_widen (k' := (3 * (k + 1) + 0)) (n' := (18 * (k + 1) + 0)) (by omega) (by omega) ?_
                exact ih9 (k + 1) la ((nI k) - la) (by omega) (by have h9 := riseI_s hq (Int32.not_le.mp c14) (by omega) hn49; rw [if_neg (Int32.not_le.mpr c30), if_pos ⟨Int32.not_lt.mp c26, Int32.not_lt.mp c28⟩] at h9; exact h9) (by omega)
              · refine jr_iload CC (jd ddL_isRising 31 rfl) 6 rfl ?_
                refine jr_goto 64 CC (jd ddL_isRising 32 rfl) (by decide) ?_
                refine jr_istore_n 3 [(3, .int (nI k)), (4, .int ((nI k) - la)), (6, .int (jat (K rr) 0 k)), (0, .ref h0), (1, .int (nI rr)), (2, .int (nI nn)), (5, .int (nI k))] CC (jd ddL_isRising 34 rfl) rfl (by decide) rfl ?_
                refine jr_iinc [(5, .int (nI (k + 1))), (3, .int (nI k)), (4, .int ((nI k) - la)), (6, .int (jat (K rr) 0 k)), (0, .ref h0), (1, .int (nI rr)), (2, .int (nI nn))] CC (jd ddL_isRising 35 rfl) 6 rfl (nI_1 _) (by decide) rfl ?_
                refine jr_goto 9 CC (jd ddL_isRising 36 rfl) (by decide) ?_
                refine jr_norm (([(h0, .inr (9, [.ref x1, .ref x2, .ref x3, .ref x4, .ref x5, .ref x6, .int fi])), (x2, .inr (5, jmem M ca cg)), (ca, .inl (t 2, 8, .inr (.inr (.inr (.inr (jcaps ad)))))), (x4, .inr (2, [.ref e0, .ref e1, .ref e2, .ref e3, .int (nI pn), .int ht])), (e0, .inl (t 0, 16, .inl KA)), (e1, .inl (t 0, 16, .inl DA)), (e2, .inl (t 0, 16, .inl CA)), (e3, .inl (t 0, 16, .inl ST)), (x5, .inl (t 0, 49, .inl RW))] : va_W) ++ jpool t ad K) [] 9 (3 * k + 3) (18 * k + 18) rfl rfl rfl rfl rfl ?_
                refine jr_lv [4, 5, 6, 1, 2, 0] [(0, .ref h0), (1, .int (nI rr)), (2, .int (nI nn)), (3, .int (nI k)), (4, .int ((nI k) - la)), (5, .int (nI (k + 1)))] rfl ?_
                refine jr_widen (k' := (3 * (k + 1) + 0)) (n' := (18 * (k + 1) + 0)) (by omega) (by omega) ?_
                exact ih9 (k + 1) (nI k) ((nI k) - la) (by omega) (by have h9 := riseI_s hq (Int32.not_le.mp c14) (by omega) hn49; rw [if_pos (Int32.not_lt.mp c30), if_pos ⟨Int32.not_lt.mp c26, Int32.not_lt.mp c28⟩] at h9; exact h9) (by omega)
  refine jr_norm (([(h0, .inr (9, [.ref x1, .ref x2, .ref x3, .ref x4, .ref x5, .ref x6, .int fi])), (x2, .inr (5, jmem M ca cg)), (ca, .inl (t 2, 8, .inr (.inr (.inr (.inr (jcaps ad)))))), (x4, .inr (2, [.ref e0, .ref e1, .ref e2, .ref e3, .int (nI pn), .int ht])), (e0, .inl (t 0, 16, .inl KA)), (e1, .inl (t 0, 16, .inl DA)), (e2, .inl (t 0, 16, .inl CA)), (e3, .inl (t 0, 16, .inl ST)), (x5, .inl (t 0, 49, .inl RW))] : va_W) ++ jpool t ad K) [] 9 0 0 rfl rfl rfl rfl rfl ?_
  refine jr_lv [3, 4, 5, 2, 1, 0] [(0, .ref h0), (1, .int (nI rr)), (2, .int (nI nn)), (3, .int (-1)), (4, .int (-2000000005)), (5, .int (nI 0))] rfl ?_
  refine jr_widen (k' := (3 * 0 + 0)) (n' := (18 * 0 + 0)) (by omega) (by omega) ?_
  exact hL1 (nn - 0 + 1) 0 (-1) (-2000000005) (Nat.zero_le _) (riseI_0 _ _) (Nat.lt_succ_self _)
set_option maxHeartbeats 8000000 in
set_option maxRecDepth 100000 in
theorem k_L_isGrouped (l : Launch) (t : Nat → ClassId) (hfl : l.stackTraces = false) (h0 : Nat) (x1 : Nat) (x2 : Nat) (x3 : Nat) (x4 : Nat) (x5 : Nat) (x6 : Nat) (fi : Int32) (M : Nat → Int32) (ca : Nat) (cg : Option Nat) (ad : Nat → Nat) (K : Nat → JCap) (m8 : Nat) (rr : Nat) (nn : Nat) (hM1 : M 1 = nI m8) (hm8 : m8 ≤ 8) (hK : recOK K m8) (hrr : rr < m8) (hnn : (K rr).2.2.1 = nI nn) (hn1 : 1 ≤ nn) (hn49 : nn ≤ 49) (hf : ∀ j, j < nn → rIn (jat (K rr) 1 j)) : jKx l t yL_isGrouped (Cond.code yL_isGrouped cL_isGrouped 14 (some .boolean) :: jWS) { frames := 11, cells := 2035, slots := 12210, locals := 203 } [.ref h0, .int (nI rr), .int (nI nn)] (([(h0, .inr (9, [.ref x1, .ref x2, .ref x3, .ref x4, .ref x5, .ref x6, .int fi])), (x2, .inr (5, jmem M ca cg)), (ca, .inl (t 2, 8, .inr (.inr (.inr (.inr (jcaps ad))))))] : va_W) ++ jpool t ad K) (fun vv uu => (vv = some (.int 1) ∧ uu = (([(h0, .inr (9, [.ref x1, .ref x2, .ref x3, .ref x4, .ref x5, .ref x6, .int fi])), (x2, .inr (5, jmem M ca cg)), (ca, .inl (t 2, 8, .inr (.inr (.inr (.inr (jcaps ad))))))] : va_W) ++ jpool t ad K))) (fun _ _ => False) := by
  refine jK_of hfl (by decide +kernel) (Nat.le_of_ble_eq_true rfl) ?_
  intro p e s m args below meth c D A Q CC MM
  refine jr_norm0 [(0, .ref h0), (1, .int (nI rr)), (2, .int (nI nn))] rfl ?_
  refine jr_iconst (v := 1) CC (jd ddL_isGrouped 0 rfl) (by decide) ?_
  refine jr_istore_n 3 [(3, .int 1), (0, .ref h0), (1, .int (nI rr)), (2, .int (nI nn))] CC (jd ddL_isGrouped 1 rfl) rfl (by decide) rfl ?_
  refine jr_iconst (v := 1) CC (jd ddL_isGrouped 2 rfl) (by decide) ?_
  refine jr_istore [(4, .int 1), (3, .int 1), (0, .ref h0), (1, .int (nI rr)), (2, .int (nI nn))] CC (jd ddL_isGrouped 3 rfl) (by decide) rfl ?_
  refine jr_iload CC (jd ddL_isGrouped 4 rfl) 0 rfl ?_
  refine jr_bipush (v := 17) CC (jd ddL_isGrouped 5 rfl) (by decide) ?_
  refine jr_icmp_ge 263 CC (jd ddL_isGrouped 6 rfl) (by decide) (fun h => absurd h (by decide)) (fun _ => ?_)
  refine jr_iload_n CC (jd ddL_isGrouped 7 rfl) 1 rfl ?_
  refine jr_if_eq 263 CC (jd ddL_isGrouped 8 rfl) (by decide) (fun h => absurd h (by decide)) (fun _ => ?_)
  refine jr_iload_n CC (jd ddL_isGrouped 9 rfl) 4 rfl ?_
  refine jr_pc (pc' := 17) rfl ?_
  refine jr_iload CC (jd ddL_isGrouped 10 rfl) 0 rfl ?_
  refine jr_iadd CC (jd ddL_isGrouped 11 rfl) ?_
  refine jr_st [.int (nI (nn + 1))] (jst1 (nI_add nn 1)) ?_
  refine jr_iconst (v := 1) CC (jd ddL_isGrouped 12 rfl) (by decide) ?_
  refine jr_isub CC (jd ddL_isGrouped 13 rfl) ?_
  refine jr_st [.int (nI ((nn + 1) - 1))] (jst1 (pk_sub (a := (nn + 1)) (b := 1) (by omega))) ?_
  refine jr_iload CC (jd ddL_isGrouped 14 rfl) 0 rfl ?_
  refine jr_idiv CC (jd ddL_isGrouped 15 rfl) (by decide) ?_
  refine jr_st [.int (nI (((nn + 1) - 1) / 1))] (jst1 (pk_div (a := ((nn + 1) - 1)) (d := 1) (by omega) (by omega) (by omega))) ?_
  refine jr_istore [(5, .int (nI (((nn + 1) - 1) / 1))), (4, .int 1), (3, .int 1), (0, .ref h0), (1, .int (nI rr)), (2, .int (nI nn))] CC (jd ddL_isGrouped 16 rfl) (by decide) rfl ?_
  refine jr_iconst (v := 0) CC (jd ddL_isGrouped 17 rfl) (by decide) ?_
  refine jr_istore [(6, .int 0), (5, .int (nI (((nn + 1) - 1) / 1))), (4, .int 1), (3, .int 1), (0, .ref h0), (1, .int (nI rr)), (2, .int (nI nn))] CC (jd ddL_isGrouped 18 rfl) (by decide) rfl ?_
  have hL3 : ∀ (d9 : Nat) (k : Nat) (hk : k ≤ ((nn + 1 - 1) / 1)), ((nn + 1 - 1) / 1) - k < d9 → J p l e { frames := 11, cells := 2035, slots := 12210, locals := 203 } s m args below meth c D A 14 Q (([(h0, .inr (9, [.ref x1, .ref x2, .ref x3, .ref x4, .ref x5, .ref x6, .int fi])), (x2, .inr (5, jmem M ca cg)), (ca, .inl (t 2, 8, .inr (.inr (.inr (.inr (jcaps ad))))))] : va_W) ++ jpool t ad K) [(0, .ref h0), (1, .int (nI rr)), (2, .int (nI nn)), (3, .int 1), (4, .int 1), (5, .int (nI ((nn + 1 - 1) / 1))), (6, .int (nI k))] 30 [] (15 * k + 0) (90 * k + 0) := by
    intro d9
    induction d9 with
    | zero => intro k hk hmu; exact absurd hmu (Nat.not_lt_zero _)
    | succ d9 ih30 =>
      intro k hk hmu
      refine jr_iload CC (jd ddL_isGrouped 19 rfl) 6 rfl ?_
      refine jr_iload CC (jd ddL_isGrouped 20 rfl) 5 rfl ?_
      refine jr_icmp_ge 214 CC (jd ddL_isGrouped 21 rfl) (by decide) (fun c4 => ?_) (fun c4 => ?_)
      · have n4 := jle_of (a := ((nn + 1 - 1) / 1)) (b := k) c4 (by omega) (by omega)
        refine jr_widen (k' := 735) (n' := 4410) (by omega) (by omega) ?_
        refine jr_iload_n CC (jd ddL_isGrouped 117 rfl) 3 rfl ?_
        refine jr_if_eq 255 CC (jd ddL_isGrouped 118 rfl) (by decide) (fun h => absurd h (by decide)) (fun _ => ?_)
        refine jr_aload_n CC (jd ddL_isGrouped 119 rfl) 0 rfl ?_
        refine jr_iconst (v := 0) CC (jd ddL_isGrouped 120 rfl) (by decide) ?_
        refine jr_iload_n CC (jd ddL_isGrouped 121 rfl) 1 rfl ?_
        refine jr_iconst (v := 1) CC (jd ddL_isGrouped 122 rfl) (by decide) ?_
        refine jr_iload CC (jd ddL_isGrouped 123 rfl) 4 rfl ?_
        refine jr_pc (pc' := 224) rfl ?_
        refine jr_iload CC (jd ddL_isGrouped 124 rfl) 5 rfl ?_
        refine jr_norm (([(h0, .inr (9, [.ref x1, .ref x2, .ref x3, .ref x4, .ref x5, .ref x6, .int fi])), (x2, .inr (5, jmem M ca cg)), (ca, .inl (t 2, 8, .inr (.inr (.inr (.inr (jcaps ad))))))] : va_W) ++ jpool t ad K) [.int (nI ((nn + 1 - 1) / 1)), .int 1, .int 1, .int (nI rr), .int 0, .ref h0] 226 735 4410 rfl rfl rfl rfl rfl ?_
        refine jr_callW (rest := []) [.ref h0, .int 0, .int (nI rr), .int 1, .int 1, .int (nI ((nn + 1 - 1) / 1))] CC (jd ddL_isGrouped 125 rfl) (jy_L_143 CC) (k_L_grouped0 l t hfl h0 x1 x2 x3 x4 x5 x6 fi M ca cg ad K m8 (nI rr) 1 1 (nI ((nn + 1 - 1) / 1)) hM1 hm8 hK) ([0, 1, 2] ++ (List.range 32).map (fun i => 3 + i)) (jpool_isC 3 rfl (is := [0, 1, 2]) rfl (by decide)) (by decide) rfl rfl (by decide) (Nat.le_of_ble_eq_true rfl) (by rintro v u h; rcases h with ⟨rfl, rfl⟩ <;> exact jpool_same rfl) (fun _ _ h => h.elim) (fun _ _ h => h.elim) (fun v u h => ?_)
        rcases h with ⟨rfl, rfl⟩
        refine jr_ws (jput [(h0, .inr (9, [.ref x1, .ref x2, .ref x3, .ref x4, .ref x5, .ref x6, .int fi])), (x2, .inr (5, jmem M ca cg)), (ca, .inl (t 2, 8, .inr (.inr (.inr (.inr (jcaps ad))))))] [0, 1, 2] [(h0, .inr (9, [.ref x1, .ref x2, .ref x3, .ref x4, .ref x5, .ref x6, .int fi])), (x2, .inr (5, jmem M ca cg)), (ca, .inl (t 2, 8, .inr (.inr (.inr (.inr (jcaps ad))))))] ++ jpool t ad K) (jpool_after 3 rfl rfl rfl (by decide)) ?_
        refine jr_norm (([(h0, .inr (9, [.ref x1, .ref x2, .ref x3, .ref x4, .ref x5, .ref x6, .int fi])), (x2, .inr (5, jmem M ca cg)), (ca, .inl (t 2, 8, .inr (.inr (.inr (.inr (jcaps ad))))))] : va_W) ++ jpool t ad K) [.int (wP (eGrp (M 1) (nI rr) (K (nI rr).toNatClampNeg).2.2.1 1 1 (nI ((nn + 1 - 1) / 1))) (cLow (K (nI rr).toNatClampNeg) 1 1 (nI ((nn + 1 - 1) / 1))) (-200) (-300) 0 0)] 229 739 4434 rfl rfl rfl rfl rfl ?_
        refine jr_st [.int (-300)] (jst1 (wg_out hM1 hm8 hrr hnn hn49 jin01.2.1 (s := 1) (k := ((nn + 1 - 1) / 1)) (by decide) (by decide) (by omega) (by omega) _ _ _ _ _)) ?_
        refine jr_sipush (v := (-300)) CC (jd ddL_isGrouped 126 rfl) (by decide) ?_
        refine jr_icmp_ne 255 CC (jd ddL_isGrouped 127 rfl) (by decide) (fun h => absurd h (by decide)) (fun _ => ?_)
        refine jr_aload_n CC (jd ddL_isGrouped 128 rfl) 0 rfl ?_
        refine jr_iconst (v := 1) CC (jd ddL_isGrouped 129 rfl) (by decide) ?_
        refine jr_iload_n CC (jd ddL_isGrouped 130 rfl) 1 rfl ?_
        refine jr_iconst (v := 0) CC (jd ddL_isGrouped 131 rfl) (by decide) ?_
        refine jr_iload CC (jd ddL_isGrouped 132 rfl) 4 rfl ?_
        refine jr_iconst (v := (-1)) CC (jd ddL_isGrouped 133 rfl) (by decide) ?_
        refine jr_norm (([(h0, .inr (9, [.ref x1, .ref x2, .ref x3, .ref x4, .ref x5, .ref x6, .int fi])), (x2, .inr (5, jmem M ca cg)), (ca, .inl (t 2, 8, .inr (.inr (.inr (.inr (jcaps ad))))))] : va_W) ++ jpool t ad K) [.int (-1), .int 1, .int 0, .int (nI rr), .int 1, .ref h0] 242 739 4434 rfl rfl rfl rfl rfl ?_
        refine jr_callW (rest := []) [.ref h0, .int 1, .int (nI rr), .int 0, .int 1, .int (-1)] CC (jd ddL_isGrouped 134 rfl) (jy_L_143 CC) (k_L_grouped1 l t hfl h0 x1 x2 x3 x4 x5 x6 fi M ca cg ad K m8 (nI rr) 0 1 (-1 : Int32) hM1 hm8 hK) ([0, 1, 2] ++ (List.range 32).map (fun i => 3 + i)) (jpool_isC 3 rfl (is := [0, 1, 2]) rfl (by decide)) (by decide) rfl rfl (by decide) (Nat.le_of_ble_eq_true rfl) (by rintro v u h; rcases h with ⟨rfl, rfl⟩ <;> exact jpool_same rfl) (fun _ _ h => h.elim) (fun _ _ h => h.elim) (fun v u h => ?_)
        rcases h with ⟨rfl, rfl⟩
        refine jr_ws (jput [(h0, .inr (9, [.ref x1, .ref x2, .ref x3, .ref x4, .ref x5, .ref x6, .int fi])), (x2, .inr (5, jmem M ca cg)), (ca, .inl (t 2, 8, .inr (.inr (.inr (.inr (jcaps ad))))))] [0, 1, 2] [(h0, .inr (9, [.ref x1, .ref x2, .ref x3, .ref x4, .ref x5, .ref x6, .int fi])), (x2, .inr (5, jmem M ca cg)), (ca, .inl (t 2, 8, .inr (.inr (.inr (.inr (jcaps ad))))))] ++ jpool t ad K) (jpool_after 3 rfl rfl rfl (by decide)) ?_
        refine jr_norm (([(h0, .inr (9, [.ref x1, .ref x2, .ref x3, .ref x4, .ref x5, .ref x6, .int fi])), (x2, .inr (5, jmem M ca cg)), (ca, .inl (t 2, 8, .inr (.inr (.inr (.inr (jcaps ad))))))] : va_W) ++ jpool t ad K) [.int (wP (eGrp (M 1) (nI rr) (K (nI rr).toNatClampNeg).2.2.1 0 1 (-1 : Int32)) (cHigh (K (nI rr).toNatClampNeg) 0 1 (-1 : Int32)) (-200) (-300) 0 0)] 245 743 4458 rfl rfl rfl rfl rfl ?_
        refine jr_st [.int (-300)] (jst1 (wg_neg hM1 hm8 hrr hnn hn49 jin01.1 (s := 1) (by decide) (by decide) _ _ _ _ _)) ?_
        refine jr_sipush (v := (-300)) CC (jd ddL_isGrouped 135 rfl) (by decide) ?_
        refine jr_icmp_ne 255 CC (jd ddL_isGrouped 136 rfl) (by decide) (fun h => absurd h (by decide)) (fun _ => ?_)
        refine jr_iconst (v := 1) CC (jd ddL_isGrouped 137 rfl) (by decide) ?_
        refine jr_goto 256 CC (jd ddL_isGrouped 138 rfl) (by decide) ?_
        refine jr_istore_n 3 [(3, .int 1), (0, .ref h0), (1, .int (nI rr)), (2, .int (nI nn)), (4, .int 1), (5, .int (nI ((nn + 1 - 1) / 1))), (6, .int (nI k))] CC (jd ddL_isGrouped 140 rfl) rfl (by decide) rfl ?_
        refine jr_iinc [(4, .int 4), (3, .int 1), (0, .ref h0), (1, .int (nI rr)), (2, .int (nI nn)), (5, .int (nI ((nn + 1 - 1) / 1))), (6, .int (nI k))] CC (jd ddL_isGrouped 141 rfl) 4 rfl (by decide) (by decide) rfl ?_
        refine jr_goto 5 CC (jd ddL_isGrouped 142 rfl) (by decide) ?_
        refine jr_iload CC (jd ddL_isGrouped 4 rfl) 0 rfl ?_
        refine jr_bipush (v := 17) CC (jd ddL_isGrouped 5 rfl) (by decide) ?_
        refine jr_icmp_ge 263 CC (jd ddL_isGrouped 6 rfl) (by decide) (fun h => absurd h (by decide)) (fun _ => ?_)
        refine jr_iload_n CC (jd ddL_isGrouped 7 rfl) 1 rfl ?_
        refine jr_if_eq 263 CC (jd ddL_isGrouped 8 rfl) (by decide) (fun h => absurd h (by decide)) (fun _ => ?_)
        refine jr_iload_n CC (jd ddL_isGrouped 9 rfl) 4 rfl ?_
        refine jr_iload CC (jd ddL_isGrouped 10 rfl) 0 rfl ?_
        refine jr_iadd CC (jd ddL_isGrouped 11 rfl) ?_
        refine jr_st [.int (nI (nn + 4))] (jst1 (nI_add nn 4)) ?_
        refine jr_iconst (v := 1) CC (jd ddL_isGrouped 12 rfl) (by decide) ?_
        refine jr_isub CC (jd ddL_isGrouped 13 rfl) ?_
        refine jr_st [.int (nI ((nn + 4) - 1))] (jst1 (pk_sub (a := (nn + 4)) (b := 1) (by omega))) ?_
        refine jr_pc (pc' := 22) rfl ?_
        refine jr_iload CC (jd ddL_isGrouped 14 rfl) 0 rfl ?_
        refine jr_idiv CC (jd ddL_isGrouped 15 rfl) (by decide) ?_
        refine jr_st [.int (nI (((nn + 4) - 1) / 4))] (jst1 (pk_div (a := ((nn + 4) - 1)) (d := 4) (by omega) (by omega) (by omega))) ?_
        refine jr_istore [(5, .int (nI (((nn + 4) - 1) / 4))), (4, .int 4), (3, .int 1), (0, .ref h0), (1, .int (nI rr)), (2, .int (nI nn)), (6, .int (nI k))] CC (jd ddL_isGrouped 16 rfl) (by decide) rfl ?_
        refine jr_iconst (v := 0) CC (jd ddL_isGrouped 17 rfl) (by decide) ?_
        refine jr_istore [(6, .int 0), (5, .int (nI (((nn + 4) - 1) / 4))), (4, .int 4), (3, .int 1), (0, .ref h0), (1, .int (nI rr)), (2, .int (nI nn))] CC (jd ddL_isGrouped 18 rfl) (by decide) rfl ?_
        have hL10 : ∀ (d9 : Nat) (k : Nat) (hk : k ≤ ((nn + 4 - 1) / 4)), ((nn + 4 - 1) / 4) - k < d9 → J p l e { frames := 11, cells := 2035, slots := 12210, locals := 203 } s m args below meth c D A 14 Q (([(h0, .inr (9, [.ref x1, .ref x2, .ref x3, .ref x4, .ref x5, .ref x6, .int fi])), (x2, .inr (5, jmem M ca cg)), (ca, .inl (t 2, 8, .inr (.inr (.inr (.inr (jcaps ad))))))] : va_W) ++ jpool t ad K) [(0, .ref h0), (1, .int (nI rr)), (2, .int (nI nn)), (3, .int 1), (4, .int 4), (5, .int (nI ((nn + 4 - 1) / 4))), (6, .int (nI k))] 30 [] (24 * k + 743) (144 * k + 4458) := by
          intro d9
          induction d9 with
          | zero => intro k hk hmu; exact absurd hmu (Nat.not_lt_zero _)
          | succ d9 ih30 =>
            intro k hk hmu
            refine jr_iload CC (jd ddL_isGrouped 19 rfl) 6 rfl ?_
            refine jr_iload CC (jd ddL_isGrouped 20 rfl) 5 rfl ?_
            refine jr_icmp_ge 214 CC (jd ddL_isGrouped 21 rfl) (by decide) (fun c11 => ?_) (fun c11 => ?_)
            · have n11 := jle_of (a := ((nn + 4 - 1) / 4)) (b := k) c11 (by omega) (by omega)
              refine jr_widen (k' := 1055) (n' := 6330) (by omega) (by omega) ?_
              refine jr_iload_n CC (jd ddL_isGrouped 117 rfl) 3 rfl ?_
              refine jr_if_eq 255 CC (jd ddL_isGrouped 118 rfl) (by decide) (fun h => absurd h (by decide)) (fun _ => ?_)
              refine jr_aload_n CC (jd ddL_isGrouped 119 rfl) 0 rfl ?_
              refine jr_iconst (v := 0) CC (jd ddL_isGrouped 120 rfl) (by decide) ?_
              refine jr_iload_n CC (jd ddL_isGrouped 121 rfl) 1 rfl ?_
              refine jr_iconst (v := 1) CC (jd ddL_isGrouped 122 rfl) (by decide) ?_
              refine jr_iload CC (jd ddL_isGrouped 123 rfl) 4 rfl ?_
              refine jr_pc (pc' := 224) rfl ?_
              refine jr_iload CC (jd ddL_isGrouped 124 rfl) 5 rfl ?_
              refine jr_norm (([(h0, .inr (9, [.ref x1, .ref x2, .ref x3, .ref x4, .ref x5, .ref x6, .int fi])), (x2, .inr (5, jmem M ca cg)), (ca, .inl (t 2, 8, .inr (.inr (.inr (.inr (jcaps ad))))))] : va_W) ++ jpool t ad K) [.int (nI ((nn + 4 - 1) / 4)), .int 4, .int 1, .int (nI rr), .int 0, .ref h0] 226 1055 6330 rfl rfl rfl rfl rfl ?_
              refine jr_callW (rest := []) [.ref h0, .int 0, .int (nI rr), .int 1, .int 4, .int (nI ((nn + 4 - 1) / 4))] CC (jd ddL_isGrouped 125 rfl) (jy_L_143 CC) (k_L_grouped0 l t hfl h0 x1 x2 x3 x4 x5 x6 fi M ca cg ad K m8 (nI rr) 1 4 (nI ((nn + 4 - 1) / 4)) hM1 hm8 hK) ([0, 1, 2] ++ (List.range 32).map (fun i => 3 + i)) (jpool_isC 3 rfl (is := [0, 1, 2]) rfl (by decide)) (by decide) rfl rfl (by decide) (Nat.le_of_ble_eq_true rfl) (by rintro v u h; rcases h with ⟨rfl, rfl⟩ <;> exact jpool_same rfl) (fun _ _ h => h.elim) (fun _ _ h => h.elim) (fun v u h => ?_)
              rcases h with ⟨rfl, rfl⟩
              refine jr_ws (jput [(h0, .inr (9, [.ref x1, .ref x2, .ref x3, .ref x4, .ref x5, .ref x6, .int fi])), (x2, .inr (5, jmem M ca cg)), (ca, .inl (t 2, 8, .inr (.inr (.inr (.inr (jcaps ad))))))] [0, 1, 2] [(h0, .inr (9, [.ref x1, .ref x2, .ref x3, .ref x4, .ref x5, .ref x6, .int fi])), (x2, .inr (5, jmem M ca cg)), (ca, .inl (t 2, 8, .inr (.inr (.inr (.inr (jcaps ad))))))] ++ jpool t ad K) (jpool_after 3 rfl rfl rfl (by decide)) ?_
              refine jr_norm (([(h0, .inr (9, [.ref x1, .ref x2, .ref x3, .ref x4, .ref x5, .ref x6, .int fi])), (x2, .inr (5, jmem M ca cg)), (ca, .inl (t 2, 8, .inr (.inr (.inr (.inr (jcaps ad))))))] : va_W) ++ jpool t ad K) [.int (wP (eGrp (M 1) (nI rr) (K (nI rr).toNatClampNeg).2.2.1 1 4 (nI ((nn + 4 - 1) / 4))) (cLow (K (nI rr).toNatClampNeg) 1 4 (nI ((nn + 4 - 1) / 4))) (-200) (-300) 0 0)] 229 1059 6354 rfl rfl rfl rfl rfl ?_
              refine jr_st [.int (-300)] (jst1 (wg_out hM1 hm8 hrr hnn hn49 jin01.2.1 (s := 4) (k := ((nn + 4 - 1) / 4)) (by decide) (by decide) (by omega) (by omega) _ _ _ _ _)) ?_
              refine jr_sipush (v := (-300)) CC (jd ddL_isGrouped 126 rfl) (by decide) ?_
              refine jr_icmp_ne 255 CC (jd ddL_isGrouped 127 rfl) (by decide) (fun h => absurd h (by decide)) (fun _ => ?_)
              refine jr_aload_n CC (jd ddL_isGrouped 128 rfl) 0 rfl ?_
              refine jr_iconst (v := 1) CC (jd ddL_isGrouped 129 rfl) (by decide) ?_
              refine jr_iload_n CC (jd ddL_isGrouped 130 rfl) 1 rfl ?_
              refine jr_iconst (v := 0) CC (jd ddL_isGrouped 131 rfl) (by decide) ?_
              refine jr_iload CC (jd ddL_isGrouped 132 rfl) 4 rfl ?_
              refine jr_iconst (v := (-1)) CC (jd ddL_isGrouped 133 rfl) (by decide) ?_
              refine jr_norm (([(h0, .inr (9, [.ref x1, .ref x2, .ref x3, .ref x4, .ref x5, .ref x6, .int fi])), (x2, .inr (5, jmem M ca cg)), (ca, .inl (t 2, 8, .inr (.inr (.inr (.inr (jcaps ad))))))] : va_W) ++ jpool t ad K) [.int (-1), .int 4, .int 0, .int (nI rr), .int 1, .ref h0] 242 1059 6354 rfl rfl rfl rfl rfl ?_
              refine jr_callW (rest := []) [.ref h0, .int 1, .int (nI rr), .int 0, .int 4, .int (-1)] CC (jd ddL_isGrouped 134 rfl) (jy_L_143 CC) (k_L_grouped1 l t hfl h0 x1 x2 x3 x4 x5 x6 fi M ca cg ad K m8 (nI rr) 0 4 (-1 : Int32) hM1 hm8 hK) ([0, 1, 2] ++ (List.range 32).map (fun i => 3 + i)) (jpool_isC 3 rfl (is := [0, 1, 2]) rfl (by decide)) (by decide) rfl rfl (by decide) (Nat.le_of_ble_eq_true rfl) (by rintro v u h; rcases h with ⟨rfl, rfl⟩ <;> exact jpool_same rfl) (fun _ _ h => h.elim) (fun _ _ h => h.elim) (fun v u h => ?_)
              rcases h with ⟨rfl, rfl⟩
              refine jr_ws (jput [(h0, .inr (9, [.ref x1, .ref x2, .ref x3, .ref x4, .ref x5, .ref x6, .int fi])), (x2, .inr (5, jmem M ca cg)), (ca, .inl (t 2, 8, .inr (.inr (.inr (.inr (jcaps ad))))))] [0, 1, 2] [(h0, .inr (9, [.ref x1, .ref x2, .ref x3, .ref x4, .ref x5, .ref x6, .int fi])), (x2, .inr (5, jmem M ca cg)), (ca, .inl (t 2, 8, .inr (.inr (.inr (.inr (jcaps ad))))))] ++ jpool t ad K) (jpool_after 3 rfl rfl rfl (by decide)) ?_
              refine jr_norm (([(h0, .inr (9, [.ref x1, .ref x2, .ref x3, .ref x4, .ref x5, .ref x6, .int fi])), (x2, .inr (5, jmem M ca cg)), (ca, .inl (t 2, 8, .inr (.inr (.inr (.inr (jcaps ad))))))] : va_W) ++ jpool t ad K) [.int (wP (eGrp (M 1) (nI rr) (K (nI rr).toNatClampNeg).2.2.1 0 4 (-1 : Int32)) (cHigh (K (nI rr).toNatClampNeg) 0 4 (-1 : Int32)) (-200) (-300) 0 0)] 245 1063 6378 rfl rfl rfl rfl rfl ?_
              refine jr_st [.int (-300)] (jst1 (wg_neg hM1 hm8 hrr hnn hn49 jin01.1 (s := 4) (by decide) (by decide) _ _ _ _ _)) ?_
              refine jr_sipush (v := (-300)) CC (jd ddL_isGrouped 135 rfl) (by decide) ?_
              refine jr_icmp_ne 255 CC (jd ddL_isGrouped 136 rfl) (by decide) (fun h => absurd h (by decide)) (fun _ => ?_)
              refine jr_iconst (v := 1) CC (jd ddL_isGrouped 137 rfl) (by decide) ?_
              refine jr_goto 256 CC (jd ddL_isGrouped 138 rfl) (by decide) ?_
              refine jr_istore_n 3 [(3, .int 1), (0, .ref h0), (1, .int (nI rr)), (2, .int (nI nn)), (4, .int 4), (5, .int (nI ((nn + 4 - 1) / 4))), (6, .int (nI k))] CC (jd ddL_isGrouped 140 rfl) rfl (by decide) rfl ?_
              refine jr_iinc [(4, .int 7), (3, .int 1), (0, .ref h0), (1, .int (nI rr)), (2, .int (nI nn)), (5, .int (nI ((nn + 4 - 1) / 4))), (6, .int (nI k))] CC (jd ddL_isGrouped 141 rfl) 4 rfl (by decide) (by decide) rfl ?_
              refine jr_goto 5 CC (jd ddL_isGrouped 142 rfl) (by decide) ?_
              refine jr_iload CC (jd ddL_isGrouped 4 rfl) 0 rfl ?_
              refine jr_bipush (v := 17) CC (jd ddL_isGrouped 5 rfl) (by decide) ?_
              refine jr_icmp_ge 263 CC (jd ddL_isGrouped 6 rfl) (by decide) (fun h => absurd h (by decide)) (fun _ => ?_)
              refine jr_iload_n CC (jd ddL_isGrouped 7 rfl) 1 rfl ?_
              refine jr_if_eq 263 CC (jd ddL_isGrouped 8 rfl) (by decide) (fun h => absurd h (by decide)) (fun _ => ?_)
              refine jr_iload_n CC (jd ddL_isGrouped 9 rfl) 4 rfl ?_
              refine jr_iload CC (jd ddL_isGrouped 10 rfl) 0 rfl ?_
              refine jr_iadd CC (jd ddL_isGrouped 11 rfl) ?_
              refine jr_st [.int (nI (nn + 7))] (jst1 (nI_add nn 7)) ?_
              refine jr_iconst (v := 1) CC (jd ddL_isGrouped 12 rfl) (by decide) ?_
              refine jr_isub CC (jd ddL_isGrouped 13 rfl) ?_
              refine jr_st [.int (nI ((nn + 7) - 1))] (jst1 (pk_sub (a := (nn + 7)) (b := 1) (by omega))) ?_
              refine jr_pc (pc' := 22) rfl ?_
              refine jr_iload CC (jd ddL_isGrouped 14 rfl) 0 rfl ?_
              refine jr_idiv CC (jd ddL_isGrouped 15 rfl) (by decide) ?_
              refine jr_st [.int (nI (((nn + 7) - 1) / 7))] (jst1 (pk_div (a := ((nn + 7) - 1)) (d := 7) (by omega) (by omega) (by omega))) ?_
              refine jr_istore [(5, .int (nI (((nn + 7) - 1) / 7))), (4, .int 7), (3, .int 1), (0, .ref h0), (1, .int (nI rr)), (2, .int (nI nn)), (6, .int (nI k))] CC (jd ddL_isGrouped 16 rfl) (by decide) rfl ?_
              refine jr_iconst (v := 0) CC (jd ddL_isGrouped 17 rfl) (by decide) ?_
              refine jr_istore [(6, .int 0), (5, .int (nI (((nn + 7) - 1) / 7))), (4, .int 7), (3, .int 1), (0, .ref h0), (1, .int (nI rr)), (2, .int (nI nn))] CC (jd ddL_isGrouped 18 rfl) (by decide) rfl ?_
              have hL17 : ∀ (d9 : Nat) (k : Nat) (hk : k ≤ ((nn + 7 - 1) / 7)), ((nn + 7 - 1) / 7) - k < d9 → J p l e { frames := 11, cells := 2035, slots := 12210, locals := 203 } s m args below meth c D A 14 Q (([(h0, .inr (9, [.ref x1, .ref x2, .ref x3, .ref x4, .ref x5, .ref x6, .int fi])), (x2, .inr (5, jmem M ca cg)), (ca, .inl (t 2, 8, .inr (.inr (.inr (.inr (jcaps ad))))))] : va_W) ++ jpool t ad K) [(0, .ref h0), (1, .int (nI rr)), (2, .int (nI nn)), (3, .int 1), (4, .int 7), (5, .int (nI ((nn + 7 - 1) / 7))), (6, .int (nI k))] 30 [] (33 * k + 1063) (198 * k + 6378) := by
                intro d9
                induction d9 with
                | zero => intro k hk hmu; exact absurd hmu (Nat.not_lt_zero _)
                | succ d9 ih30 =>
                  intro k hk hmu
                  refine jr_iload CC (jd ddL_isGrouped 19 rfl) 6 rfl ?_
                  refine jr_iload CC (jd ddL_isGrouped 20 rfl) 5 rfl ?_
                  refine jr_icmp_ge 214 CC (jd ddL_isGrouped 21 rfl) (by decide) (fun c18 => ?_) (fun c18 => ?_)
                  · have n18 := jle_of (a := ((nn + 7 - 1) / 7)) (b := k) c18 (by omega) (by omega)
                    refine jr_widen (k' := 1294) (n' := 7764) (by omega) (by omega) ?_
                    refine jr_iload_n CC (jd ddL_isGrouped 117 rfl) 3 rfl ?_
                    refine jr_if_eq 255 CC (jd ddL_isGrouped 118 rfl) (by decide) (fun h => absurd h (by decide)) (fun _ => ?_)
                    refine jr_aload_n CC (jd ddL_isGrouped 119 rfl) 0 rfl ?_
                    refine jr_iconst (v := 0) CC (jd ddL_isGrouped 120 rfl) (by decide) ?_
                    refine jr_iload_n CC (jd ddL_isGrouped 121 rfl) 1 rfl ?_
                    refine jr_iconst (v := 1) CC (jd ddL_isGrouped 122 rfl) (by decide) ?_
                    refine jr_iload CC (jd ddL_isGrouped 123 rfl) 4 rfl ?_
                    refine jr_pc (pc' := 224) rfl ?_
                    refine jr_iload CC (jd ddL_isGrouped 124 rfl) 5 rfl ?_
                    refine jr_norm (([(h0, .inr (9, [.ref x1, .ref x2, .ref x3, .ref x4, .ref x5, .ref x6, .int fi])), (x2, .inr (5, jmem M ca cg)), (ca, .inl (t 2, 8, .inr (.inr (.inr (.inr (jcaps ad))))))] : va_W) ++ jpool t ad K) [.int (nI ((nn + 7 - 1) / 7)), .int 7, .int 1, .int (nI rr), .int 0, .ref h0] 226 1294 7764 rfl rfl rfl rfl rfl ?_
                    refine jr_callW (rest := []) [.ref h0, .int 0, .int (nI rr), .int 1, .int 7, .int (nI ((nn + 7 - 1) / 7))] CC (jd ddL_isGrouped 125 rfl) (jy_L_143 CC) (k_L_grouped0 l t hfl h0 x1 x2 x3 x4 x5 x6 fi M ca cg ad K m8 (nI rr) 1 7 (nI ((nn + 7 - 1) / 7)) hM1 hm8 hK) ([0, 1, 2] ++ (List.range 32).map (fun i => 3 + i)) (jpool_isC 3 rfl (is := [0, 1, 2]) rfl (by decide)) (by decide) rfl rfl (by decide) (Nat.le_of_ble_eq_true rfl) (by rintro v u h; rcases h with ⟨rfl, rfl⟩ <;> exact jpool_same rfl) (fun _ _ h => h.elim) (fun _ _ h => h.elim) (fun v u h => ?_)
                    rcases h with ⟨rfl, rfl⟩
                    refine jr_ws (jput [(h0, .inr (9, [.ref x1, .ref x2, .ref x3, .ref x4, .ref x5, .ref x6, .int fi])), (x2, .inr (5, jmem M ca cg)), (ca, .inl (t 2, 8, .inr (.inr (.inr (.inr (jcaps ad))))))] [0, 1, 2] [(h0, .inr (9, [.ref x1, .ref x2, .ref x3, .ref x4, .ref x5, .ref x6, .int fi])), (x2, .inr (5, jmem M ca cg)), (ca, .inl (t 2, 8, .inr (.inr (.inr (.inr (jcaps ad))))))] ++ jpool t ad K) (jpool_after 3 rfl rfl rfl (by decide)) ?_
                    refine jr_norm (([(h0, .inr (9, [.ref x1, .ref x2, .ref x3, .ref x4, .ref x5, .ref x6, .int fi])), (x2, .inr (5, jmem M ca cg)), (ca, .inl (t 2, 8, .inr (.inr (.inr (.inr (jcaps ad))))))] : va_W) ++ jpool t ad K) [.int (wP (eGrp (M 1) (nI rr) (K (nI rr).toNatClampNeg).2.2.1 1 7 (nI ((nn + 7 - 1) / 7))) (cLow (K (nI rr).toNatClampNeg) 1 7 (nI ((nn + 7 - 1) / 7))) (-200) (-300) 0 0)] 229 1298 7788 rfl rfl rfl rfl rfl ?_
                    refine jr_st [.int (-300)] (jst1 (wg_out hM1 hm8 hrr hnn hn49 jin01.2.1 (s := 7) (k := ((nn + 7 - 1) / 7)) (by decide) (by decide) (by omega) (by omega) _ _ _ _ _)) ?_
                    refine jr_sipush (v := (-300)) CC (jd ddL_isGrouped 126 rfl) (by decide) ?_
                    refine jr_icmp_ne 255 CC (jd ddL_isGrouped 127 rfl) (by decide) (fun h => absurd h (by decide)) (fun _ => ?_)
                    refine jr_aload_n CC (jd ddL_isGrouped 128 rfl) 0 rfl ?_
                    refine jr_iconst (v := 1) CC (jd ddL_isGrouped 129 rfl) (by decide) ?_
                    refine jr_iload_n CC (jd ddL_isGrouped 130 rfl) 1 rfl ?_
                    refine jr_iconst (v := 0) CC (jd ddL_isGrouped 131 rfl) (by decide) ?_
                    refine jr_iload CC (jd ddL_isGrouped 132 rfl) 4 rfl ?_
                    refine jr_iconst (v := (-1)) CC (jd ddL_isGrouped 133 rfl) (by decide) ?_
                    refine jr_norm (([(h0, .inr (9, [.ref x1, .ref x2, .ref x3, .ref x4, .ref x5, .ref x6, .int fi])), (x2, .inr (5, jmem M ca cg)), (ca, .inl (t 2, 8, .inr (.inr (.inr (.inr (jcaps ad))))))] : va_W) ++ jpool t ad K) [.int (-1), .int 7, .int 0, .int (nI rr), .int 1, .ref h0] 242 1298 7788 rfl rfl rfl rfl rfl ?_
                    refine jr_callW (rest := []) [.ref h0, .int 1, .int (nI rr), .int 0, .int 7, .int (-1)] CC (jd ddL_isGrouped 134 rfl) (jy_L_143 CC) (k_L_grouped1 l t hfl h0 x1 x2 x3 x4 x5 x6 fi M ca cg ad K m8 (nI rr) 0 7 (-1 : Int32) hM1 hm8 hK) ([0, 1, 2] ++ (List.range 32).map (fun i => 3 + i)) (jpool_isC 3 rfl (is := [0, 1, 2]) rfl (by decide)) (by decide) rfl rfl (by decide) (Nat.le_of_ble_eq_true rfl) (by rintro v u h; rcases h with ⟨rfl, rfl⟩ <;> exact jpool_same rfl) (fun _ _ h => h.elim) (fun _ _ h => h.elim) (fun v u h => ?_)
                    rcases h with ⟨rfl, rfl⟩
                    refine jr_ws (jput [(h0, .inr (9, [.ref x1, .ref x2, .ref x3, .ref x4, .ref x5, .ref x6, .int fi])), (x2, .inr (5, jmem M ca cg)), (ca, .inl (t 2, 8, .inr (.inr (.inr (.inr (jcaps ad))))))] [0, 1, 2] [(h0, .inr (9, [.ref x1, .ref x2, .ref x3, .ref x4, .ref x5, .ref x6, .int fi])), (x2, .inr (5, jmem M ca cg)), (ca, .inl (t 2, 8, .inr (.inr (.inr (.inr (jcaps ad))))))] ++ jpool t ad K) (jpool_after 3 rfl rfl rfl (by decide)) ?_
                    refine jr_norm (([(h0, .inr (9, [.ref x1, .ref x2, .ref x3, .ref x4, .ref x5, .ref x6, .int fi])), (x2, .inr (5, jmem M ca cg)), (ca, .inl (t 2, 8, .inr (.inr (.inr (.inr (jcaps ad))))))] : va_W) ++ jpool t ad K) [.int (wP (eGrp (M 1) (nI rr) (K (nI rr).toNatClampNeg).2.2.1 0 7 (-1 : Int32)) (cHigh (K (nI rr).toNatClampNeg) 0 7 (-1 : Int32)) (-200) (-300) 0 0)] 245 1302 7812 rfl rfl rfl rfl rfl ?_
                    refine jr_st [.int (-300)] (jst1 (wg_neg hM1 hm8 hrr hnn hn49 jin01.1 (s := 7) (by decide) (by decide) _ _ _ _ _)) ?_
                    refine jr_sipush (v := (-300)) CC (jd ddL_isGrouped 135 rfl) (by decide) ?_
                    refine jr_icmp_ne 255 CC (jd ddL_isGrouped 136 rfl) (by decide) (fun h => absurd h (by decide)) (fun _ => ?_)
                    refine jr_iconst (v := 1) CC (jd ddL_isGrouped 137 rfl) (by decide) ?_
                    refine jr_goto 256 CC (jd ddL_isGrouped 138 rfl) (by decide) ?_
                    refine jr_istore_n 3 [(3, .int 1), (0, .ref h0), (1, .int (nI rr)), (2, .int (nI nn)), (4, .int 7), (5, .int (nI ((nn + 7 - 1) / 7))), (6, .int (nI k))] CC (jd ddL_isGrouped 140 rfl) rfl (by decide) rfl ?_
                    refine jr_iinc [(4, .int 10), (3, .int 1), (0, .ref h0), (1, .int (nI rr)), (2, .int (nI nn)), (5, .int (nI ((nn + 7 - 1) / 7))), (6, .int (nI k))] CC (jd ddL_isGrouped 141 rfl) 4 rfl (by decide) (by decide) rfl ?_
                    refine jr_goto 5 CC (jd ddL_isGrouped 142 rfl) (by decide) ?_
                    refine jr_iload CC (jd ddL_isGrouped 4 rfl) 0 rfl ?_
                    refine jr_bipush (v := 17) CC (jd ddL_isGrouped 5 rfl) (by decide) ?_
                    refine jr_icmp_ge 263 CC (jd ddL_isGrouped 6 rfl) (by decide) (fun h => absurd h (by decide)) (fun _ => ?_)
                    refine jr_iload_n CC (jd ddL_isGrouped 7 rfl) 1 rfl ?_
                    refine jr_if_eq 263 CC (jd ddL_isGrouped 8 rfl) (by decide) (fun h => absurd h (by decide)) (fun _ => ?_)
                    refine jr_iload_n CC (jd ddL_isGrouped 9 rfl) 4 rfl ?_
                    refine jr_iload CC (jd ddL_isGrouped 10 rfl) 0 rfl ?_
                    refine jr_iadd CC (jd ddL_isGrouped 11 rfl) ?_
                    refine jr_st [.int (nI (nn + 10))] (jst1 (nI_add nn 10)) ?_
                    refine jr_iconst (v := 1) CC (jd ddL_isGrouped 12 rfl) (by decide) ?_
                    refine jr_isub CC (jd ddL_isGrouped 13 rfl) ?_
                    refine jr_st [.int (nI ((nn + 10) - 1))] (jst1 (pk_sub (a := (nn + 10)) (b := 1) (by omega))) ?_
                    refine jr_pc (pc' := 22) rfl ?_
                    refine jr_iload CC (jd ddL_isGrouped 14 rfl) 0 rfl ?_
                    refine jr_idiv CC (jd ddL_isGrouped 15 rfl) (by decide) ?_
                    refine jr_st [.int (nI (((nn + 10) - 1) / 10))] (jst1 (pk_div (a := ((nn + 10) - 1)) (d := 10) (by omega) (by omega) (by omega))) ?_
                    refine jr_istore [(5, .int (nI (((nn + 10) - 1) / 10))), (4, .int 10), (3, .int 1), (0, .ref h0), (1, .int (nI rr)), (2, .int (nI nn)), (6, .int (nI k))] CC (jd ddL_isGrouped 16 rfl) (by decide) rfl ?_
                    refine jr_iconst (v := 0) CC (jd ddL_isGrouped 17 rfl) (by decide) ?_
                    refine jr_istore [(6, .int 0), (5, .int (nI (((nn + 10) - 1) / 10))), (4, .int 10), (3, .int 1), (0, .ref h0), (1, .int (nI rr)), (2, .int (nI nn))] CC (jd ddL_isGrouped 18 rfl) (by decide) rfl ?_
                    have hL24 : ∀ (d9 : Nat) (k : Nat) (hk : k ≤ ((nn + 10 - 1) / 10)), ((nn + 10 - 1) / 10) - k < d9 → J p l e { frames := 11, cells := 2035, slots := 12210, locals := 203 } s m args below meth c D A 14 Q (([(h0, .inr (9, [.ref x1, .ref x2, .ref x3, .ref x4, .ref x5, .ref x6, .int fi])), (x2, .inr (5, jmem M ca cg)), (ca, .inl (t 2, 8, .inr (.inr (.inr (.inr (jcaps ad))))))] : va_W) ++ jpool t ad K) [(0, .ref h0), (1, .int (nI rr)), (2, .int (nI nn)), (3, .int 1), (4, .int 10), (5, .int (nI ((nn + 10 - 1) / 10))), (6, .int (nI k))] 30 [] (42 * k + 1302) (252 * k + 7812) := by
                      intro d9
                      induction d9 with
                      | zero => intro k hk hmu; exact absurd hmu (Nat.not_lt_zero _)
                      | succ d9 ih30 =>
                        intro k hk hmu
                        refine jr_iload CC (jd ddL_isGrouped 19 rfl) 6 rfl ?_
                        refine jr_iload CC (jd ddL_isGrouped 20 rfl) 5 rfl ?_
                        refine jr_icmp_ge 214 CC (jd ddL_isGrouped 21 rfl) (by decide) (fun c25 => ?_) (fun c25 => ?_)
                        · have n25 := jle_of (a := ((nn + 10 - 1) / 10)) (b := k) c25 (by omega) (by omega)
                          refine jr_widen (k' := 1512) (n' := 9072) (by omega) (by omega) ?_
                          refine jr_iload_n CC (jd ddL_isGrouped 117 rfl) 3 rfl ?_
                          refine jr_if_eq 255 CC (jd ddL_isGrouped 118 rfl) (by decide) (fun h => absurd h (by decide)) (fun _ => ?_)
                          refine jr_aload_n CC (jd ddL_isGrouped 119 rfl) 0 rfl ?_
                          refine jr_iconst (v := 0) CC (jd ddL_isGrouped 120 rfl) (by decide) ?_
                          refine jr_iload_n CC (jd ddL_isGrouped 121 rfl) 1 rfl ?_
                          refine jr_iconst (v := 1) CC (jd ddL_isGrouped 122 rfl) (by decide) ?_
                          refine jr_iload CC (jd ddL_isGrouped 123 rfl) 4 rfl ?_
                          refine jr_pc (pc' := 224) rfl ?_
                          refine jr_iload CC (jd ddL_isGrouped 124 rfl) 5 rfl ?_
                          refine jr_norm (([(h0, .inr (9, [.ref x1, .ref x2, .ref x3, .ref x4, .ref x5, .ref x6, .int fi])), (x2, .inr (5, jmem M ca cg)), (ca, .inl (t 2, 8, .inr (.inr (.inr (.inr (jcaps ad))))))] : va_W) ++ jpool t ad K) [.int (nI ((nn + 10 - 1) / 10)), .int 10, .int 1, .int (nI rr), .int 0, .ref h0] 226 1512 9072 rfl rfl rfl rfl rfl ?_
                          refine jr_callW (rest := []) [.ref h0, .int 0, .int (nI rr), .int 1, .int 10, .int (nI ((nn + 10 - 1) / 10))] CC (jd ddL_isGrouped 125 rfl) (jy_L_143 CC) (k_L_grouped0 l t hfl h0 x1 x2 x3 x4 x5 x6 fi M ca cg ad K m8 (nI rr) 1 10 (nI ((nn + 10 - 1) / 10)) hM1 hm8 hK) ([0, 1, 2] ++ (List.range 32).map (fun i => 3 + i)) (jpool_isC 3 rfl (is := [0, 1, 2]) rfl (by decide)) (by decide) rfl rfl (by decide) (Nat.le_of_ble_eq_true rfl) (by rintro v u h; rcases h with ⟨rfl, rfl⟩ <;> exact jpool_same rfl) (fun _ _ h => h.elim) (fun _ _ h => h.elim) (fun v u h => ?_)
                          rcases h with ⟨rfl, rfl⟩
                          refine jr_ws (jput [(h0, .inr (9, [.ref x1, .ref x2, .ref x3, .ref x4, .ref x5, .ref x6, .int fi])), (x2, .inr (5, jmem M ca cg)), (ca, .inl (t 2, 8, .inr (.inr (.inr (.inr (jcaps ad))))))] [0, 1, 2] [(h0, .inr (9, [.ref x1, .ref x2, .ref x3, .ref x4, .ref x5, .ref x6, .int fi])), (x2, .inr (5, jmem M ca cg)), (ca, .inl (t 2, 8, .inr (.inr (.inr (.inr (jcaps ad))))))] ++ jpool t ad K) (jpool_after 3 rfl rfl rfl (by decide)) ?_
                          refine jr_norm (([(h0, .inr (9, [.ref x1, .ref x2, .ref x3, .ref x4, .ref x5, .ref x6, .int fi])), (x2, .inr (5, jmem M ca cg)), (ca, .inl (t 2, 8, .inr (.inr (.inr (.inr (jcaps ad))))))] : va_W) ++ jpool t ad K) [.int (wP (eGrp (M 1) (nI rr) (K (nI rr).toNatClampNeg).2.2.1 1 10 (nI ((nn + 10 - 1) / 10))) (cLow (K (nI rr).toNatClampNeg) 1 10 (nI ((nn + 10 - 1) / 10))) (-200) (-300) 0 0)] 229 1516 9096 rfl rfl rfl rfl rfl ?_
                          refine jr_st [.int (-300)] (jst1 (wg_out hM1 hm8 hrr hnn hn49 jin01.2.1 (s := 10) (k := ((nn + 10 - 1) / 10)) (by decide) (by decide) (by omega) (by omega) _ _ _ _ _)) ?_
                          refine jr_sipush (v := (-300)) CC (jd ddL_isGrouped 126 rfl) (by decide) ?_
                          refine jr_icmp_ne 255 CC (jd ddL_isGrouped 127 rfl) (by decide) (fun h => absurd h (by decide)) (fun _ => ?_)
                          refine jr_aload_n CC (jd ddL_isGrouped 128 rfl) 0 rfl ?_
                          refine jr_iconst (v := 1) CC (jd ddL_isGrouped 129 rfl) (by decide) ?_
                          refine jr_iload_n CC (jd ddL_isGrouped 130 rfl) 1 rfl ?_
                          refine jr_iconst (v := 0) CC (jd ddL_isGrouped 131 rfl) (by decide) ?_
                          refine jr_iload CC (jd ddL_isGrouped 132 rfl) 4 rfl ?_
                          refine jr_iconst (v := (-1)) CC (jd ddL_isGrouped 133 rfl) (by decide) ?_
                          refine jr_norm (([(h0, .inr (9, [.ref x1, .ref x2, .ref x3, .ref x4, .ref x5, .ref x6, .int fi])), (x2, .inr (5, jmem M ca cg)), (ca, .inl (t 2, 8, .inr (.inr (.inr (.inr (jcaps ad))))))] : va_W) ++ jpool t ad K) [.int (-1), .int 10, .int 0, .int (nI rr), .int 1, .ref h0] 242 1516 9096 rfl rfl rfl rfl rfl ?_
                          refine jr_callW (rest := []) [.ref h0, .int 1, .int (nI rr), .int 0, .int 10, .int (-1)] CC (jd ddL_isGrouped 134 rfl) (jy_L_143 CC) (k_L_grouped1 l t hfl h0 x1 x2 x3 x4 x5 x6 fi M ca cg ad K m8 (nI rr) 0 10 (-1 : Int32) hM1 hm8 hK) ([0, 1, 2] ++ (List.range 32).map (fun i => 3 + i)) (jpool_isC 3 rfl (is := [0, 1, 2]) rfl (by decide)) (by decide) rfl rfl (by decide) (Nat.le_of_ble_eq_true rfl) (by rintro v u h; rcases h with ⟨rfl, rfl⟩ <;> exact jpool_same rfl) (fun _ _ h => h.elim) (fun _ _ h => h.elim) (fun v u h => ?_)
                          rcases h with ⟨rfl, rfl⟩
                          refine jr_ws (jput [(h0, .inr (9, [.ref x1, .ref x2, .ref x3, .ref x4, .ref x5, .ref x6, .int fi])), (x2, .inr (5, jmem M ca cg)), (ca, .inl (t 2, 8, .inr (.inr (.inr (.inr (jcaps ad))))))] [0, 1, 2] [(h0, .inr (9, [.ref x1, .ref x2, .ref x3, .ref x4, .ref x5, .ref x6, .int fi])), (x2, .inr (5, jmem M ca cg)), (ca, .inl (t 2, 8, .inr (.inr (.inr (.inr (jcaps ad))))))] ++ jpool t ad K) (jpool_after 3 rfl rfl rfl (by decide)) ?_
                          refine jr_norm (([(h0, .inr (9, [.ref x1, .ref x2, .ref x3, .ref x4, .ref x5, .ref x6, .int fi])), (x2, .inr (5, jmem M ca cg)), (ca, .inl (t 2, 8, .inr (.inr (.inr (.inr (jcaps ad))))))] : va_W) ++ jpool t ad K) [.int (wP (eGrp (M 1) (nI rr) (K (nI rr).toNatClampNeg).2.2.1 0 10 (-1 : Int32)) (cHigh (K (nI rr).toNatClampNeg) 0 10 (-1 : Int32)) (-200) (-300) 0 0)] 245 1520 9120 rfl rfl rfl rfl rfl ?_
                          refine jr_st [.int (-300)] (jst1 (wg_neg hM1 hm8 hrr hnn hn49 jin01.1 (s := 10) (by decide) (by decide) _ _ _ _ _)) ?_
                          refine jr_sipush (v := (-300)) CC (jd ddL_isGrouped 135 rfl) (by decide) ?_
                          refine jr_icmp_ne 255 CC (jd ddL_isGrouped 136 rfl) (by decide) (fun h => absurd h (by decide)) (fun _ => ?_)
                          refine jr_iconst (v := 1) CC (jd ddL_isGrouped 137 rfl) (by decide) ?_
                          refine jr_goto 256 CC (jd ddL_isGrouped 138 rfl) (by decide) ?_
                          refine jr_istore_n 3 [(3, .int 1), (0, .ref h0), (1, .int (nI rr)), (2, .int (nI nn)), (4, .int 10), (5, .int (nI ((nn + 10 - 1) / 10))), (6, .int (nI k))] CC (jd ddL_isGrouped 140 rfl) rfl (by decide) rfl ?_
                          refine jr_iinc [(4, .int 13), (3, .int 1), (0, .ref h0), (1, .int (nI rr)), (2, .int (nI nn)), (5, .int (nI ((nn + 10 - 1) / 10))), (6, .int (nI k))] CC (jd ddL_isGrouped 141 rfl) 4 rfl (by decide) (by decide) rfl ?_
                          refine jr_goto 5 CC (jd ddL_isGrouped 142 rfl) (by decide) ?_
                          refine jr_iload CC (jd ddL_isGrouped 4 rfl) 0 rfl ?_
                          refine jr_bipush (v := 17) CC (jd ddL_isGrouped 5 rfl) (by decide) ?_
                          refine jr_icmp_ge 263 CC (jd ddL_isGrouped 6 rfl) (by decide) (fun h => absurd h (by decide)) (fun _ => ?_)
                          refine jr_iload_n CC (jd ddL_isGrouped 7 rfl) 1 rfl ?_
                          refine jr_if_eq 263 CC (jd ddL_isGrouped 8 rfl) (by decide) (fun h => absurd h (by decide)) (fun _ => ?_)
                          refine jr_iload_n CC (jd ddL_isGrouped 9 rfl) 4 rfl ?_
                          refine jr_iload CC (jd ddL_isGrouped 10 rfl) 0 rfl ?_
                          refine jr_iadd CC (jd ddL_isGrouped 11 rfl) ?_
                          refine jr_st [.int (nI (nn + 13))] (jst1 (nI_add nn 13)) ?_
                          refine jr_iconst (v := 1) CC (jd ddL_isGrouped 12 rfl) (by decide) ?_
                          refine jr_isub CC (jd ddL_isGrouped 13 rfl) ?_
                          refine jr_st [.int (nI ((nn + 13) - 1))] (jst1 (pk_sub (a := (nn + 13)) (b := 1) (by omega))) ?_
                          refine jr_pc (pc' := 22) rfl ?_
                          refine jr_iload CC (jd ddL_isGrouped 14 rfl) 0 rfl ?_
                          refine jr_idiv CC (jd ddL_isGrouped 15 rfl) (by decide) ?_
                          refine jr_st [.int (nI (((nn + 13) - 1) / 13))] (jst1 (pk_div (a := ((nn + 13) - 1)) (d := 13) (by omega) (by omega) (by omega))) ?_
                          refine jr_istore [(5, .int (nI (((nn + 13) - 1) / 13))), (4, .int 13), (3, .int 1), (0, .ref h0), (1, .int (nI rr)), (2, .int (nI nn)), (6, .int (nI k))] CC (jd ddL_isGrouped 16 rfl) (by decide) rfl ?_
                          refine jr_iconst (v := 0) CC (jd ddL_isGrouped 17 rfl) (by decide) ?_
                          refine jr_istore [(6, .int 0), (5, .int (nI (((nn + 13) - 1) / 13))), (4, .int 13), (3, .int 1), (0, .ref h0), (1, .int (nI rr)), (2, .int (nI nn))] CC (jd ddL_isGrouped 18 rfl) (by decide) rfl ?_
                          have hL31 : ∀ (d9 : Nat) (k : Nat) (hk : k ≤ ((nn + 13 - 1) / 13)), ((nn + 13 - 1) / 13) - k < d9 → J p l e { frames := 11, cells := 2035, slots := 12210, locals := 203 } s m args below meth c D A 14 Q (([(h0, .inr (9, [.ref x1, .ref x2, .ref x3, .ref x4, .ref x5, .ref x6, .int fi])), (x2, .inr (5, jmem M ca cg)), (ca, .inl (t 2, 8, .inr (.inr (.inr (.inr (jcaps ad))))))] : va_W) ++ jpool t ad K) [(0, .ref h0), (1, .int (nI rr)), (2, .int (nI nn)), (3, .int 1), (4, .int 13), (5, .int (nI ((nn + 13 - 1) / 13))), (6, .int (nI k))] 30 [] (51 * k + 1520) (306 * k + 9120) := by
                            intro d9
                            induction d9 with
                            | zero => intro k hk hmu; exact absurd hmu (Nat.not_lt_zero _)
                            | succ d9 ih30 =>
                              intro k hk hmu
                              refine jr_iload CC (jd ddL_isGrouped 19 rfl) 6 rfl ?_
                              refine jr_iload CC (jd ddL_isGrouped 20 rfl) 5 rfl ?_
                              refine jr_icmp_ge 214 CC (jd ddL_isGrouped 21 rfl) (by decide) (fun c32 => ?_) (fun c32 => ?_)
                              · have n32 := jle_of (a := ((nn + 13 - 1) / 13)) (b := k) c32 (by omega) (by omega)
                                refine jr_widen (k' := 1724) (n' := 10344) (by omega) (by omega) ?_
                                refine jr_iload_n CC (jd ddL_isGrouped 117 rfl) 3 rfl ?_
                                refine jr_if_eq 255 CC (jd ddL_isGrouped 118 rfl) (by decide) (fun h => absurd h (by decide)) (fun _ => ?_)
                                refine jr_aload_n CC (jd ddL_isGrouped 119 rfl) 0 rfl ?_
                                refine jr_iconst (v := 0) CC (jd ddL_isGrouped 120 rfl) (by decide) ?_
                                refine jr_iload_n CC (jd ddL_isGrouped 121 rfl) 1 rfl ?_
                                refine jr_iconst (v := 1) CC (jd ddL_isGrouped 122 rfl) (by decide) ?_
                                refine jr_iload CC (jd ddL_isGrouped 123 rfl) 4 rfl ?_
                                refine jr_pc (pc' := 224) rfl ?_
                                refine jr_iload CC (jd ddL_isGrouped 124 rfl) 5 rfl ?_
                                refine jr_norm (([(h0, .inr (9, [.ref x1, .ref x2, .ref x3, .ref x4, .ref x5, .ref x6, .int fi])), (x2, .inr (5, jmem M ca cg)), (ca, .inl (t 2, 8, .inr (.inr (.inr (.inr (jcaps ad))))))] : va_W) ++ jpool t ad K) [.int (nI ((nn + 13 - 1) / 13)), .int 13, .int 1, .int (nI rr), .int 0, .ref h0] 226 1724 10344 rfl rfl rfl rfl rfl ?_
                                refine jr_callW (rest := []) [.ref h0, .int 0, .int (nI rr), .int 1, .int 13, .int (nI ((nn + 13 - 1) / 13))] CC (jd ddL_isGrouped 125 rfl) (jy_L_143 CC) (k_L_grouped0 l t hfl h0 x1 x2 x3 x4 x5 x6 fi M ca cg ad K m8 (nI rr) 1 13 (nI ((nn + 13 - 1) / 13)) hM1 hm8 hK) ([0, 1, 2] ++ (List.range 32).map (fun i => 3 + i)) (jpool_isC 3 rfl (is := [0, 1, 2]) rfl (by decide)) (by decide) rfl rfl (by decide) (Nat.le_of_ble_eq_true rfl) (by rintro v u h; rcases h with ⟨rfl, rfl⟩ <;> exact jpool_same rfl) (fun _ _ h => h.elim) (fun _ _ h => h.elim) (fun v u h => ?_)
                                rcases h with ⟨rfl, rfl⟩
                                refine jr_ws (jput [(h0, .inr (9, [.ref x1, .ref x2, .ref x3, .ref x4, .ref x5, .ref x6, .int fi])), (x2, .inr (5, jmem M ca cg)), (ca, .inl (t 2, 8, .inr (.inr (.inr (.inr (jcaps ad))))))] [0, 1, 2] [(h0, .inr (9, [.ref x1, .ref x2, .ref x3, .ref x4, .ref x5, .ref x6, .int fi])), (x2, .inr (5, jmem M ca cg)), (ca, .inl (t 2, 8, .inr (.inr (.inr (.inr (jcaps ad))))))] ++ jpool t ad K) (jpool_after 3 rfl rfl rfl (by decide)) ?_
                                refine jr_norm (([(h0, .inr (9, [.ref x1, .ref x2, .ref x3, .ref x4, .ref x5, .ref x6, .int fi])), (x2, .inr (5, jmem M ca cg)), (ca, .inl (t 2, 8, .inr (.inr (.inr (.inr (jcaps ad))))))] : va_W) ++ jpool t ad K) [.int (wP (eGrp (M 1) (nI rr) (K (nI rr).toNatClampNeg).2.2.1 1 13 (nI ((nn + 13 - 1) / 13))) (cLow (K (nI rr).toNatClampNeg) 1 13 (nI ((nn + 13 - 1) / 13))) (-200) (-300) 0 0)] 229 1728 10368 rfl rfl rfl rfl rfl ?_
                                refine jr_st [.int (-300)] (jst1 (wg_out hM1 hm8 hrr hnn hn49 jin01.2.1 (s := 13) (k := ((nn + 13 - 1) / 13)) (by decide) (by decide) (by omega) (by omega) _ _ _ _ _)) ?_
                                refine jr_sipush (v := (-300)) CC (jd ddL_isGrouped 126 rfl) (by decide) ?_
                                refine jr_icmp_ne 255 CC (jd ddL_isGrouped 127 rfl) (by decide) (fun h => absurd h (by decide)) (fun _ => ?_)
                                refine jr_aload_n CC (jd ddL_isGrouped 128 rfl) 0 rfl ?_
                                refine jr_iconst (v := 1) CC (jd ddL_isGrouped 129 rfl) (by decide) ?_
                                refine jr_iload_n CC (jd ddL_isGrouped 130 rfl) 1 rfl ?_
                                refine jr_iconst (v := 0) CC (jd ddL_isGrouped 131 rfl) (by decide) ?_
                                refine jr_iload CC (jd ddL_isGrouped 132 rfl) 4 rfl ?_
                                refine jr_iconst (v := (-1)) CC (jd ddL_isGrouped 133 rfl) (by decide) ?_
                                refine jr_norm (([(h0, .inr (9, [.ref x1, .ref x2, .ref x3, .ref x4, .ref x5, .ref x6, .int fi])), (x2, .inr (5, jmem M ca cg)), (ca, .inl (t 2, 8, .inr (.inr (.inr (.inr (jcaps ad))))))] : va_W) ++ jpool t ad K) [.int (-1), .int 13, .int 0, .int (nI rr), .int 1, .ref h0] 242 1728 10368 rfl rfl rfl rfl rfl ?_
                                refine jr_callW (rest := []) [.ref h0, .int 1, .int (nI rr), .int 0, .int 13, .int (-1)] CC (jd ddL_isGrouped 134 rfl) (jy_L_143 CC) (k_L_grouped1 l t hfl h0 x1 x2 x3 x4 x5 x6 fi M ca cg ad K m8 (nI rr) 0 13 (-1 : Int32) hM1 hm8 hK) ([0, 1, 2] ++ (List.range 32).map (fun i => 3 + i)) (jpool_isC 3 rfl (is := [0, 1, 2]) rfl (by decide)) (by decide) rfl rfl (by decide) (Nat.le_of_ble_eq_true rfl) (by rintro v u h; rcases h with ⟨rfl, rfl⟩ <;> exact jpool_same rfl) (fun _ _ h => h.elim) (fun _ _ h => h.elim) (fun v u h => ?_)
                                rcases h with ⟨rfl, rfl⟩
                                refine jr_ws (jput [(h0, .inr (9, [.ref x1, .ref x2, .ref x3, .ref x4, .ref x5, .ref x6, .int fi])), (x2, .inr (5, jmem M ca cg)), (ca, .inl (t 2, 8, .inr (.inr (.inr (.inr (jcaps ad))))))] [0, 1, 2] [(h0, .inr (9, [.ref x1, .ref x2, .ref x3, .ref x4, .ref x5, .ref x6, .int fi])), (x2, .inr (5, jmem M ca cg)), (ca, .inl (t 2, 8, .inr (.inr (.inr (.inr (jcaps ad))))))] ++ jpool t ad K) (jpool_after 3 rfl rfl rfl (by decide)) ?_
                                refine jr_norm (([(h0, .inr (9, [.ref x1, .ref x2, .ref x3, .ref x4, .ref x5, .ref x6, .int fi])), (x2, .inr (5, jmem M ca cg)), (ca, .inl (t 2, 8, .inr (.inr (.inr (.inr (jcaps ad))))))] : va_W) ++ jpool t ad K) [.int (wP (eGrp (M 1) (nI rr) (K (nI rr).toNatClampNeg).2.2.1 0 13 (-1 : Int32)) (cHigh (K (nI rr).toNatClampNeg) 0 13 (-1 : Int32)) (-200) (-300) 0 0)] 245 1732 10392 rfl rfl rfl rfl rfl ?_
                                refine jr_st [.int (-300)] (jst1 (wg_neg hM1 hm8 hrr hnn hn49 jin01.1 (s := 13) (by decide) (by decide) _ _ _ _ _)) ?_
                                refine jr_sipush (v := (-300)) CC (jd ddL_isGrouped 135 rfl) (by decide) ?_
                                refine jr_icmp_ne 255 CC (jd ddL_isGrouped 136 rfl) (by decide) (fun h => absurd h (by decide)) (fun _ => ?_)
                                refine jr_iconst (v := 1) CC (jd ddL_isGrouped 137 rfl) (by decide) ?_
                                refine jr_goto 256 CC (jd ddL_isGrouped 138 rfl) (by decide) ?_
                                refine jr_istore_n 3 [(3, .int 1), (0, .ref h0), (1, .int (nI rr)), (2, .int (nI nn)), (4, .int 13), (5, .int (nI ((nn + 13 - 1) / 13))), (6, .int (nI k))] CC (jd ddL_isGrouped 140 rfl) rfl (by decide) rfl ?_
                                refine jr_iinc [(4, .int 16), (3, .int 1), (0, .ref h0), (1, .int (nI rr)), (2, .int (nI nn)), (5, .int (nI ((nn + 13 - 1) / 13))), (6, .int (nI k))] CC (jd ddL_isGrouped 141 rfl) 4 rfl (by decide) (by decide) rfl ?_
                                refine jr_goto 5 CC (jd ddL_isGrouped 142 rfl) (by decide) ?_
                                refine jr_iload CC (jd ddL_isGrouped 4 rfl) 0 rfl ?_
                                refine jr_bipush (v := 17) CC (jd ddL_isGrouped 5 rfl) (by decide) ?_
                                refine jr_icmp_ge 263 CC (jd ddL_isGrouped 6 rfl) (by decide) (fun h => absurd h (by decide)) (fun _ => ?_)
                                refine jr_iload_n CC (jd ddL_isGrouped 7 rfl) 1 rfl ?_
                                refine jr_if_eq 263 CC (jd ddL_isGrouped 8 rfl) (by decide) (fun h => absurd h (by decide)) (fun _ => ?_)
                                refine jr_iload_n CC (jd ddL_isGrouped 9 rfl) 4 rfl ?_
                                refine jr_iload CC (jd ddL_isGrouped 10 rfl) 0 rfl ?_
                                refine jr_iadd CC (jd ddL_isGrouped 11 rfl) ?_
                                refine jr_st [.int (nI (nn + 16))] (jst1 (nI_add nn 16)) ?_
                                refine jr_iconst (v := 1) CC (jd ddL_isGrouped 12 rfl) (by decide) ?_
                                refine jr_isub CC (jd ddL_isGrouped 13 rfl) ?_
                                refine jr_st [.int (nI ((nn + 16) - 1))] (jst1 (pk_sub (a := (nn + 16)) (b := 1) (by omega))) ?_
                                refine jr_pc (pc' := 22) rfl ?_
                                refine jr_iload CC (jd ddL_isGrouped 14 rfl) 0 rfl ?_
                                refine jr_idiv CC (jd ddL_isGrouped 15 rfl) (by decide) ?_
                                refine jr_st [.int (nI (((nn + 16) - 1) / 16))] (jst1 (pk_div (a := ((nn + 16) - 1)) (d := 16) (by omega) (by omega) (by omega))) ?_
                                refine jr_istore [(5, .int (nI (((nn + 16) - 1) / 16))), (4, .int 16), (3, .int 1), (0, .ref h0), (1, .int (nI rr)), (2, .int (nI nn)), (6, .int (nI k))] CC (jd ddL_isGrouped 16 rfl) (by decide) rfl ?_
                                refine jr_iconst (v := 0) CC (jd ddL_isGrouped 17 rfl) (by decide) ?_
                                refine jr_istore [(6, .int 0), (5, .int (nI (((nn + 16) - 1) / 16))), (4, .int 16), (3, .int 1), (0, .ref h0), (1, .int (nI rr)), (2, .int (nI nn))] CC (jd ddL_isGrouped 18 rfl) (by decide) rfl ?_
                                have hL38 : ∀ (d9 : Nat) (k : Nat) (hk : k ≤ ((nn + 16 - 1) / 16)), ((nn + 16 - 1) / 16) - k < d9 → J p l e { frames := 11, cells := 2035, slots := 12210, locals := 203 } s m args below meth c D A 14 Q (([(h0, .inr (9, [.ref x1, .ref x2, .ref x3, .ref x4, .ref x5, .ref x6, .int fi])), (x2, .inr (5, jmem M ca cg)), (ca, .inl (t 2, 8, .inr (.inr (.inr (.inr (jcaps ad))))))] : va_W) ++ jpool t ad K) [(0, .ref h0), (1, .int (nI rr)), (2, .int (nI nn)), (3, .int 1), (4, .int 16), (5, .int (nI ((nn + 16 - 1) / 16))), (6, .int (nI k))] 30 [] (60 * k + 1732) (360 * k + 10392) := by
                                  intro d9
                                  induction d9 with
                                  | zero => intro k hk hmu; exact absurd hmu (Nat.not_lt_zero _)
                                  | succ d9 ih30 =>
                                    intro k hk hmu
                                    refine jr_iload CC (jd ddL_isGrouped 19 rfl) 6 rfl ?_
                                    refine jr_iload CC (jd ddL_isGrouped 20 rfl) 5 rfl ?_
                                    refine jr_icmp_ge 214 CC (jd ddL_isGrouped 21 rfl) (by decide) (fun c39 => ?_) (fun c39 => ?_)
                                    · have n39 := jle_of (a := ((nn + 16 - 1) / 16)) (b := k) c39 (by omega) (by omega)
                                      refine jr_widen (k' := 1972) (n' := 11832) (by omega) (by omega) ?_
                                      refine jr_iload_n CC (jd ddL_isGrouped 117 rfl) 3 rfl ?_
                                      refine jr_if_eq 255 CC (jd ddL_isGrouped 118 rfl) (by decide) (fun h => absurd h (by decide)) (fun _ => ?_)
                                      refine jr_aload_n CC (jd ddL_isGrouped 119 rfl) 0 rfl ?_
                                      refine jr_iconst (v := 0) CC (jd ddL_isGrouped 120 rfl) (by decide) ?_
                                      refine jr_iload_n CC (jd ddL_isGrouped 121 rfl) 1 rfl ?_
                                      refine jr_iconst (v := 1) CC (jd ddL_isGrouped 122 rfl) (by decide) ?_
                                      refine jr_iload CC (jd ddL_isGrouped 123 rfl) 4 rfl ?_
                                      refine jr_pc (pc' := 224) rfl ?_
                                      refine jr_iload CC (jd ddL_isGrouped 124 rfl) 5 rfl ?_
                                      refine jr_norm (([(h0, .inr (9, [.ref x1, .ref x2, .ref x3, .ref x4, .ref x5, .ref x6, .int fi])), (x2, .inr (5, jmem M ca cg)), (ca, .inl (t 2, 8, .inr (.inr (.inr (.inr (jcaps ad))))))] : va_W) ++ jpool t ad K) [.int (nI ((nn + 16 - 1) / 16)), .int 16, .int 1, .int (nI rr), .int 0, .ref h0] 226 1972 11832 rfl rfl rfl rfl rfl ?_
                                      refine jr_callW (rest := []) [.ref h0, .int 0, .int (nI rr), .int 1, .int 16, .int (nI ((nn + 16 - 1) / 16))] CC (jd ddL_isGrouped 125 rfl) (jy_L_143 CC) (k_L_grouped0 l t hfl h0 x1 x2 x3 x4 x5 x6 fi M ca cg ad K m8 (nI rr) 1 16 (nI ((nn + 16 - 1) / 16)) hM1 hm8 hK) ([0, 1, 2] ++ (List.range 32).map (fun i => 3 + i)) (jpool_isC 3 rfl (is := [0, 1, 2]) rfl (by decide)) (by decide) rfl rfl (by decide) (Nat.le_of_ble_eq_true rfl) (by rintro v u h; rcases h with ⟨rfl, rfl⟩ <;> exact jpool_same rfl) (fun _ _ h => h.elim) (fun _ _ h => h.elim) (fun v u h => ?_)
                                      rcases h with ⟨rfl, rfl⟩
                                      refine jr_ws (jput [(h0, .inr (9, [.ref x1, .ref x2, .ref x3, .ref x4, .ref x5, .ref x6, .int fi])), (x2, .inr (5, jmem M ca cg)), (ca, .inl (t 2, 8, .inr (.inr (.inr (.inr (jcaps ad))))))] [0, 1, 2] [(h0, .inr (9, [.ref x1, .ref x2, .ref x3, .ref x4, .ref x5, .ref x6, .int fi])), (x2, .inr (5, jmem M ca cg)), (ca, .inl (t 2, 8, .inr (.inr (.inr (.inr (jcaps ad))))))] ++ jpool t ad K) (jpool_after 3 rfl rfl rfl (by decide)) ?_
                                      refine jr_norm (([(h0, .inr (9, [.ref x1, .ref x2, .ref x3, .ref x4, .ref x5, .ref x6, .int fi])), (x2, .inr (5, jmem M ca cg)), (ca, .inl (t 2, 8, .inr (.inr (.inr (.inr (jcaps ad))))))] : va_W) ++ jpool t ad K) [.int (wP (eGrp (M 1) (nI rr) (K (nI rr).toNatClampNeg).2.2.1 1 16 (nI ((nn + 16 - 1) / 16))) (cLow (K (nI rr).toNatClampNeg) 1 16 (nI ((nn + 16 - 1) / 16))) (-200) (-300) 0 0)] 229 1976 11856 rfl rfl rfl rfl rfl ?_
                                      refine jr_st [.int (-300)] (jst1 (wg_out hM1 hm8 hrr hnn hn49 jin01.2.1 (s := 16) (k := ((nn + 16 - 1) / 16)) (by decide) (by decide) (by omega) (by omega) _ _ _ _ _)) ?_
                                      refine jr_sipush (v := (-300)) CC (jd ddL_isGrouped 126 rfl) (by decide) ?_
                                      refine jr_icmp_ne 255 CC (jd ddL_isGrouped 127 rfl) (by decide) (fun h => absurd h (by decide)) (fun _ => ?_)
                                      refine jr_aload_n CC (jd ddL_isGrouped 128 rfl) 0 rfl ?_
                                      refine jr_iconst (v := 1) CC (jd ddL_isGrouped 129 rfl) (by decide) ?_
                                      refine jr_iload_n CC (jd ddL_isGrouped 130 rfl) 1 rfl ?_
                                      refine jr_iconst (v := 0) CC (jd ddL_isGrouped 131 rfl) (by decide) ?_
                                      refine jr_iload CC (jd ddL_isGrouped 132 rfl) 4 rfl ?_
                                      refine jr_iconst (v := (-1)) CC (jd ddL_isGrouped 133 rfl) (by decide) ?_
                                      refine jr_norm (([(h0, .inr (9, [.ref x1, .ref x2, .ref x3, .ref x4, .ref x5, .ref x6, .int fi])), (x2, .inr (5, jmem M ca cg)), (ca, .inl (t 2, 8, .inr (.inr (.inr (.inr (jcaps ad))))))] : va_W) ++ jpool t ad K) [.int (-1), .int 16, .int 0, .int (nI rr), .int 1, .ref h0] 242 1976 11856 rfl rfl rfl rfl rfl ?_
                                      refine jr_callW (rest := []) [.ref h0, .int 1, .int (nI rr), .int 0, .int 16, .int (-1)] CC (jd ddL_isGrouped 134 rfl) (jy_L_143 CC) (k_L_grouped1 l t hfl h0 x1 x2 x3 x4 x5 x6 fi M ca cg ad K m8 (nI rr) 0 16 (-1 : Int32) hM1 hm8 hK) ([0, 1, 2] ++ (List.range 32).map (fun i => 3 + i)) (jpool_isC 3 rfl (is := [0, 1, 2]) rfl (by decide)) (by decide) rfl rfl (by decide) (Nat.le_of_ble_eq_true rfl) (by rintro v u h; rcases h with ⟨rfl, rfl⟩ <;> exact jpool_same rfl) (fun _ _ h => h.elim) (fun _ _ h => h.elim) (fun v u h => ?_)
                                      rcases h with ⟨rfl, rfl⟩
                                      refine jr_ws (jput [(h0, .inr (9, [.ref x1, .ref x2, .ref x3, .ref x4, .ref x5, .ref x6, .int fi])), (x2, .inr (5, jmem M ca cg)), (ca, .inl (t 2, 8, .inr (.inr (.inr (.inr (jcaps ad))))))] [0, 1, 2] [(h0, .inr (9, [.ref x1, .ref x2, .ref x3, .ref x4, .ref x5, .ref x6, .int fi])), (x2, .inr (5, jmem M ca cg)), (ca, .inl (t 2, 8, .inr (.inr (.inr (.inr (jcaps ad))))))] ++ jpool t ad K) (jpool_after 3 rfl rfl rfl (by decide)) ?_
                                      refine jr_norm (([(h0, .inr (9, [.ref x1, .ref x2, .ref x3, .ref x4, .ref x5, .ref x6, .int fi])), (x2, .inr (5, jmem M ca cg)), (ca, .inl (t 2, 8, .inr (.inr (.inr (.inr (jcaps ad))))))] : va_W) ++ jpool t ad K) [.int (wP (eGrp (M 1) (nI rr) (K (nI rr).toNatClampNeg).2.2.1 0 16 (-1 : Int32)) (cHigh (K (nI rr).toNatClampNeg) 0 16 (-1 : Int32)) (-200) (-300) 0 0)] 245 1980 11880 rfl rfl rfl rfl rfl ?_
                                      refine jr_st [.int (-300)] (jst1 (wg_neg hM1 hm8 hrr hnn hn49 jin01.1 (s := 16) (by decide) (by decide) _ _ _ _ _)) ?_
                                      refine jr_sipush (v := (-300)) CC (jd ddL_isGrouped 135 rfl) (by decide) ?_
                                      refine jr_icmp_ne 255 CC (jd ddL_isGrouped 136 rfl) (by decide) (fun h => absurd h (by decide)) (fun _ => ?_)
                                      refine jr_iconst (v := 1) CC (jd ddL_isGrouped 137 rfl) (by decide) ?_
                                      refine jr_goto 256 CC (jd ddL_isGrouped 138 rfl) (by decide) ?_
                                      refine jr_istore_n 3 [(3, .int 1), (0, .ref h0), (1, .int (nI rr)), (2, .int (nI nn)), (4, .int 16), (5, .int (nI ((nn + 16 - 1) / 16))), (6, .int (nI k))] CC (jd ddL_isGrouped 140 rfl) rfl (by decide) rfl ?_
                                      refine jr_iinc [(4, .int 19), (3, .int 1), (0, .ref h0), (1, .int (nI rr)), (2, .int (nI nn)), (5, .int (nI ((nn + 16 - 1) / 16))), (6, .int (nI k))] CC (jd ddL_isGrouped 141 rfl) 4 rfl (by decide) (by decide) rfl ?_
                                      refine jr_goto 5 CC (jd ddL_isGrouped 142 rfl) (by decide) ?_
                                      refine jr_iload CC (jd ddL_isGrouped 4 rfl) 0 rfl ?_
                                      refine jr_bipush (v := 17) CC (jd ddL_isGrouped 5 rfl) (by decide) ?_
                                      refine jr_icmp_ge 263 CC (jd ddL_isGrouped 6 rfl) (by decide) (fun _ => ?_) (fun h => absurd h (by decide))
                                      refine jr_iload_n CC (jd ddL_isGrouped 143 rfl) 1 rfl ?_
                                      refine jr_if_eq 302 CC (jd ddL_isGrouped 144 rfl) (by decide) (fun h => absurd h (by decide)) (fun _ => ?_)
                                      refine jr_aload_n CC (jd ddL_isGrouped 145 rfl) 2 rfl ?_
                                      refine jr_iconst (v := 2) CC (jd ddL_isGrouped 146 rfl) (by decide) ?_
                                      refine jr_iload_n CC (jd ddL_isGrouped 147 rfl) 3 rfl ?_
                                      refine jr_iconst (v := 2) CC (jd ddL_isGrouped 148 rfl) (by decide) ?_
                                      refine jr_iconst (v := 1) CC (jd ddL_isGrouped 149 rfl) (by decide) ?_
                                      refine jr_pc (pc' := 272) rfl ?_
                                      refine jr_iconst (v := 0) CC (jd ddL_isGrouped 150 rfl) (by decide) ?_
                                      refine jr_norm (([(h0, .inr (9, [.ref x1, .ref x2, .ref x3, .ref x4, .ref x5, .ref x6, .int fi])), (x2, .inr (5, jmem M ca cg)), (ca, .inl (t 2, 8, .inr (.inr (.inr (.inr (jcaps ad))))))] : va_W) ++ jpool t ad K) [.int 0, .int 1, .int 2, .int (nI rr), .int 2, .ref h0] 273 1980 11880 rfl rfl rfl rfl rfl ?_
                                      refine jr_callW (rest := []) [.ref h0, .int 2, .int (nI rr), .int 2, .int 1, .int 0] CC (jd ddL_isGrouped 151 rfl) (jy_L_143 CC) (k_L_grouped2 l t hfl h0 x1 x2 x3 x4 x5 x6 fi M ca cg ad K m8 (nI rr) 2 1 0 hM1 hm8 hK) ([0, 1, 2] ++ (List.range 32).map (fun i => 3 + i)) (jpool_isC 3 rfl (is := [0, 1, 2]) rfl (by decide)) (by decide) rfl rfl (by decide) (Nat.le_of_ble_eq_true rfl) (by rintro v u h; rcases h with ⟨rfl, rfl⟩ <;> exact jpool_same rfl) (fun _ _ h => h.elim) (fun _ _ h => h.elim) (fun v u h => ?_)
                                      rcases h with ⟨rfl, rfl⟩
                                      refine jr_ws (jput [(h0, .inr (9, [.ref x1, .ref x2, .ref x3, .ref x4, .ref x5, .ref x6, .int fi])), (x2, .inr (5, jmem M ca cg)), (ca, .inl (t 2, 8, .inr (.inr (.inr (.inr (jcaps ad))))))] [0, 1, 2] [(h0, .inr (9, [.ref x1, .ref x2, .ref x3, .ref x4, .ref x5, .ref x6, .int fi])), (x2, .inr (5, jmem M ca cg)), (ca, .inl (t 2, 8, .inr (.inr (.inr (.inr (jcaps ad))))))] ++ jpool t ad K) (jpool_after 3 rfl rfl rfl (by decide)) ?_
                                      refine jr_norm (([(h0, .inr (9, [.ref x1, .ref x2, .ref x3, .ref x4, .ref x5, .ref x6, .int fi])), (x2, .inr (5, jmem M ca cg)), (ca, .inl (t 2, 8, .inr (.inr (.inr (.inr (jcaps ad))))))] : va_W) ++ jpool t ad K) [.int (wP (eGrp (M 1) (nI rr) (K (nI rr).toNatClampNeg).2.2.1 2 1 0) (cMean (K (nI rr).toNatClampNeg) 2 1 0) (-200) (-300) 0 0)] 276 1984 11904 rfl rfl rfl rfl rfl ?_
                                      refine jr_st [.int (-200)] (jst1 (wg_bad (fun h => jin01.2.2 h.1) _ _ _ _ _)) ?_
                                      refine jr_sipush (v := (-200)) CC (jd ddL_isGrouped 152 rfl) (by decide) ?_
                                      refine jr_icmp_ne 302 CC (jd ddL_isGrouped 153 rfl) (by decide) (fun h => absurd h (by decide)) (fun _ => ?_)
                                      refine jr_aload_n CC (jd ddL_isGrouped 154 rfl) 2 rfl ?_
                                      refine jr_iconst (v := 0) CC (jd ddL_isGrouped 155 rfl) (by decide) ?_
                                      refine jr_iload_n CC (jd ddL_isGrouped 156 rfl) 3 rfl ?_
                                      refine jr_iconst (v := 0) CC (jd ddL_isGrouped 157 rfl) (by decide) ?_
                                      refine jr_bipush (v := 17) CC (jd ddL_isGrouped 158 rfl) (by decide) ?_
                                      refine jr_iconst (v := 0) CC (jd ddL_isGrouped 159 rfl) (by decide) ?_
                                      refine jr_norm (([(h0, .inr (9, [.ref x1, .ref x2, .ref x3, .ref x4, .ref x5, .ref x6, .int fi])), (x2, .inr (5, jmem M ca cg)), (ca, .inl (t 2, 8, .inr (.inr (.inr (.inr (jcaps ad))))))] : va_W) ++ jpool t ad K) [.int 0, .int 17, .int 0, .int (nI rr), .int 0, .ref h0] 289 1984 11904 rfl rfl rfl rfl rfl ?_
                                      refine jr_callW (rest := []) [.ref h0, .int 0, .int (nI rr), .int 0, .int 17, .int 0] CC (jd ddL_isGrouped 160 rfl) (jy_L_143 CC) (k_L_grouped0 l t hfl h0 x1 x2 x3 x4 x5 x6 fi M ca cg ad K m8 (nI rr) 0 17 0 hM1 hm8 hK) ([0, 1, 2] ++ (List.range 32).map (fun i => 3 + i)) (jpool_isC 3 rfl (is := [0, 1, 2]) rfl (by decide)) (by decide) rfl rfl (by decide) (Nat.le_of_ble_eq_true rfl) (by rintro v u h; rcases h with ⟨rfl, rfl⟩ <;> exact jpool_same rfl) (fun _ _ h => h.elim) (fun _ _ h => h.elim) (fun v u h => ?_)
                                      rcases h with ⟨rfl, rfl⟩
                                      refine jr_ws (jput [(h0, .inr (9, [.ref x1, .ref x2, .ref x3, .ref x4, .ref x5, .ref x6, .int fi])), (x2, .inr (5, jmem M ca cg)), (ca, .inl (t 2, 8, .inr (.inr (.inr (.inr (jcaps ad))))))] [0, 1, 2] [(h0, .inr (9, [.ref x1, .ref x2, .ref x3, .ref x4, .ref x5, .ref x6, .int fi])), (x2, .inr (5, jmem M ca cg)), (ca, .inl (t 2, 8, .inr (.inr (.inr (.inr (jcaps ad))))))] ++ jpool t ad K) (jpool_after 3 rfl rfl rfl (by decide)) ?_
                                      refine jr_norm (([(h0, .inr (9, [.ref x1, .ref x2, .ref x3, .ref x4, .ref x5, .ref x6, .int fi])), (x2, .inr (5, jmem M ca cg)), (ca, .inl (t 2, 8, .inr (.inr (.inr (.inr (jcaps ad))))))] : va_W) ++ jpool t ad K) [.int (wP (eGrp (M 1) (nI rr) (K (nI rr).toNatClampNeg).2.2.1 0 17 0) (cLow (K (nI rr).toNatClampNeg) 0 17 0) (-200) (-300) 0 0)] 292 1988 11928 rfl rfl rfl rfl rfl ?_
                                      refine jr_st [.int (-200)] (jst1 (wg_bad (fun h => absurd h.2.2 (by decide)) _ _ _ _ _)) ?_
                                      refine jr_sipush (v := (-200)) CC (jd ddL_isGrouped 161 rfl) (by decide) ?_
                                      refine jr_icmp_ne 302 CC (jd ddL_isGrouped 162 rfl) (by decide) (fun h => absurd h (by decide)) (fun _ => ?_)
                                      refine jr_iconst (v := 1) CC (jd ddL_isGrouped 163 rfl) (by decide) ?_
                                      refine jr_goto 303 CC (jd ddL_isGrouped 164 rfl) (by decide) ?_
                                      exact jr_zret rfl CC MM (jd ddL_isGrouped 166 rfl) rfl (by decide) (by decide) ⟨rfl, rfl⟩
                                    · have n39 := jle_not (a := ((nn + 16 - 1) / 16)) (b := k) c39 (by omega) (by omega)
                                      refine jr_iload_n CC (jd ddL_isGrouped 22 rfl) 3 rfl ?_
                                      refine jr_if_eq 214 CC (jd ddL_isGrouped 23 rfl) (by decide) (fun h => absurd h (by decide)) (fun _ => ?_)
                                      have hsk : 16 * k < nn := by omega
                                      obtain ⟨lo, hi, mn, e1, e2, e3, f1, f2, f3, f4, f5⟩ := grp_all hM1 hm8 hrr hnn hn49 hf (s := 16) (k := k) (by decide) (by decide) hsk
                                      refine jr_aload_n CC (jd ddL_isGrouped 24 rfl) 0 rfl ?_
                                      refine jr_iconst (v := 0) CC (jd ddL_isGrouped 25 rfl) (by decide) ?_
                                      refine jr_iload_n CC (jd ddL_isGrouped 26 rfl) 1 rfl ?_
                                      refine jr_iconst (v := 1) CC (jd ddL_isGrouped 27 rfl) (by decide) ?_
                                      refine jr_iload CC (jd ddL_isGrouped 28 rfl) 4 rfl ?_
                                      refine jr_pc (pc' := 47) rfl ?_
                                      refine jr_iload CC (jd ddL_isGrouped 29 rfl) 6 rfl ?_
                                      refine jr_norm (([(h0, .inr (9, [.ref x1, .ref x2, .ref x3, .ref x4, .ref x5, .ref x6, .int fi])), (x2, .inr (5, jmem M ca cg)), (ca, .inl (t 2, 8, .inr (.inr (.inr (.inr (jcaps ad))))))] : va_W) ++ jpool t ad K) [.int (nI k), .int 16, .int 1, .int (nI rr), .int 0, .ref h0] 49 (60 * k + 1732) (360 * k + 10392) rfl rfl rfl rfl rfl ?_
                                      refine jr_callW (rest := []) [.ref h0, .int 0, .int (nI rr), .int 1, .int 16, .int (nI k)] CC (jd ddL_isGrouped 30 rfl) (jy_L_143 CC) (k_L_grouped0 l t hfl h0 x1 x2 x3 x4 x5 x6 fi M ca cg ad K m8 (nI rr) 1 16 (nI k) hM1 hm8 hK) ([0, 1, 2] ++ (List.range 32).map (fun i => 3 + i)) (jpool_isC 3 rfl (is := [0, 1, 2]) rfl (by decide)) (by decide) rfl rfl ⟨by decide, Nat.le_of_ble_eq_true rfl, show (60 * k + 1732) + 4 ≤ 2035 from by omega, show (360 * k + 10392) + 24 ≤ 12210 from by omega⟩ (Nat.le_of_ble_eq_true rfl) (by rintro v u h; rcases h with ⟨rfl, rfl⟩ <;> exact jpool_same rfl) (fun _ _ h => h.elim) (fun _ _ h => h.elim) (fun v u h => ?_)
                                      rcases h with ⟨rfl, rfl⟩
                                      refine jr_ws (jput [(h0, .inr (9, [.ref x1, .ref x2, .ref x3, .ref x4, .ref x5, .ref x6, .int fi])), (x2, .inr (5, jmem M ca cg)), (ca, .inl (t 2, 8, .inr (.inr (.inr (.inr (jcaps ad))))))] [0, 1, 2] [(h0, .inr (9, [.ref x1, .ref x2, .ref x3, .ref x4, .ref x5, .ref x6, .int fi])), (x2, .inr (5, jmem M ca cg)), (ca, .inl (t 2, 8, .inr (.inr (.inr (.inr (jcaps ad))))))] ++ jpool t ad K) (jpool_after 3 rfl rfl rfl (by decide)) ?_
                                      refine jr_norm (([(h0, .inr (9, [.ref x1, .ref x2, .ref x3, .ref x4, .ref x5, .ref x6, .int fi])), (x2, .inr (5, jmem M ca cg)), (ca, .inl (t 2, 8, .inr (.inr (.inr (.inr (jcaps ad))))))] : va_W) ++ jpool t ad K) [.int (wP (eGrp (M 1) (nI rr) (K (nI rr).toNatClampNeg).2.2.1 1 16 (nI k)) (cLow (K (nI rr).toNatClampNeg) 1 16 (nI k)) (-200) (-300) 0 0)] 52 (60 * k + 1736) (360 * k + 10416) rfl rfl rfl rfl rfl ?_
                                      refine jr_st [.int lo] (jst1 (e1)) ?_
                                      refine jr_istore [(7, .int lo), (0, .ref h0), (1, .int (nI rr)), (2, .int (nI nn)), (3, .int 1), (4, .int 16), (5, .int (nI ((nn + 16 - 1) / 16))), (6, .int (nI k))] CC (jd ddL_isGrouped 31 rfl) (by decide) rfl ?_
                                      refine jr_aload_n CC (jd ddL_isGrouped 32 rfl) 1 rfl ?_
                                      refine jr_iconst (v := 1) CC (jd ddL_isGrouped 33 rfl) (by decide) ?_
                                      refine jr_iload_n CC (jd ddL_isGrouped 34 rfl) 2 rfl ?_
                                      refine jr_iconst (v := 1) CC (jd ddL_isGrouped 35 rfl) (by decide) ?_
                                      refine jr_iload CC (jd ddL_isGrouped 36 rfl) 5 rfl ?_
                                      refine jr_iload CC (jd ddL_isGrouped 37 rfl) 7 rfl ?_
                                      refine jr_norm (([(h0, .inr (9, [.ref x1, .ref x2, .ref x3, .ref x4, .ref x5, .ref x6, .int fi])), (x2, .inr (5, jmem M ca cg)), (ca, .inl (t 2, 8, .inr (.inr (.inr (.inr (jcaps ad))))))] : va_W) ++ jpool t ad K) [.int (nI k), .int 16, .int 1, .int (nI rr), .int 1, .ref h0] 62 (60 * k + 1736) (360 * k + 10416) rfl rfl rfl rfl rfl ?_
                                      refine jr_callW (rest := []) [.ref h0, .int 1, .int (nI rr), .int 1, .int 16, .int (nI k)] CC (jd ddL_isGrouped 38 rfl) (jy_L_143 CC) (k_L_grouped1 l t hfl h0 x1 x2 x3 x4 x5 x6 fi M ca cg ad K m8 (nI rr) 1 16 (nI k) hM1 hm8 hK) ([0, 1, 2] ++ (List.range 32).map (fun i => 3 + i)) (jpool_isC 3 rfl (is := [0, 1, 2]) rfl (by decide)) (by decide) rfl rfl ⟨by decide, Nat.le_of_ble_eq_true rfl, show (60 * k + 1736) + 4 ≤ 2035 from by omega, show (360 * k + 10416) + 24 ≤ 12210 from by omega⟩ (Nat.le_of_ble_eq_true rfl) (by rintro v u h; rcases h with ⟨rfl, rfl⟩ <;> exact jpool_same rfl) (fun _ _ h => h.elim) (fun _ _ h => h.elim) (fun v u h => ?_)
                                      rcases h with ⟨rfl, rfl⟩
                                      refine jr_ws (jput [(h0, .inr (9, [.ref x1, .ref x2, .ref x3, .ref x4, .ref x5, .ref x6, .int fi])), (x2, .inr (5, jmem M ca cg)), (ca, .inl (t 2, 8, .inr (.inr (.inr (.inr (jcaps ad))))))] [0, 1, 2] [(h0, .inr (9, [.ref x1, .ref x2, .ref x3, .ref x4, .ref x5, .ref x6, .int fi])), (x2, .inr (5, jmem M ca cg)), (ca, .inl (t 2, 8, .inr (.inr (.inr (.inr (jcaps ad))))))] ++ jpool t ad K) (jpool_after 3 rfl rfl rfl (by decide)) ?_
                                      refine jr_norm (([(h0, .inr (9, [.ref x1, .ref x2, .ref x3, .ref x4, .ref x5, .ref x6, .int fi])), (x2, .inr (5, jmem M ca cg)), (ca, .inl (t 2, 8, .inr (.inr (.inr (.inr (jcaps ad))))))] : va_W) ++ jpool t ad K) [.int (wP (eGrp (M 1) (nI rr) (K (nI rr).toNatClampNeg).2.2.1 1 16 (nI k)) (cHigh (K (nI rr).toNatClampNeg) 1 16 (nI k)) (-200) (-300) 0 0)] 65 (60 * k + 1740) (360 * k + 10440) rfl rfl rfl rfl rfl ?_
                                      refine jr_st [.int hi] (jst1 (e2)) ?_
                                      refine jr_istore [(8, .int hi), (7, .int lo), (0, .ref h0), (1, .int (nI rr)), (2, .int (nI nn)), (3, .int 1), (4, .int 16), (5, .int (nI ((nn + 16 - 1) / 16))), (6, .int (nI k))] CC (jd ddL_isGrouped 39 rfl) (by decide) rfl ?_
                                      refine jr_aload_n CC (jd ddL_isGrouped 40 rfl) 2 rfl ?_
                                      refine jr_iconst (v := 2) CC (jd ddL_isGrouped 41 rfl) (by decide) ?_
                                      refine jr_iload_n CC (jd ddL_isGrouped 42 rfl) 3 rfl ?_
                                      refine jr_iconst (v := 1) CC (jd ddL_isGrouped 43 rfl) (by decide) ?_
                                      refine jr_iload CC (jd ddL_isGrouped 44 rfl) 6 rfl ?_
                                      refine jr_iload CC (jd ddL_isGrouped 45 rfl) 8 rfl ?_
                                      refine jr_norm (([(h0, .inr (9, [.ref x1, .ref x2, .ref x3, .ref x4, .ref x5, .ref x6, .int fi])), (x2, .inr (5, jmem M ca cg)), (ca, .inl (t 2, 8, .inr (.inr (.inr (.inr (jcaps ad))))))] : va_W) ++ jpool t ad K) [.int (nI k), .int 16, .int 1, .int (nI rr), .int 2, .ref h0] 75 (60 * k + 1740) (360 * k + 10440) rfl rfl rfl rfl rfl ?_
                                      refine jr_callW (rest := []) [.ref h0, .int 2, .int (nI rr), .int 1, .int 16, .int (nI k)] CC (jd ddL_isGrouped 46 rfl) (jy_L_143 CC) (k_L_grouped2 l t hfl h0 x1 x2 x3 x4 x5 x6 fi M ca cg ad K m8 (nI rr) 1 16 (nI k) hM1 hm8 hK) ([0, 1, 2] ++ (List.range 32).map (fun i => 3 + i)) (jpool_isC 3 rfl (is := [0, 1, 2]) rfl (by decide)) (by decide) rfl rfl ⟨by decide, Nat.le_of_ble_eq_true rfl, show (60 * k + 1740) + 4 ≤ 2035 from by omega, show (360 * k + 10440) + 24 ≤ 12210 from by omega⟩ (Nat.le_of_ble_eq_true rfl) (by rintro v u h; rcases h with ⟨rfl, rfl⟩ <;> exact jpool_same rfl) (fun _ _ h => h.elim) (fun _ _ h => h.elim) (fun v u h => ?_)
                                      rcases h with ⟨rfl, rfl⟩
                                      refine jr_ws (jput [(h0, .inr (9, [.ref x1, .ref x2, .ref x3, .ref x4, .ref x5, .ref x6, .int fi])), (x2, .inr (5, jmem M ca cg)), (ca, .inl (t 2, 8, .inr (.inr (.inr (.inr (jcaps ad))))))] [0, 1, 2] [(h0, .inr (9, [.ref x1, .ref x2, .ref x3, .ref x4, .ref x5, .ref x6, .int fi])), (x2, .inr (5, jmem M ca cg)), (ca, .inl (t 2, 8, .inr (.inr (.inr (.inr (jcaps ad))))))] ++ jpool t ad K) (jpool_after 3 rfl rfl rfl (by decide)) ?_
                                      refine jr_norm (([(h0, .inr (9, [.ref x1, .ref x2, .ref x3, .ref x4, .ref x5, .ref x6, .int fi])), (x2, .inr (5, jmem M ca cg)), (ca, .inl (t 2, 8, .inr (.inr (.inr (.inr (jcaps ad))))))] : va_W) ++ jpool t ad K) [.int (wP (eGrp (M 1) (nI rr) (K (nI rr).toNatClampNeg).2.2.1 1 16 (nI k)) (cMean (K (nI rr).toNatClampNeg) 1 16 (nI k)) (-200) (-300) 0 0)] 78 (60 * k + 1744) (360 * k + 10464) rfl rfl rfl rfl rfl ?_
                                      refine jr_st [.int mn] (jst1 (e3)) ?_
                                      refine jr_istore [(9, .int mn), (8, .int hi), (7, .int lo), (0, .ref h0), (1, .int (nI rr)), (2, .int (nI nn)), (3, .int 1), (4, .int 16), (5, .int (nI ((nn + 16 - 1) / 16))), (6, .int (nI k))] CC (jd ddL_isGrouped 47 rfl) (by decide) rfl ?_
                                      refine jr_iconst (v := 0) CC (jd ddL_isGrouped 48 rfl) (by decide) ?_
                                      refine jr_istore [(10, .int 0), (9, .int mn), (8, .int hi), (7, .int lo), (0, .ref h0), (1, .int (nI rr)), (2, .int (nI nn)), (3, .int 1), (4, .int 16), (5, .int (nI ((nn + 16 - 1) / 16))), (6, .int (nI k))] CC (jd ddL_isGrouped 49 rfl) (by decide) rfl ?_
                                      refine jr_iconst (v := 0) CC (jd ddL_isGrouped 50 rfl) (by decide) ?_
                                      refine jr_istore [(11, .int 0), (10, .int 0), (9, .int mn), (8, .int hi), (7, .int lo), (0, .ref h0), (1, .int (nI rr)), (2, .int (nI nn)), (3, .int 1), (4, .int 16), (5, .int (nI ((nn + 16 - 1) / 16))), (6, .int (nI k))] CC (jd ddL_isGrouped 51 rfl) (by decide) rfl ?_
                                      refine jr_iload CC (jd ddL_isGrouped 52 rfl) 9 rfl ?_
                                      refine jr_iload CC (jd ddL_isGrouped 53 rfl) 11 rfl ?_
                                      refine jr_imul CC (jd ddL_isGrouped 54 rfl) ?_
                                      refine jr_st [.int (nI (16 * k))] (jst1 (pk_mul 16 k)) ?_
                                      refine jr_istore [(12, .int (nI (16 * k))), (11, .int 0), (10, .int 0), (9, .int mn), (8, .int hi), (7, .int lo), (0, .ref h0), (1, .int (nI rr)), (2, .int (nI nn)), (3, .int 1), (4, .int 16), (5, .int (nI ((nn + 16 - 1) / 16))), (6, .int (nI k))] CC (jd ddL_isGrouped 55 rfl) (by decide) rfl ?_
                                      have hL48 : ∀ (d9 : Nat) (i9 : Nat) (sm : Int32) (hm : i9 ≤ (min (16 * k + 16) nn - 16 * k)) (hq : jsum (jat (K rr) 1) (min (16 * k + 16) nn - 16 * k) (16 * k) 0 = jsum (jat (K rr) 1) ((min (16 * k + 16) nn - 16 * k) - i9) (16 * k + i9) sm), (min (16 * k + 16) nn - 16 * k) - i9 < d9 → J p l e { frames := 11, cells := 2035, slots := 12210, locals := 203 } s m args below meth c D A 14 Q (([(h0, .inr (9, [.ref x1, .ref x2, .ref x3, .ref x4, .ref x5, .ref x6, .int fi])), (x2, .inr (5, jmem M ca cg)), (ca, .inl (t 2, 8, .inr (.inr (.inr (.inr (jcaps ad))))))] : va_W) ++ jpool t ad K) [(0, .ref h0), (1, .int (nI rr)), (2, .int (nI nn)), (3, .int 1), (4, .int 16), (5, .int (nI ((nn + 16 - 1) / 16))), (6, .int (nI k)), (7, .int lo), (8, .int hi), (9, .int mn), (10, .int sm), (11, .int (nI i9)), (12, .int (nI (16 * k + i9)))] 93 [] (60 * k + 3 * i9 + 1744) (360 * k + 18 * i9 + 10464) := by
                                        intro d9
                                        induction d9 with
                                        | zero => intro i9 sm hm hq hmu; exact absurd hmu (Nat.not_lt_zero _)
                                        | succ d9 ih93 =>
                                          intro i9 sm hm hq hmu
                                          refine jr_iload CC (jd ddL_isGrouped 56 rfl) 12 rfl ?_
                                          refine jr_iload CC (jd ddL_isGrouped 57 rfl) 4 rfl ?_
                                          refine jr_iload CC (jd ddL_isGrouped 58 rfl) 6 rfl ?_
                                          refine jr_imul CC (jd ddL_isGrouped 59 rfl) ?_
                                          refine jr_st [.int (nI (16 * k)), .int (nI (16 * k + i9))] (jst1 (pk_mul 16 k)) ?_
                                          refine jr_iload CC (jd ddL_isGrouped 60 rfl) 4 rfl ?_
                                          refine jr_iadd CC (jd ddL_isGrouped 61 rfl) ?_
                                          refine jr_st [.int (nI ((16 * k) + 16)), .int (nI (16 * k + i9))] (jst1 (nI_add (16 * k) 16)) ?_
                                          refine jr_icmp_ge 162 CC (jd ddL_isGrouped 62 rfl) (by decide) (fun c49 => ?_) (fun c49 => ?_)
                                          · have n49 := jle_of (a := ((16 * k) + 16)) (b := (16 * k + i9)) c49 (by omega) (by omega)
                                            refine jr_widen (k' := (60 * k + 1792)) (n' := (360 * k + 10752)) (by omega) (by omega) ?_
                                            have hmN : i9 = (min (16 * k + 16) nn - 16 * k) := by omega
                                            have hsm : jsum (jat (K rr) 1) (min (16 * k + 16) nn - 16 * k) (16 * k) 0 = sm := hq.trans (by rw [show (min (16 * k + 16) nn - 16 * k) - i9 = 0 by omega]; rfl)
                                            refine jr_iload_n CC (jd ddL_isGrouped 91 rfl) 3 rfl ?_
                                            refine jr_if_eq 206 CC (jd ddL_isGrouped 92 rfl) (by decide) (fun h => absurd h (by decide)) (fun _ => ?_)
                                            refine jr_iload CC (jd ddL_isGrouped 93 rfl) 7 rfl ?_
                                            refine jr_pc (pc' := 168) rfl ?_
                                            refine jr_iload CC (jd ddL_isGrouped 94 rfl) 9 rfl ?_
                                            refine jr_icmp_gt 206 CC (jd ddL_isGrouped 95 rfl) (by decide) (fun h => absurd h f2) (fun _ => ?_)
                                            refine jr_iload CC (jd ddL_isGrouped 96 rfl) 9 rfl ?_
                                            refine jr_iload CC (jd ddL_isGrouped 97 rfl) 8 rfl ?_
                                            refine jr_icmp_gt 206 CC (jd ddL_isGrouped 98 rfl) (by decide) (fun h => absurd h f3) (fun _ => ?_)
                                            refine jr_iload CC (jd ddL_isGrouped 99 rfl) 9 rfl ?_
                                            refine jr_iload CC (jd ddL_isGrouped 100 rfl) 11 rfl ?_
                                            refine jr_imul CC (jd ddL_isGrouped 101 rfl) ?_
                                            refine jr_iload CC (jd ddL_isGrouped 102 rfl) 10 rfl ?_
                                            refine jr_icmp_gt 206 CC (jd ddL_isGrouped 103 rfl) (by decide) (fun h => absurd h (by rw [hmN, ← hsm]; exact f4)) (fun _ => ?_)
                                            refine jr_pc (pc' := 190) rfl ?_
                                            refine jr_iload CC (jd ddL_isGrouped 104 rfl) 10 rfl ?_
                                            refine jr_iload CC (jd ddL_isGrouped 105 rfl) 9 rfl ?_
                                            refine jr_iconst (v := 1) CC (jd ddL_isGrouped 106 rfl) (by decide) ?_
                                            refine jr_iadd CC (jd ddL_isGrouped 107 rfl) ?_
                                            refine jr_iload CC (jd ddL_isGrouped 108 rfl) 11 rfl ?_
                                            refine jr_imul CC (jd ddL_isGrouped 109 rfl) ?_
                                            refine jr_icmp_ge 206 CC (jd ddL_isGrouped 110 rfl) (by decide) (fun h => absurd h (by rw [hmN, ← hsm]; exact f5)) (fun _ => ?_)
                                            refine jr_iconst (v := 1) CC (jd ddL_isGrouped 111 rfl) (by decide) ?_
                                            refine jr_goto 207 CC (jd ddL_isGrouped 112 rfl) (by decide) ?_
                                            refine jr_istore_n 3 [(3, .int 1), (0, .ref h0), (1, .int (nI rr)), (2, .int (nI nn)), (4, .int 16), (5, .int (nI ((nn + 16 - 1) / 16))), (6, .int (nI k)), (7, .int lo), (8, .int hi), (9, .int mn), (10, .int sm), (11, .int (nI i9)), (12, .int (nI (16 * k + i9)))] CC (jd ddL_isGrouped 114 rfl) rfl (by decide) rfl ?_
                                            refine jr_iinc [(6, .int (nI (k + 1))), (3, .int 1), (0, .ref h0), (1, .int (nI rr)), (2, .int (nI nn)), (4, .int 16), (5, .int (nI ((nn + 16 - 1) / 16))), (7, .int lo), (8, .int hi), (9, .int mn), (10, .int sm), (11, .int (nI i9)), (12, .int (nI (16 * k + i9)))] CC (jd ddL_isGrouped 115 rfl) 6 rfl (nI_1 _) (by decide) rfl ?_
                                            refine jr_goto 30 CC (jd ddL_isGrouped 116 rfl) (by decide) ?_
                                            refine jr_norm (([(h0, .inr (9, [.ref x1, .ref x2, .ref x3, .ref x4, .ref x5, .ref x6, .int fi])), (x2, .inr (5, jmem M ca cg)), (ca, .inl (t 2, 8, .inr (.inr (.inr (.inr (jcaps ad))))))] : va_W) ++ jpool t ad K) [] 30 (60 * k + 1792) (360 * k + 10752) rfl rfl rfl rfl rfl ?_
                                            refine jr_lv [2, 3, 4, 1, 5, 6, 0] [(0, .ref h0), (1, .int (nI rr)), (2, .int (nI nn)), (3, .int 1), (4, .int 16), (5, .int (nI ((nn + 16 - 1) / 16))), (6, .int (nI (k + 1)))] rfl ?_
                                            refine jr_widen (k' := (60 * (k + 1) + 1732)) (n' := (360 * (k + 1) + 10392)) (by omega) (by omega) ?_
                                            exact ih30 (k + 1) (by omega) (by omega)
                                          · have n49 := jle_not (a := ((16 * k) + 16)) (b := (16 * k + i9)) c49 (by omega) (by omega)
                                            refine jr_iload CC (jd ddL_isGrouped 63 rfl) 12 rfl ?_
                                            refine jr_iload_n CC (jd ddL_isGrouped 64 rfl) 2 rfl ?_
                                            refine jr_icmp_ge 162 CC (jd ddL_isGrouped 65 rfl) (by decide) (fun c51 => ?_) (fun c51 => ?_)
                                            · have n51 := jle_of (a := nn) (b := (16 * k + i9)) c51 (by omega) (by omega)
                                              refine jr_widen (k' := (60 * k + 1792)) (n' := (360 * k + 10752)) (by omega) (by omega) ?_
                                              have hmN : i9 = (min (16 * k + 16) nn - 16 * k) := by omega
                                              have hsm : jsum (jat (K rr) 1) (min (16 * k + 16) nn - 16 * k) (16 * k) 0 = sm := hq.trans (by rw [show (min (16 * k + 16) nn - 16 * k) - i9 = 0 by omega]; rfl)
                                              refine jr_pc (pc' := 162) rfl ?_
                                              refine jr_iload_n CC (jd ddL_isGrouped 91 rfl) 3 rfl ?_
                                              refine jr_if_eq 206 CC (jd ddL_isGrouped 92 rfl) (by decide) (fun h => absurd h (by decide)) (fun _ => ?_)
                                              refine jr_iload CC (jd ddL_isGrouped 93 rfl) 7 rfl ?_
                                              refine jr_iload CC (jd ddL_isGrouped 94 rfl) 9 rfl ?_
                                              refine jr_icmp_gt 206 CC (jd ddL_isGrouped 95 rfl) (by decide) (fun h => absurd h f2) (fun _ => ?_)
                                              refine jr_iload CC (jd ddL_isGrouped 96 rfl) 9 rfl ?_
                                              refine jr_iload CC (jd ddL_isGrouped 97 rfl) 8 rfl ?_
                                              refine jr_icmp_gt 206 CC (jd ddL_isGrouped 98 rfl) (by decide) (fun h => absurd h f3) (fun _ => ?_)
                                              refine jr_iload CC (jd ddL_isGrouped 99 rfl) 9 rfl ?_
                                              refine jr_iload CC (jd ddL_isGrouped 100 rfl) 11 rfl ?_
                                              refine jr_pc (pc' := 184) rfl ?_
                                              refine jr_imul CC (jd ddL_isGrouped 101 rfl) ?_
                                              refine jr_iload CC (jd ddL_isGrouped 102 rfl) 10 rfl ?_
                                              refine jr_icmp_gt 206 CC (jd ddL_isGrouped 103 rfl) (by decide) (fun h => absurd h (by rw [hmN, ← hsm]; exact f4)) (fun _ => ?_)
                                              refine jr_iload CC (jd ddL_isGrouped 104 rfl) 10 rfl ?_
                                              refine jr_iload CC (jd ddL_isGrouped 105 rfl) 9 rfl ?_
                                              refine jr_iconst (v := 1) CC (jd ddL_isGrouped 106 rfl) (by decide) ?_
                                              refine jr_iadd CC (jd ddL_isGrouped 107 rfl) ?_
                                              refine jr_iload CC (jd ddL_isGrouped 108 rfl) 11 rfl ?_
                                              refine jr_imul CC (jd ddL_isGrouped 109 rfl) ?_
                                              refine jr_icmp_ge 206 CC (jd ddL_isGrouped 110 rfl) (by decide) (fun h => absurd h (by rw [hmN, ← hsm]; exact f5)) (fun _ => ?_)
                                              refine jr_pc (pc' := 202) rfl ?_
                                              refine jr_iconst (v := 1) CC (jd ddL_isGrouped 111 rfl) (by decide) ?_
                                              refine jr_goto 207 CC (jd ddL_isGrouped 112 rfl) (by decide) ?_
                                              refine jr_istore_n 3 [(3, .int 1), (0, .ref h0), (1, .int (nI rr)), (2, .int (nI nn)), (4, .int 16), (5, .int (nI ((nn + 16 - 1) / 16))), (6, .int (nI k)), (7, .int lo), (8, .int hi), (9, .int mn), (10, .int sm), (11, .int (nI i9)), (12, .int (nI (16 * k + i9)))] CC (jd ddL_isGrouped 114 rfl) rfl (by decide) rfl ?_
                                              refine jr_iinc [(6, .int (nI (k + 1))), (3, .int 1), (0, .ref h0), (1, .int (nI rr)), (2, .int (nI nn)), (4, .int 16), (5, .int (nI ((nn + 16 - 1) / 16))), (7, .int lo), (8, .int hi), (9, .int mn), (10, .int sm), (11, .int (nI i9)), (12, .int (nI (16 * k + i9)))] CC (jd ddL_isGrouped 115 rfl) 6 rfl (nI_1 _) (by decide) rfl ?_
                                              refine jr_goto 30 CC (jd ddL_isGrouped 116 rfl) (by decide) ?_
                                              refine jr_norm (([(h0, .inr (9, [.ref x1, .ref x2, .ref x3, .ref x4, .ref x5, .ref x6, .int fi])), (x2, .inr (5, jmem M ca cg)), (ca, .inl (t 2, 8, .inr (.inr (.inr (.inr (jcaps ad))))))] : va_W) ++ jpool t ad K) [] 30 (60 * k + 1792) (360 * k + 10752) rfl rfl rfl rfl rfl ?_
                                              refine jr_lv [2, 3, 4, 1, 5, 6, 0] [(0, .ref h0), (1, .int (nI rr)), (2, .int (nI nn)), (3, .int 1), (4, .int 16), (5, .int (nI ((nn + 16 - 1) / 16))), (6, .int (nI (k + 1)))] rfl ?_
                                              refine jr_widen (k' := (60 * (k + 1) + 1732)) (n' := (360 * (k + 1) + 10392)) (by omega) (by omega) ?_
                                              exact ih30 (k + 1) (by omega) (by omega)
                                            · have n51 := jle_not (a := nn) (b := (16 * k + i9)) c51 (by omega) (by omega)
                                              refine jr_pc (pc' := 112) rfl ?_
                                              refine jr_aload_n CC (jd ddL_isGrouped 66 rfl) 0 rfl ?_
                                              refine jr_iload_n CC (jd ddL_isGrouped 67 rfl) 1 rfl ?_
                                              refine jr_iconst (v := 1) CC (jd ddL_isGrouped 68 rfl) (by decide) ?_
                                              refine jr_iload CC (jd ddL_isGrouped 69 rfl) 12 rfl ?_
                                              refine jr_norm (([(h0, .inr (9, [.ref x1, .ref x2, .ref x3, .ref x4, .ref x5, .ref x6, .int fi])), (x2, .inr (5, jmem M ca cg)), (ca, .inl (t 2, 8, .inr (.inr (.inr (.inr (jcaps ad))))))] : va_W) ++ jpool t ad K) [.int (nI (16 * k + i9)), .int 1, .int (nI rr), .ref h0] 117 (60 * k + 3 * i9 + 1744) (360 * k + 18 * i9 + 10464) rfl rfl rfl rfl rfl ?_
                                              refine jr_callW (rest := []) [.ref h0, .int (nI rr), .int 1, .int (nI (16 * k + i9))] CC (jd ddL_isGrouped 70 rfl) (jy_L_117 CC) (k_L_value l t hfl h0 x1 x2 x3 x4 x5 x6 fi M ca cg ad K m8 (nI rr) 1 (nI (16 * k + i9)) hM1 hm8 hK) ([0, 1, 2] ++ (List.range 32).map (fun i => 3 + i)) (jpool_isC 3 rfl (is := [0, 1, 2]) rfl (by decide)) (by decide) rfl rfl ⟨by decide, Nat.le_of_ble_eq_true rfl, show (60 * k + 3 * i9 + 1744) + 3 ≤ 2035 from by omega, show (360 * k + 18 * i9 + 10464) + 18 ≤ 12210 from by omega⟩ (Nat.le_of_ble_eq_true rfl) (by rintro v u h; rcases h with ⟨rfl, rfl⟩ <;> exact jpool_same rfl) (fun _ _ h => h.elim) (fun _ _ h => h.elim) (fun v u h => ?_)
                                              rcases h with ⟨rfl, rfl⟩
                                              refine jr_ws (jput [(h0, .inr (9, [.ref x1, .ref x2, .ref x3, .ref x4, .ref x5, .ref x6, .int fi])), (x2, .inr (5, jmem M ca cg)), (ca, .inl (t 2, 8, .inr (.inr (.inr (.inr (jcaps ad))))))] [0, 1, 2] [(h0, .inr (9, [.ref x1, .ref x2, .ref x3, .ref x4, .ref x5, .ref x6, .int fi])), (x2, .inr (5, jmem M ca cg)), (ca, .inl (t 2, 8, .inr (.inr (.inr (.inr (jcaps ad))))))] ++ jpool t ad K) (jpool_after 3 rfl rfl rfl (by decide)) ?_
                                              refine jr_norm (([(h0, .inr (9, [.ref x1, .ref x2, .ref x3, .ref x4, .ref x5, .ref x6, .int fi])), (x2, .inr (5, jmem M ca cg)), (ca, .inl (t 2, 8, .inr (.inr (.inr (.inr (jcaps ad))))))] : va_W) ++ jpool t ad K) [.int (wP (eVal (M 1) (nI rr) (K (nI rr).toNatClampNeg).2.2.1 (nI (16 * k + i9)) 1) (jat (K (nI rr).toNatClampNeg) 1 (nI (16 * k + i9)).toNatClampNeg) (-300) (-200) 0 0)] 120 (60 * k + 3 * i9 + 1747) (360 * k + 18 * i9 + 10482) rfl rfl rfl rfl rfl ?_
                                              refine jr_st [.int (jat (K rr) 1 (16 * k + i9))] (jst1 (wv_in hM1 hm8 hrr hnn hn49 jin01.2.1 (by omega) _ _ _ _)) ?_
                                              refine jr_istore [(13, .int (jat (K rr) 1 (16 * k + i9))), (0, .ref h0), (1, .int (nI rr)), (2, .int (nI nn)), (3, .int 1), (4, .int 16), (5, .int (nI ((nn + 16 - 1) / 16))), (6, .int (nI k)), (7, .int lo), (8, .int hi), (9, .int mn), (10, .int sm), (11, .int (nI i9)), (12, .int (nI (16 * k + i9)))] CC (jd ddL_isGrouped 71 rfl) (by decide) rfl ?_
                                              refine jr_iload_n CC (jd ddL_isGrouped 72 rfl) 4 rfl ?_
                                              refine jr_if_eq 144 CC (jd ddL_isGrouped 73 rfl) (by decide) (fun h => absurd h (by decide)) (fun _ => ?_)
                                              refine jr_iload CC (jd ddL_isGrouped 74 rfl) 8 rfl ?_
                                              refine jr_iload CC (jd ddL_isGrouped 75 rfl) 0 rfl ?_
                                              refine jr_icmp_gt 144 CC (jd ddL_isGrouped 76 rfl) (by decide) (fun h => absurd h (f1 _ (by omega) (by omega)).1) (fun _ => ?_)
                                              refine jr_iload CC (jd ddL_isGrouped 77 rfl) 0 rfl ?_
                                              refine jr_iload CC (jd ddL_isGrouped 78 rfl) 9 rfl ?_
                                              refine jr_icmp_gt 144 CC (jd ddL_isGrouped 79 rfl) (by decide) (fun h => absurd h (f1 _ (by omega) (by omega)).2) (fun _ => ?_)
                                              refine jr_iconst (v := 1) CC (jd ddL_isGrouped 80 rfl) (by decide) ?_
                                              refine jr_pc (pc' := 141) rfl ?_
                                              refine jr_goto 145 CC (jd ddL_isGrouped 81 rfl) (by decide) ?_
                                              refine jr_istore_n 3 [(3, .int 1), (13, .int (jat (K rr) 1 (16 * k + i9))), (0, .ref h0), (1, .int (nI rr)), (2, .int (nI nn)), (4, .int 16), (5, .int (nI ((nn + 16 - 1) / 16))), (6, .int (nI k)), (7, .int lo), (8, .int hi), (9, .int mn), (10, .int sm), (11, .int (nI i9)), (12, .int (nI (16 * k + i9)))] CC (jd ddL_isGrouped 83 rfl) rfl (by decide) rfl ?_
                                              refine jr_iload CC (jd ddL_isGrouped 84 rfl) 11 rfl ?_
                                              refine jr_iload CC (jd ddL_isGrouped 85 rfl) 1 rfl ?_
                                              refine jr_iadd CC (jd ddL_isGrouped 86 rfl) ?_
                                              refine jr_istore [(10, .int (sm + (jat (K rr) 1 (16 * k + i9)))), (3, .int 1), (13, .int (jat (K rr) 1 (16 * k + i9))), (0, .ref h0), (1, .int (nI rr)), (2, .int (nI nn)), (4, .int 16), (5, .int (nI ((nn + 16 - 1) / 16))), (6, .int (nI k)), (7, .int lo), (8, .int hi), (9, .int mn), (11, .int (nI i9)), (12, .int (nI (16 * k + i9)))] CC (jd ddL_isGrouped 87 rfl) (by decide) rfl ?_
                                              refine jr_iinc [(11, .int (nI (i9 + 1))), (10, .int (sm + (jat (K rr) 1 (16 * k + i9)))), (3, .int 1), (13, .int (jat (K rr) 1 (16 * k + i9))), (0, .ref h0), (1, .int (nI rr)), (2, .int (nI nn)), (4, .int 16), (5, .int (nI ((nn + 16 - 1) / 16))), (6, .int (nI k)), (7, .int lo), (8, .int hi), (9, .int mn), (12, .int (nI (16 * k + i9)))] CC (jd ddL_isGrouped 88 rfl) 12 rfl (nI_1 _) (by decide) rfl ?_
                                              refine jr_iinc [(12, .int (nI (16 * k + i9 + 1))), (11, .int (nI (i9 + 1))), (10, .int (sm + (jat (K rr) 1 (16 * k + i9)))), (3, .int 1), (13, .int (jat (K rr) 1 (16 * k + i9))), (0, .ref h0), (1, .int (nI rr)), (2, .int (nI nn)), (4, .int 16), (5, .int (nI ((nn + 16 - 1) / 16))), (6, .int (nI k)), (7, .int lo), (8, .int hi), (9, .int mn)] CC (jd ddL_isGrouped 89 rfl) 13 rfl (nI_1 _) (by decide) rfl ?_
                                              refine jr_goto 93 CC (jd ddL_isGrouped 90 rfl) (by decide) ?_
                                              refine jr_norm (([(h0, .inr (9, [.ref x1, .ref x2, .ref x3, .ref x4, .ref x5, .ref x6, .int fi])), (x2, .inr (5, jmem M ca cg)), (ca, .inl (t 2, 8, .inr (.inr (.inr (.inr (jcaps ad))))))] : va_W) ++ jpool t ad K) [] 93 (60 * k + 3 * i9 + 1747) (360 * k + 18 * i9 + 10482) rfl rfl rfl rfl rfl ?_
                                              refine jr_lv [5, 6, 7, 3, 8, 9, 10, 11, 12, 13, 2, 1, 0] [(0, .ref h0), (1, .int (nI rr)), (2, .int (nI nn)), (3, .int 1), (4, .int 16), (5, .int (nI ((nn + 16 - 1) / 16))), (6, .int (nI k)), (7, .int lo), (8, .int hi), (9, .int mn), (10, .int (sm + (jat (K rr) 1 (16 * k + i9)))), (11, .int (nI (i9 + 1))), (12, .int (nI (16 * k + (i9 + 1))))] rfl ?_
                                              refine jr_widen (k' := (60 * k + 3 * (i9 + 1) + 1744)) (n' := (360 * k + 18 * (i9 + 1) + 10464)) (by omega) (by omega) ?_
                                              exact ih93 (i9 + 1) (sm + (jat (K rr) 1 (16 * k + i9))) (by omega) (by rw [hq, show (min (16 * k + 16) nn - 16 * k) - i9 = ((min (16 * k + 16) nn - 16 * k) - (i9 + 1)) + 1 by omega]; rfl) (by omega)
                                      refine jr_norm (([(h0, .inr (9, [.ref x1, .ref x2, .ref x3, .ref x4, .ref x5, .ref x6, .int fi])), (x2, .inr (5, jmem M ca cg)), (ca, .inl (t 2, 8, .inr (.inr (.inr (.inr (jcaps ad))))))] : va_W) ++ jpool t ad K) [] 93 (60 * k + 1744) (360 * k + 10464) rfl rfl rfl rfl rfl ?_
                                      refine jr_lv [6, 7, 8, 9, 10, 11, 12, 5, 4, 3, 2, 1, 0] [(0, .ref h0), (1, .int (nI rr)), (2, .int (nI nn)), (3, .int 1), (4, .int 16), (5, .int (nI ((nn + 16 - 1) / 16))), (6, .int (nI k)), (7, .int lo), (8, .int hi), (9, .int mn), (10, .int 0), (11, .int (nI 0)), (12, .int (nI (16 * k + 0)))] rfl ?_
                                      refine jr_widen (k' := (60 * k + 3 * 0 + 1744)) (n' := (360 * k + 18 * 0 + 10464)) (by omega) (by omega) ?_
                                      exact hL48 ((min (16 * k + 16) nn - 16 * k) - 0 + 1) 0 0 (Nat.zero_le _) rfl (Nat.lt_succ_self _)
                                refine jr_norm (([(h0, .inr (9, [.ref x1, .ref x2, .ref x3, .ref x4, .ref x5, .ref x6, .int fi])), (x2, .inr (5, jmem M ca cg)), (ca, .inl (t 2, 8, .inr (.inr (.inr (.inr (jcaps ad))))))] : va_W) ++ jpool t ad K) [] 30 1732 10392 rfl rfl rfl rfl rfl ?_
                                refine jr_lv [4, 5, 6, 3, 2, 1, 0] [(0, .ref h0), (1, .int (nI rr)), (2, .int (nI nn)), (3, .int 1), (4, .int 16), (5, .int (nI ((nn + 16 - 1) / 16))), (6, .int (nI 0))] rfl ?_
                                refine jr_widen (k' := (60 * 0 + 1732)) (n' := (360 * 0 + 10392)) (by omega) (by omega) ?_
                                exact hL38 (((nn + 16 - 1) / 16) - 0 + 1) 0 (Nat.zero_le _) (Nat.lt_succ_self _)
                              · have n32 := jle_not (a := ((nn + 13 - 1) / 13)) (b := k) c32 (by omega) (by omega)
                                refine jr_iload_n CC (jd ddL_isGrouped 22 rfl) 3 rfl ?_
                                refine jr_if_eq 214 CC (jd ddL_isGrouped 23 rfl) (by decide) (fun h => absurd h (by decide)) (fun _ => ?_)
                                have hsk : 13 * k < nn := by omega
                                obtain ⟨lo, hi, mn, e1, e2, e3, f1, f2, f3, f4, f5⟩ := grp_all hM1 hm8 hrr hnn hn49 hf (s := 13) (k := k) (by decide) (by decide) hsk
                                refine jr_aload_n CC (jd ddL_isGrouped 24 rfl) 0 rfl ?_
                                refine jr_iconst (v := 0) CC (jd ddL_isGrouped 25 rfl) (by decide) ?_
                                refine jr_iload_n CC (jd ddL_isGrouped 26 rfl) 1 rfl ?_
                                refine jr_iconst (v := 1) CC (jd ddL_isGrouped 27 rfl) (by decide) ?_
                                refine jr_iload CC (jd ddL_isGrouped 28 rfl) 4 rfl ?_
                                refine jr_pc (pc' := 47) rfl ?_
                                refine jr_iload CC (jd ddL_isGrouped 29 rfl) 6 rfl ?_
                                refine jr_norm (([(h0, .inr (9, [.ref x1, .ref x2, .ref x3, .ref x4, .ref x5, .ref x6, .int fi])), (x2, .inr (5, jmem M ca cg)), (ca, .inl (t 2, 8, .inr (.inr (.inr (.inr (jcaps ad))))))] : va_W) ++ jpool t ad K) [.int (nI k), .int 13, .int 1, .int (nI rr), .int 0, .ref h0] 49 (51 * k + 1520) (306 * k + 9120) rfl rfl rfl rfl rfl ?_
                                refine jr_callW (rest := []) [.ref h0, .int 0, .int (nI rr), .int 1, .int 13, .int (nI k)] CC (jd ddL_isGrouped 30 rfl) (jy_L_143 CC) (k_L_grouped0 l t hfl h0 x1 x2 x3 x4 x5 x6 fi M ca cg ad K m8 (nI rr) 1 13 (nI k) hM1 hm8 hK) ([0, 1, 2] ++ (List.range 32).map (fun i => 3 + i)) (jpool_isC 3 rfl (is := [0, 1, 2]) rfl (by decide)) (by decide) rfl rfl ⟨by decide, Nat.le_of_ble_eq_true rfl, show (51 * k + 1520) + 4 ≤ 2035 from by omega, show (306 * k + 9120) + 24 ≤ 12210 from by omega⟩ (Nat.le_of_ble_eq_true rfl) (by rintro v u h; rcases h with ⟨rfl, rfl⟩ <;> exact jpool_same rfl) (fun _ _ h => h.elim) (fun _ _ h => h.elim) (fun v u h => ?_)
                                rcases h with ⟨rfl, rfl⟩
                                refine jr_ws (jput [(h0, .inr (9, [.ref x1, .ref x2, .ref x3, .ref x4, .ref x5, .ref x6, .int fi])), (x2, .inr (5, jmem M ca cg)), (ca, .inl (t 2, 8, .inr (.inr (.inr (.inr (jcaps ad))))))] [0, 1, 2] [(h0, .inr (9, [.ref x1, .ref x2, .ref x3, .ref x4, .ref x5, .ref x6, .int fi])), (x2, .inr (5, jmem M ca cg)), (ca, .inl (t 2, 8, .inr (.inr (.inr (.inr (jcaps ad))))))] ++ jpool t ad K) (jpool_after 3 rfl rfl rfl (by decide)) ?_
                                refine jr_norm (([(h0, .inr (9, [.ref x1, .ref x2, .ref x3, .ref x4, .ref x5, .ref x6, .int fi])), (x2, .inr (5, jmem M ca cg)), (ca, .inl (t 2, 8, .inr (.inr (.inr (.inr (jcaps ad))))))] : va_W) ++ jpool t ad K) [.int (wP (eGrp (M 1) (nI rr) (K (nI rr).toNatClampNeg).2.2.1 1 13 (nI k)) (cLow (K (nI rr).toNatClampNeg) 1 13 (nI k)) (-200) (-300) 0 0)] 52 (51 * k + 1524) (306 * k + 9144) rfl rfl rfl rfl rfl ?_
                                refine jr_st [.int lo] (jst1 (e1)) ?_
                                refine jr_istore [(7, .int lo), (0, .ref h0), (1, .int (nI rr)), (2, .int (nI nn)), (3, .int 1), (4, .int 13), (5, .int (nI ((nn + 13 - 1) / 13))), (6, .int (nI k))] CC (jd ddL_isGrouped 31 rfl) (by decide) rfl ?_
                                refine jr_aload_n CC (jd ddL_isGrouped 32 rfl) 1 rfl ?_
                                refine jr_iconst (v := 1) CC (jd ddL_isGrouped 33 rfl) (by decide) ?_
                                refine jr_iload_n CC (jd ddL_isGrouped 34 rfl) 2 rfl ?_
                                refine jr_iconst (v := 1) CC (jd ddL_isGrouped 35 rfl) (by decide) ?_
                                refine jr_iload CC (jd ddL_isGrouped 36 rfl) 5 rfl ?_
                                refine jr_iload CC (jd ddL_isGrouped 37 rfl) 7 rfl ?_
                                refine jr_norm (([(h0, .inr (9, [.ref x1, .ref x2, .ref x3, .ref x4, .ref x5, .ref x6, .int fi])), (x2, .inr (5, jmem M ca cg)), (ca, .inl (t 2, 8, .inr (.inr (.inr (.inr (jcaps ad))))))] : va_W) ++ jpool t ad K) [.int (nI k), .int 13, .int 1, .int (nI rr), .int 1, .ref h0] 62 (51 * k + 1524) (306 * k + 9144) rfl rfl rfl rfl rfl ?_
                                refine jr_callW (rest := []) [.ref h0, .int 1, .int (nI rr), .int 1, .int 13, .int (nI k)] CC (jd ddL_isGrouped 38 rfl) (jy_L_143 CC) (k_L_grouped1 l t hfl h0 x1 x2 x3 x4 x5 x6 fi M ca cg ad K m8 (nI rr) 1 13 (nI k) hM1 hm8 hK) ([0, 1, 2] ++ (List.range 32).map (fun i => 3 + i)) (jpool_isC 3 rfl (is := [0, 1, 2]) rfl (by decide)) (by decide) rfl rfl ⟨by decide, Nat.le_of_ble_eq_true rfl, show (51 * k + 1524) + 4 ≤ 2035 from by omega, show (306 * k + 9144) + 24 ≤ 12210 from by omega⟩ (Nat.le_of_ble_eq_true rfl) (by rintro v u h; rcases h with ⟨rfl, rfl⟩ <;> exact jpool_same rfl) (fun _ _ h => h.elim) (fun _ _ h => h.elim) (fun v u h => ?_)
                                rcases h with ⟨rfl, rfl⟩
                                refine jr_ws (jput [(h0, .inr (9, [.ref x1, .ref x2, .ref x3, .ref x4, .ref x5, .ref x6, .int fi])), (x2, .inr (5, jmem M ca cg)), (ca, .inl (t 2, 8, .inr (.inr (.inr (.inr (jcaps ad))))))] [0, 1, 2] [(h0, .inr (9, [.ref x1, .ref x2, .ref x3, .ref x4, .ref x5, .ref x6, .int fi])), (x2, .inr (5, jmem M ca cg)), (ca, .inl (t 2, 8, .inr (.inr (.inr (.inr (jcaps ad))))))] ++ jpool t ad K) (jpool_after 3 rfl rfl rfl (by decide)) ?_
                                refine jr_norm (([(h0, .inr (9, [.ref x1, .ref x2, .ref x3, .ref x4, .ref x5, .ref x6, .int fi])), (x2, .inr (5, jmem M ca cg)), (ca, .inl (t 2, 8, .inr (.inr (.inr (.inr (jcaps ad))))))] : va_W) ++ jpool t ad K) [.int (wP (eGrp (M 1) (nI rr) (K (nI rr).toNatClampNeg).2.2.1 1 13 (nI k)) (cHigh (K (nI rr).toNatClampNeg) 1 13 (nI k)) (-200) (-300) 0 0)] 65 (51 * k + 1528) (306 * k + 9168) rfl rfl rfl rfl rfl ?_
                                refine jr_st [.int hi] (jst1 (e2)) ?_
                                refine jr_istore [(8, .int hi), (7, .int lo), (0, .ref h0), (1, .int (nI rr)), (2, .int (nI nn)), (3, .int 1), (4, .int 13), (5, .int (nI ((nn + 13 - 1) / 13))), (6, .int (nI k))] CC (jd ddL_isGrouped 39 rfl) (by decide) rfl ?_
                                refine jr_aload_n CC (jd ddL_isGrouped 40 rfl) 2 rfl ?_
                                refine jr_iconst (v := 2) CC (jd ddL_isGrouped 41 rfl) (by decide) ?_
                                refine jr_iload_n CC (jd ddL_isGrouped 42 rfl) 3 rfl ?_
                                refine jr_iconst (v := 1) CC (jd ddL_isGrouped 43 rfl) (by decide) ?_
                                refine jr_iload CC (jd ddL_isGrouped 44 rfl) 6 rfl ?_
                                refine jr_iload CC (jd ddL_isGrouped 45 rfl) 8 rfl ?_
                                refine jr_norm (([(h0, .inr (9, [.ref x1, .ref x2, .ref x3, .ref x4, .ref x5, .ref x6, .int fi])), (x2, .inr (5, jmem M ca cg)), (ca, .inl (t 2, 8, .inr (.inr (.inr (.inr (jcaps ad))))))] : va_W) ++ jpool t ad K) [.int (nI k), .int 13, .int 1, .int (nI rr), .int 2, .ref h0] 75 (51 * k + 1528) (306 * k + 9168) rfl rfl rfl rfl rfl ?_
                                refine jr_callW (rest := []) [.ref h0, .int 2, .int (nI rr), .int 1, .int 13, .int (nI k)] CC (jd ddL_isGrouped 46 rfl) (jy_L_143 CC) (k_L_grouped2 l t hfl h0 x1 x2 x3 x4 x5 x6 fi M ca cg ad K m8 (nI rr) 1 13 (nI k) hM1 hm8 hK) ([0, 1, 2] ++ (List.range 32).map (fun i => 3 + i)) (jpool_isC 3 rfl (is := [0, 1, 2]) rfl (by decide)) (by decide) rfl rfl ⟨by decide, Nat.le_of_ble_eq_true rfl, show (51 * k + 1528) + 4 ≤ 2035 from by omega, show (306 * k + 9168) + 24 ≤ 12210 from by omega⟩ (Nat.le_of_ble_eq_true rfl) (by rintro v u h; rcases h with ⟨rfl, rfl⟩ <;> exact jpool_same rfl) (fun _ _ h => h.elim) (fun _ _ h => h.elim) (fun v u h => ?_)
                                rcases h with ⟨rfl, rfl⟩
                                refine jr_ws (jput [(h0, .inr (9, [.ref x1, .ref x2, .ref x3, .ref x4, .ref x5, .ref x6, .int fi])), (x2, .inr (5, jmem M ca cg)), (ca, .inl (t 2, 8, .inr (.inr (.inr (.inr (jcaps ad))))))] [0, 1, 2] [(h0, .inr (9, [.ref x1, .ref x2, .ref x3, .ref x4, .ref x5, .ref x6, .int fi])), (x2, .inr (5, jmem M ca cg)), (ca, .inl (t 2, 8, .inr (.inr (.inr (.inr (jcaps ad))))))] ++ jpool t ad K) (jpool_after 3 rfl rfl rfl (by decide)) ?_
                                refine jr_norm (([(h0, .inr (9, [.ref x1, .ref x2, .ref x3, .ref x4, .ref x5, .ref x6, .int fi])), (x2, .inr (5, jmem M ca cg)), (ca, .inl (t 2, 8, .inr (.inr (.inr (.inr (jcaps ad))))))] : va_W) ++ jpool t ad K) [.int (wP (eGrp (M 1) (nI rr) (K (nI rr).toNatClampNeg).2.2.1 1 13 (nI k)) (cMean (K (nI rr).toNatClampNeg) 1 13 (nI k)) (-200) (-300) 0 0)] 78 (51 * k + 1532) (306 * k + 9192) rfl rfl rfl rfl rfl ?_
                                refine jr_st [.int mn] (jst1 (e3)) ?_
                                refine jr_istore [(9, .int mn), (8, .int hi), (7, .int lo), (0, .ref h0), (1, .int (nI rr)), (2, .int (nI nn)), (3, .int 1), (4, .int 13), (5, .int (nI ((nn + 13 - 1) / 13))), (6, .int (nI k))] CC (jd ddL_isGrouped 47 rfl) (by decide) rfl ?_
                                refine jr_iconst (v := 0) CC (jd ddL_isGrouped 48 rfl) (by decide) ?_
                                refine jr_istore [(10, .int 0), (9, .int mn), (8, .int hi), (7, .int lo), (0, .ref h0), (1, .int (nI rr)), (2, .int (nI nn)), (3, .int 1), (4, .int 13), (5, .int (nI ((nn + 13 - 1) / 13))), (6, .int (nI k))] CC (jd ddL_isGrouped 49 rfl) (by decide) rfl ?_
                                refine jr_iconst (v := 0) CC (jd ddL_isGrouped 50 rfl) (by decide) ?_
                                refine jr_istore [(11, .int 0), (10, .int 0), (9, .int mn), (8, .int hi), (7, .int lo), (0, .ref h0), (1, .int (nI rr)), (2, .int (nI nn)), (3, .int 1), (4, .int 13), (5, .int (nI ((nn + 13 - 1) / 13))), (6, .int (nI k))] CC (jd ddL_isGrouped 51 rfl) (by decide) rfl ?_
                                refine jr_iload CC (jd ddL_isGrouped 52 rfl) 9 rfl ?_
                                refine jr_iload CC (jd ddL_isGrouped 53 rfl) 11 rfl ?_
                                refine jr_imul CC (jd ddL_isGrouped 54 rfl) ?_
                                refine jr_st [.int (nI (13 * k))] (jst1 (pk_mul 13 k)) ?_
                                refine jr_istore [(12, .int (nI (13 * k))), (11, .int 0), (10, .int 0), (9, .int mn), (8, .int hi), (7, .int lo), (0, .ref h0), (1, .int (nI rr)), (2, .int (nI nn)), (3, .int 1), (4, .int 13), (5, .int (nI ((nn + 13 - 1) / 13))), (6, .int (nI k))] CC (jd ddL_isGrouped 55 rfl) (by decide) rfl ?_
                                have hL55 : ∀ (d9 : Nat) (i9 : Nat) (sm : Int32) (hm : i9 ≤ (min (13 * k + 13) nn - 13 * k)) (hq : jsum (jat (K rr) 1) (min (13 * k + 13) nn - 13 * k) (13 * k) 0 = jsum (jat (K rr) 1) ((min (13 * k + 13) nn - 13 * k) - i9) (13 * k + i9) sm), (min (13 * k + 13) nn - 13 * k) - i9 < d9 → J p l e { frames := 11, cells := 2035, slots := 12210, locals := 203 } s m args below meth c D A 14 Q (([(h0, .inr (9, [.ref x1, .ref x2, .ref x3, .ref x4, .ref x5, .ref x6, .int fi])), (x2, .inr (5, jmem M ca cg)), (ca, .inl (t 2, 8, .inr (.inr (.inr (.inr (jcaps ad))))))] : va_W) ++ jpool t ad K) [(0, .ref h0), (1, .int (nI rr)), (2, .int (nI nn)), (3, .int 1), (4, .int 13), (5, .int (nI ((nn + 13 - 1) / 13))), (6, .int (nI k)), (7, .int lo), (8, .int hi), (9, .int mn), (10, .int sm), (11, .int (nI i9)), (12, .int (nI (13 * k + i9)))] 93 [] (51 * k + 3 * i9 + 1532) (306 * k + 18 * i9 + 9192) := by
                                  intro d9
                                  induction d9 with
                                  | zero => intro i9 sm hm hq hmu; exact absurd hmu (Nat.not_lt_zero _)
                                  | succ d9 ih93 =>
                                    intro i9 sm hm hq hmu
                                    refine jr_iload CC (jd ddL_isGrouped 56 rfl) 12 rfl ?_
                                    refine jr_iload CC (jd ddL_isGrouped 57 rfl) 4 rfl ?_
                                    refine jr_iload CC (jd ddL_isGrouped 58 rfl) 6 rfl ?_
                                    refine jr_imul CC (jd ddL_isGrouped 59 rfl) ?_
                                    refine jr_st [.int (nI (13 * k)), .int (nI (13 * k + i9))] (jst1 (pk_mul 13 k)) ?_
                                    refine jr_iload CC (jd ddL_isGrouped 60 rfl) 4 rfl ?_
                                    refine jr_iadd CC (jd ddL_isGrouped 61 rfl) ?_
                                    refine jr_st [.int (nI ((13 * k) + 13)), .int (nI (13 * k + i9))] (jst1 (nI_add (13 * k) 13)) ?_
                                    refine jr_icmp_ge 162 CC (jd ddL_isGrouped 62 rfl) (by decide) (fun c56 => ?_) (fun c56 => ?_)
                                    · have n56 := jle_of (a := ((13 * k) + 13)) (b := (13 * k + i9)) c56 (by omega) (by omega)
                                      refine jr_widen (k' := (51 * k + 1571)) (n' := (306 * k + 9426)) (by omega) (by omega) ?_
                                      have hmN : i9 = (min (13 * k + 13) nn - 13 * k) := by omega
                                      have hsm : jsum (jat (K rr) 1) (min (13 * k + 13) nn - 13 * k) (13 * k) 0 = sm := hq.trans (by rw [show (min (13 * k + 13) nn - 13 * k) - i9 = 0 by omega]; rfl)
                                      refine jr_iload_n CC (jd ddL_isGrouped 91 rfl) 3 rfl ?_
                                      refine jr_if_eq 206 CC (jd ddL_isGrouped 92 rfl) (by decide) (fun h => absurd h (by decide)) (fun _ => ?_)
                                      refine jr_iload CC (jd ddL_isGrouped 93 rfl) 7 rfl ?_
                                      refine jr_pc (pc' := 168) rfl ?_
                                      refine jr_iload CC (jd ddL_isGrouped 94 rfl) 9 rfl ?_
                                      refine jr_icmp_gt 206 CC (jd ddL_isGrouped 95 rfl) (by decide) (fun h => absurd h f2) (fun _ => ?_)
                                      refine jr_iload CC (jd ddL_isGrouped 96 rfl) 9 rfl ?_
                                      refine jr_iload CC (jd ddL_isGrouped 97 rfl) 8 rfl ?_
                                      refine jr_icmp_gt 206 CC (jd ddL_isGrouped 98 rfl) (by decide) (fun h => absurd h f3) (fun _ => ?_)
                                      refine jr_iload CC (jd ddL_isGrouped 99 rfl) 9 rfl ?_
                                      refine jr_iload CC (jd ddL_isGrouped 100 rfl) 11 rfl ?_
                                      refine jr_imul CC (jd ddL_isGrouped 101 rfl) ?_
                                      refine jr_iload CC (jd ddL_isGrouped 102 rfl) 10 rfl ?_
                                      refine jr_icmp_gt 206 CC (jd ddL_isGrouped 103 rfl) (by decide) (fun h => absurd h (by rw [hmN, ← hsm]; exact f4)) (fun _ => ?_)
                                      refine jr_pc (pc' := 190) rfl ?_
                                      refine jr_iload CC (jd ddL_isGrouped 104 rfl) 10 rfl ?_
                                      refine jr_iload CC (jd ddL_isGrouped 105 rfl) 9 rfl ?_
                                      refine jr_iconst (v := 1) CC (jd ddL_isGrouped 106 rfl) (by decide) ?_
                                      refine jr_iadd CC (jd ddL_isGrouped 107 rfl) ?_
                                      refine jr_iload CC (jd ddL_isGrouped 108 rfl) 11 rfl ?_
                                      refine jr_imul CC (jd ddL_isGrouped 109 rfl) ?_
                                      refine jr_icmp_ge 206 CC (jd ddL_isGrouped 110 rfl) (by decide) (fun h => absurd h (by rw [hmN, ← hsm]; exact f5)) (fun _ => ?_)
                                      refine jr_iconst (v := 1) CC (jd ddL_isGrouped 111 rfl) (by decide) ?_
                                      refine jr_goto 207 CC (jd ddL_isGrouped 112 rfl) (by decide) ?_
                                      refine jr_istore_n 3 [(3, .int 1), (0, .ref h0), (1, .int (nI rr)), (2, .int (nI nn)), (4, .int 13), (5, .int (nI ((nn + 13 - 1) / 13))), (6, .int (nI k)), (7, .int lo), (8, .int hi), (9, .int mn), (10, .int sm), (11, .int (nI i9)), (12, .int (nI (13 * k + i9)))] CC (jd ddL_isGrouped 114 rfl) rfl (by decide) rfl ?_
                                      refine jr_iinc [(6, .int (nI (k + 1))), (3, .int 1), (0, .ref h0), (1, .int (nI rr)), (2, .int (nI nn)), (4, .int 13), (5, .int (nI ((nn + 13 - 1) / 13))), (7, .int lo), (8, .int hi), (9, .int mn), (10, .int sm), (11, .int (nI i9)), (12, .int (nI (13 * k + i9)))] CC (jd ddL_isGrouped 115 rfl) 6 rfl (nI_1 _) (by decide) rfl ?_
                                      refine jr_goto 30 CC (jd ddL_isGrouped 116 rfl) (by decide) ?_
                                      refine jr_norm (([(h0, .inr (9, [.ref x1, .ref x2, .ref x3, .ref x4, .ref x5, .ref x6, .int fi])), (x2, .inr (5, jmem M ca cg)), (ca, .inl (t 2, 8, .inr (.inr (.inr (.inr (jcaps ad))))))] : va_W) ++ jpool t ad K) [] 30 (51 * k + 1571) (306 * k + 9426) rfl rfl rfl rfl rfl ?_
                                      refine jr_lv [2, 3, 4, 1, 5, 6, 0] [(0, .ref h0), (1, .int (nI rr)), (2, .int (nI nn)), (3, .int 1), (4, .int 13), (5, .int (nI ((nn + 13 - 1) / 13))), (6, .int (nI (k + 1)))] rfl ?_
                                      refine jr_widen (k' := (51 * (k + 1) + 1520)) (n' := (306 * (k + 1) + 9120)) (by omega) (by omega) ?_
                                      exact ih30 (k + 1) (by omega) (by omega)
                                    · have n56 := jle_not (a := ((13 * k) + 13)) (b := (13 * k + i9)) c56 (by omega) (by omega)
                                      refine jr_iload CC (jd ddL_isGrouped 63 rfl) 12 rfl ?_
                                      refine jr_iload_n CC (jd ddL_isGrouped 64 rfl) 2 rfl ?_
                                      refine jr_icmp_ge 162 CC (jd ddL_isGrouped 65 rfl) (by decide) (fun c58 => ?_) (fun c58 => ?_)
                                      · have n58 := jle_of (a := nn) (b := (13 * k + i9)) c58 (by omega) (by omega)
                                        refine jr_widen (k' := (51 * k + 1571)) (n' := (306 * k + 9426)) (by omega) (by omega) ?_
                                        have hmN : i9 = (min (13 * k + 13) nn - 13 * k) := by omega
                                        have hsm : jsum (jat (K rr) 1) (min (13 * k + 13) nn - 13 * k) (13 * k) 0 = sm := hq.trans (by rw [show (min (13 * k + 13) nn - 13 * k) - i9 = 0 by omega]; rfl)
                                        refine jr_pc (pc' := 162) rfl ?_
                                        refine jr_iload_n CC (jd ddL_isGrouped 91 rfl) 3 rfl ?_
                                        refine jr_if_eq 206 CC (jd ddL_isGrouped 92 rfl) (by decide) (fun h => absurd h (by decide)) (fun _ => ?_)
                                        refine jr_iload CC (jd ddL_isGrouped 93 rfl) 7 rfl ?_
                                        refine jr_iload CC (jd ddL_isGrouped 94 rfl) 9 rfl ?_
                                        refine jr_icmp_gt 206 CC (jd ddL_isGrouped 95 rfl) (by decide) (fun h => absurd h f2) (fun _ => ?_)
                                        refine jr_iload CC (jd ddL_isGrouped 96 rfl) 9 rfl ?_
                                        refine jr_iload CC (jd ddL_isGrouped 97 rfl) 8 rfl ?_
                                        refine jr_icmp_gt 206 CC (jd ddL_isGrouped 98 rfl) (by decide) (fun h => absurd h f3) (fun _ => ?_)
                                        refine jr_iload CC (jd ddL_isGrouped 99 rfl) 9 rfl ?_
                                        refine jr_iload CC (jd ddL_isGrouped 100 rfl) 11 rfl ?_
                                        refine jr_pc (pc' := 184) rfl ?_
                                        refine jr_imul CC (jd ddL_isGrouped 101 rfl) ?_
                                        refine jr_iload CC (jd ddL_isGrouped 102 rfl) 10 rfl ?_
                                        refine jr_icmp_gt 206 CC (jd ddL_isGrouped 103 rfl) (by decide) (fun h => absurd h (by rw [hmN, ← hsm]; exact f4)) (fun _ => ?_)
                                        refine jr_iload CC (jd ddL_isGrouped 104 rfl) 10 rfl ?_
                                        refine jr_iload CC (jd ddL_isGrouped 105 rfl) 9 rfl ?_
                                        refine jr_iconst (v := 1) CC (jd ddL_isGrouped 106 rfl) (by decide) ?_
                                        refine jr_iadd CC (jd ddL_isGrouped 107 rfl) ?_
                                        refine jr_iload CC (jd ddL_isGrouped 108 rfl) 11 rfl ?_
                                        refine jr_imul CC (jd ddL_isGrouped 109 rfl) ?_
                                        refine jr_icmp_ge 206 CC (jd ddL_isGrouped 110 rfl) (by decide) (fun h => absurd h (by rw [hmN, ← hsm]; exact f5)) (fun _ => ?_)
                                        refine jr_pc (pc' := 202) rfl ?_
                                        refine jr_iconst (v := 1) CC (jd ddL_isGrouped 111 rfl) (by decide) ?_
                                        refine jr_goto 207 CC (jd ddL_isGrouped 112 rfl) (by decide) ?_
                                        refine jr_istore_n 3 [(3, .int 1), (0, .ref h0), (1, .int (nI rr)), (2, .int (nI nn)), (4, .int 13), (5, .int (nI ((nn + 13 - 1) / 13))), (6, .int (nI k)), (7, .int lo), (8, .int hi), (9, .int mn), (10, .int sm), (11, .int (nI i9)), (12, .int (nI (13 * k + i9)))] CC (jd ddL_isGrouped 114 rfl) rfl (by decide) rfl ?_
                                        refine jr_iinc [(6, .int (nI (k + 1))), (3, .int 1), (0, .ref h0), (1, .int (nI rr)), (2, .int (nI nn)), (4, .int 13), (5, .int (nI ((nn + 13 - 1) / 13))), (7, .int lo), (8, .int hi), (9, .int mn), (10, .int sm), (11, .int (nI i9)), (12, .int (nI (13 * k + i9)))] CC (jd ddL_isGrouped 115 rfl) 6 rfl (nI_1 _) (by decide) rfl ?_
                                        refine jr_goto 30 CC (jd ddL_isGrouped 116 rfl) (by decide) ?_
                                        refine jr_norm (([(h0, .inr (9, [.ref x1, .ref x2, .ref x3, .ref x4, .ref x5, .ref x6, .int fi])), (x2, .inr (5, jmem M ca cg)), (ca, .inl (t 2, 8, .inr (.inr (.inr (.inr (jcaps ad))))))] : va_W) ++ jpool t ad K) [] 30 (51 * k + 1571) (306 * k + 9426) rfl rfl rfl rfl rfl ?_
                                        refine jr_lv [2, 3, 4, 1, 5, 6, 0] [(0, .ref h0), (1, .int (nI rr)), (2, .int (nI nn)), (3, .int 1), (4, .int 13), (5, .int (nI ((nn + 13 - 1) / 13))), (6, .int (nI (k + 1)))] rfl ?_
                                        refine jr_widen (k' := (51 * (k + 1) + 1520)) (n' := (306 * (k + 1) + 9120)) (by omega) (by omega) ?_
                                        exact ih30 (k + 1) (by omega) (by omega)
                                      · have n58 := jle_not (a := nn) (b := (13 * k + i9)) c58 (by omega) (by omega)
                                        refine jr_pc (pc' := 112) rfl ?_
                                        refine jr_aload_n CC (jd ddL_isGrouped 66 rfl) 0 rfl ?_
                                        refine jr_iload_n CC (jd ddL_isGrouped 67 rfl) 1 rfl ?_
                                        refine jr_iconst (v := 1) CC (jd ddL_isGrouped 68 rfl) (by decide) ?_
                                        refine jr_iload CC (jd ddL_isGrouped 69 rfl) 12 rfl ?_
                                        refine jr_norm (([(h0, .inr (9, [.ref x1, .ref x2, .ref x3, .ref x4, .ref x5, .ref x6, .int fi])), (x2, .inr (5, jmem M ca cg)), (ca, .inl (t 2, 8, .inr (.inr (.inr (.inr (jcaps ad))))))] : va_W) ++ jpool t ad K) [.int (nI (13 * k + i9)), .int 1, .int (nI rr), .ref h0] 117 (51 * k + 3 * i9 + 1532) (306 * k + 18 * i9 + 9192) rfl rfl rfl rfl rfl ?_
                                        refine jr_callW (rest := []) [.ref h0, .int (nI rr), .int 1, .int (nI (13 * k + i9))] CC (jd ddL_isGrouped 70 rfl) (jy_L_117 CC) (k_L_value l t hfl h0 x1 x2 x3 x4 x5 x6 fi M ca cg ad K m8 (nI rr) 1 (nI (13 * k + i9)) hM1 hm8 hK) ([0, 1, 2] ++ (List.range 32).map (fun i => 3 + i)) (jpool_isC 3 rfl (is := [0, 1, 2]) rfl (by decide)) (by decide) rfl rfl ⟨by decide, Nat.le_of_ble_eq_true rfl, show (51 * k + 3 * i9 + 1532) + 3 ≤ 2035 from by omega, show (306 * k + 18 * i9 + 9192) + 18 ≤ 12210 from by omega⟩ (Nat.le_of_ble_eq_true rfl) (by rintro v u h; rcases h with ⟨rfl, rfl⟩ <;> exact jpool_same rfl) (fun _ _ h => h.elim) (fun _ _ h => h.elim) (fun v u h => ?_)
                                        rcases h with ⟨rfl, rfl⟩
                                        refine jr_ws (jput [(h0, .inr (9, [.ref x1, .ref x2, .ref x3, .ref x4, .ref x5, .ref x6, .int fi])), (x2, .inr (5, jmem M ca cg)), (ca, .inl (t 2, 8, .inr (.inr (.inr (.inr (jcaps ad))))))] [0, 1, 2] [(h0, .inr (9, [.ref x1, .ref x2, .ref x3, .ref x4, .ref x5, .ref x6, .int fi])), (x2, .inr (5, jmem M ca cg)), (ca, .inl (t 2, 8, .inr (.inr (.inr (.inr (jcaps ad))))))] ++ jpool t ad K) (jpool_after 3 rfl rfl rfl (by decide)) ?_
                                        refine jr_norm (([(h0, .inr (9, [.ref x1, .ref x2, .ref x3, .ref x4, .ref x5, .ref x6, .int fi])), (x2, .inr (5, jmem M ca cg)), (ca, .inl (t 2, 8, .inr (.inr (.inr (.inr (jcaps ad))))))] : va_W) ++ jpool t ad K) [.int (wP (eVal (M 1) (nI rr) (K (nI rr).toNatClampNeg).2.2.1 (nI (13 * k + i9)) 1) (jat (K (nI rr).toNatClampNeg) 1 (nI (13 * k + i9)).toNatClampNeg) (-300) (-200) 0 0)] 120 (51 * k + 3 * i9 + 1535) (306 * k + 18 * i9 + 9210) rfl rfl rfl rfl rfl ?_
                                        refine jr_st [.int (jat (K rr) 1 (13 * k + i9))] (jst1 (wv_in hM1 hm8 hrr hnn hn49 jin01.2.1 (by omega) _ _ _ _)) ?_
                                        refine jr_istore [(13, .int (jat (K rr) 1 (13 * k + i9))), (0, .ref h0), (1, .int (nI rr)), (2, .int (nI nn)), (3, .int 1), (4, .int 13), (5, .int (nI ((nn + 13 - 1) / 13))), (6, .int (nI k)), (7, .int lo), (8, .int hi), (9, .int mn), (10, .int sm), (11, .int (nI i9)), (12, .int (nI (13 * k + i9)))] CC (jd ddL_isGrouped 71 rfl) (by decide) rfl ?_
                                        refine jr_iload_n CC (jd ddL_isGrouped 72 rfl) 4 rfl ?_
                                        refine jr_if_eq 144 CC (jd ddL_isGrouped 73 rfl) (by decide) (fun h => absurd h (by decide)) (fun _ => ?_)
                                        refine jr_iload CC (jd ddL_isGrouped 74 rfl) 8 rfl ?_
                                        refine jr_iload CC (jd ddL_isGrouped 75 rfl) 0 rfl ?_
                                        refine jr_icmp_gt 144 CC (jd ddL_isGrouped 76 rfl) (by decide) (fun h => absurd h (f1 _ (by omega) (by omega)).1) (fun _ => ?_)
                                        refine jr_iload CC (jd ddL_isGrouped 77 rfl) 0 rfl ?_
                                        refine jr_iload CC (jd ddL_isGrouped 78 rfl) 9 rfl ?_
                                        refine jr_icmp_gt 144 CC (jd ddL_isGrouped 79 rfl) (by decide) (fun h => absurd h (f1 _ (by omega) (by omega)).2) (fun _ => ?_)
                                        refine jr_iconst (v := 1) CC (jd ddL_isGrouped 80 rfl) (by decide) ?_
                                        refine jr_pc (pc' := 141) rfl ?_
                                        refine jr_goto 145 CC (jd ddL_isGrouped 81 rfl) (by decide) ?_
                                        refine jr_istore_n 3 [(3, .int 1), (13, .int (jat (K rr) 1 (13 * k + i9))), (0, .ref h0), (1, .int (nI rr)), (2, .int (nI nn)), (4, .int 13), (5, .int (nI ((nn + 13 - 1) / 13))), (6, .int (nI k)), (7, .int lo), (8, .int hi), (9, .int mn), (10, .int sm), (11, .int (nI i9)), (12, .int (nI (13 * k + i9)))] CC (jd ddL_isGrouped 83 rfl) rfl (by decide) rfl ?_
                                        refine jr_iload CC (jd ddL_isGrouped 84 rfl) 11 rfl ?_
                                        refine jr_iload CC (jd ddL_isGrouped 85 rfl) 1 rfl ?_
                                        refine jr_iadd CC (jd ddL_isGrouped 86 rfl) ?_
                                        refine jr_istore [(10, .int (sm + (jat (K rr) 1 (13 * k + i9)))), (3, .int 1), (13, .int (jat (K rr) 1 (13 * k + i9))), (0, .ref h0), (1, .int (nI rr)), (2, .int (nI nn)), (4, .int 13), (5, .int (nI ((nn + 13 - 1) / 13))), (6, .int (nI k)), (7, .int lo), (8, .int hi), (9, .int mn), (11, .int (nI i9)), (12, .int (nI (13 * k + i9)))] CC (jd ddL_isGrouped 87 rfl) (by decide) rfl ?_
                                        refine jr_iinc [(11, .int (nI (i9 + 1))), (10, .int (sm + (jat (K rr) 1 (13 * k + i9)))), (3, .int 1), (13, .int (jat (K rr) 1 (13 * k + i9))), (0, .ref h0), (1, .int (nI rr)), (2, .int (nI nn)), (4, .int 13), (5, .int (nI ((nn + 13 - 1) / 13))), (6, .int (nI k)), (7, .int lo), (8, .int hi), (9, .int mn), (12, .int (nI (13 * k + i9)))] CC (jd ddL_isGrouped 88 rfl) 12 rfl (nI_1 _) (by decide) rfl ?_
                                        refine jr_iinc [(12, .int (nI (13 * k + i9 + 1))), (11, .int (nI (i9 + 1))), (10, .int (sm + (jat (K rr) 1 (13 * k + i9)))), (3, .int 1), (13, .int (jat (K rr) 1 (13 * k + i9))), (0, .ref h0), (1, .int (nI rr)), (2, .int (nI nn)), (4, .int 13), (5, .int (nI ((nn + 13 - 1) / 13))), (6, .int (nI k)), (7, .int lo), (8, .int hi), (9, .int mn)] CC (jd ddL_isGrouped 89 rfl) 13 rfl (nI_1 _) (by decide) rfl ?_
                                        refine jr_goto 93 CC (jd ddL_isGrouped 90 rfl) (by decide) ?_
                                        refine jr_norm (([(h0, .inr (9, [.ref x1, .ref x2, .ref x3, .ref x4, .ref x5, .ref x6, .int fi])), (x2, .inr (5, jmem M ca cg)), (ca, .inl (t 2, 8, .inr (.inr (.inr (.inr (jcaps ad))))))] : va_W) ++ jpool t ad K) [] 93 (51 * k + 3 * i9 + 1535) (306 * k + 18 * i9 + 9210) rfl rfl rfl rfl rfl ?_
                                        refine jr_lv [5, 6, 7, 3, 8, 9, 10, 11, 12, 13, 2, 1, 0] [(0, .ref h0), (1, .int (nI rr)), (2, .int (nI nn)), (3, .int 1), (4, .int 13), (5, .int (nI ((nn + 13 - 1) / 13))), (6, .int (nI k)), (7, .int lo), (8, .int hi), (9, .int mn), (10, .int (sm + (jat (K rr) 1 (13 * k + i9)))), (11, .int (nI (i9 + 1))), (12, .int (nI (13 * k + (i9 + 1))))] rfl ?_
                                        refine jr_widen (k' := (51 * k + 3 * (i9 + 1) + 1532)) (n' := (306 * k + 18 * (i9 + 1) + 9192)) (by omega) (by omega) ?_
                                        exact ih93 (i9 + 1) (sm + (jat (K rr) 1 (13 * k + i9))) (by omega) (by rw [hq, show (min (13 * k + 13) nn - 13 * k) - i9 = ((min (13 * k + 13) nn - 13 * k) - (i9 + 1)) + 1 by omega]; rfl) (by omega)
                                refine jr_norm (([(h0, .inr (9, [.ref x1, .ref x2, .ref x3, .ref x4, .ref x5, .ref x6, .int fi])), (x2, .inr (5, jmem M ca cg)), (ca, .inl (t 2, 8, .inr (.inr (.inr (.inr (jcaps ad))))))] : va_W) ++ jpool t ad K) [] 93 (51 * k + 1532) (306 * k + 9192) rfl rfl rfl rfl rfl ?_
                                refine jr_lv [6, 7, 8, 9, 10, 11, 12, 5, 4, 3, 2, 1, 0] [(0, .ref h0), (1, .int (nI rr)), (2, .int (nI nn)), (3, .int 1), (4, .int 13), (5, .int (nI ((nn + 13 - 1) / 13))), (6, .int (nI k)), (7, .int lo), (8, .int hi), (9, .int mn), (10, .int 0), (11, .int (nI 0)), (12, .int (nI (13 * k + 0)))] rfl ?_
                                refine jr_widen (k' := (51 * k + 3 * 0 + 1532)) (n' := (306 * k + 18 * 0 + 9192)) (by omega) (by omega) ?_
                                exact hL55 ((min (13 * k + 13) nn - 13 * k) - 0 + 1) 0 0 (Nat.zero_le _) rfl (Nat.lt_succ_self _)
                          refine jr_norm (([(h0, .inr (9, [.ref x1, .ref x2, .ref x3, .ref x4, .ref x5, .ref x6, .int fi])), (x2, .inr (5, jmem M ca cg)), (ca, .inl (t 2, 8, .inr (.inr (.inr (.inr (jcaps ad))))))] : va_W) ++ jpool t ad K) [] 30 1520 9120 rfl rfl rfl rfl rfl ?_
                          refine jr_lv [4, 5, 6, 3, 2, 1, 0] [(0, .ref h0), (1, .int (nI rr)), (2, .int (nI nn)), (3, .int 1), (4, .int 13), (5, .int (nI ((nn + 13 - 1) / 13))), (6, .int (nI 0))] rfl ?_
                          refine jr_widen (k' := (51 * 0 + 1520)) (n' := (306 * 0 + 9120)) (by omega) (by omega) ?_
                          exact hL31 (((nn + 13 - 1) / 13) - 0 + 1) 0 (Nat.zero_le _) (Nat.lt_succ_self _)
                        · have n25 := jle_not (a := ((nn + 10 - 1) / 10)) (b := k) c25 (by omega) (by omega)
                          refine jr_iload_n CC (jd ddL_isGrouped 22 rfl) 3 rfl ?_
                          refine jr_if_eq 214 CC (jd ddL_isGrouped 23 rfl) (by decide) (fun h => absurd h (by decide)) (fun _ => ?_)
                          have hsk : 10 * k < nn := by omega
                          obtain ⟨lo, hi, mn, e1, e2, e3, f1, f2, f3, f4, f5⟩ := grp_all hM1 hm8 hrr hnn hn49 hf (s := 10) (k := k) (by decide) (by decide) hsk
                          refine jr_aload_n CC (jd ddL_isGrouped 24 rfl) 0 rfl ?_
                          refine jr_iconst (v := 0) CC (jd ddL_isGrouped 25 rfl) (by decide) ?_
                          refine jr_iload_n CC (jd ddL_isGrouped 26 rfl) 1 rfl ?_
                          refine jr_iconst (v := 1) CC (jd ddL_isGrouped 27 rfl) (by decide) ?_
                          refine jr_iload CC (jd ddL_isGrouped 28 rfl) 4 rfl ?_
                          refine jr_pc (pc' := 47) rfl ?_
                          refine jr_iload CC (jd ddL_isGrouped 29 rfl) 6 rfl ?_
                          refine jr_norm (([(h0, .inr (9, [.ref x1, .ref x2, .ref x3, .ref x4, .ref x5, .ref x6, .int fi])), (x2, .inr (5, jmem M ca cg)), (ca, .inl (t 2, 8, .inr (.inr (.inr (.inr (jcaps ad))))))] : va_W) ++ jpool t ad K) [.int (nI k), .int 10, .int 1, .int (nI rr), .int 0, .ref h0] 49 (42 * k + 1302) (252 * k + 7812) rfl rfl rfl rfl rfl ?_
                          refine jr_callW (rest := []) [.ref h0, .int 0, .int (nI rr), .int 1, .int 10, .int (nI k)] CC (jd ddL_isGrouped 30 rfl) (jy_L_143 CC) (k_L_grouped0 l t hfl h0 x1 x2 x3 x4 x5 x6 fi M ca cg ad K m8 (nI rr) 1 10 (nI k) hM1 hm8 hK) ([0, 1, 2] ++ (List.range 32).map (fun i => 3 + i)) (jpool_isC 3 rfl (is := [0, 1, 2]) rfl (by decide)) (by decide) rfl rfl ⟨by decide, Nat.le_of_ble_eq_true rfl, show (42 * k + 1302) + 4 ≤ 2035 from by omega, show (252 * k + 7812) + 24 ≤ 12210 from by omega⟩ (Nat.le_of_ble_eq_true rfl) (by rintro v u h; rcases h with ⟨rfl, rfl⟩ <;> exact jpool_same rfl) (fun _ _ h => h.elim) (fun _ _ h => h.elim) (fun v u h => ?_)
                          rcases h with ⟨rfl, rfl⟩
                          refine jr_ws (jput [(h0, .inr (9, [.ref x1, .ref x2, .ref x3, .ref x4, .ref x5, .ref x6, .int fi])), (x2, .inr (5, jmem M ca cg)), (ca, .inl (t 2, 8, .inr (.inr (.inr (.inr (jcaps ad))))))] [0, 1, 2] [(h0, .inr (9, [.ref x1, .ref x2, .ref x3, .ref x4, .ref x5, .ref x6, .int fi])), (x2, .inr (5, jmem M ca cg)), (ca, .inl (t 2, 8, .inr (.inr (.inr (.inr (jcaps ad))))))] ++ jpool t ad K) (jpool_after 3 rfl rfl rfl (by decide)) ?_
                          refine jr_norm (([(h0, .inr (9, [.ref x1, .ref x2, .ref x3, .ref x4, .ref x5, .ref x6, .int fi])), (x2, .inr (5, jmem M ca cg)), (ca, .inl (t 2, 8, .inr (.inr (.inr (.inr (jcaps ad))))))] : va_W) ++ jpool t ad K) [.int (wP (eGrp (M 1) (nI rr) (K (nI rr).toNatClampNeg).2.2.1 1 10 (nI k)) (cLow (K (nI rr).toNatClampNeg) 1 10 (nI k)) (-200) (-300) 0 0)] 52 (42 * k + 1306) (252 * k + 7836) rfl rfl rfl rfl rfl ?_
                          refine jr_st [.int lo] (jst1 (e1)) ?_
                          refine jr_istore [(7, .int lo), (0, .ref h0), (1, .int (nI rr)), (2, .int (nI nn)), (3, .int 1), (4, .int 10), (5, .int (nI ((nn + 10 - 1) / 10))), (6, .int (nI k))] CC (jd ddL_isGrouped 31 rfl) (by decide) rfl ?_
                          refine jr_aload_n CC (jd ddL_isGrouped 32 rfl) 1 rfl ?_
                          refine jr_iconst (v := 1) CC (jd ddL_isGrouped 33 rfl) (by decide) ?_
                          refine jr_iload_n CC (jd ddL_isGrouped 34 rfl) 2 rfl ?_
                          refine jr_iconst (v := 1) CC (jd ddL_isGrouped 35 rfl) (by decide) ?_
                          refine jr_iload CC (jd ddL_isGrouped 36 rfl) 5 rfl ?_
                          refine jr_iload CC (jd ddL_isGrouped 37 rfl) 7 rfl ?_
                          refine jr_norm (([(h0, .inr (9, [.ref x1, .ref x2, .ref x3, .ref x4, .ref x5, .ref x6, .int fi])), (x2, .inr (5, jmem M ca cg)), (ca, .inl (t 2, 8, .inr (.inr (.inr (.inr (jcaps ad))))))] : va_W) ++ jpool t ad K) [.int (nI k), .int 10, .int 1, .int (nI rr), .int 1, .ref h0] 62 (42 * k + 1306) (252 * k + 7836) rfl rfl rfl rfl rfl ?_
                          refine jr_callW (rest := []) [.ref h0, .int 1, .int (nI rr), .int 1, .int 10, .int (nI k)] CC (jd ddL_isGrouped 38 rfl) (jy_L_143 CC) (k_L_grouped1 l t hfl h0 x1 x2 x3 x4 x5 x6 fi M ca cg ad K m8 (nI rr) 1 10 (nI k) hM1 hm8 hK) ([0, 1, 2] ++ (List.range 32).map (fun i => 3 + i)) (jpool_isC 3 rfl (is := [0, 1, 2]) rfl (by decide)) (by decide) rfl rfl ⟨by decide, Nat.le_of_ble_eq_true rfl, show (42 * k + 1306) + 4 ≤ 2035 from by omega, show (252 * k + 7836) + 24 ≤ 12210 from by omega⟩ (Nat.le_of_ble_eq_true rfl) (by rintro v u h; rcases h with ⟨rfl, rfl⟩ <;> exact jpool_same rfl) (fun _ _ h => h.elim) (fun _ _ h => h.elim) (fun v u h => ?_)
                          rcases h with ⟨rfl, rfl⟩
                          refine jr_ws (jput [(h0, .inr (9, [.ref x1, .ref x2, .ref x3, .ref x4, .ref x5, .ref x6, .int fi])), (x2, .inr (5, jmem M ca cg)), (ca, .inl (t 2, 8, .inr (.inr (.inr (.inr (jcaps ad))))))] [0, 1, 2] [(h0, .inr (9, [.ref x1, .ref x2, .ref x3, .ref x4, .ref x5, .ref x6, .int fi])), (x2, .inr (5, jmem M ca cg)), (ca, .inl (t 2, 8, .inr (.inr (.inr (.inr (jcaps ad))))))] ++ jpool t ad K) (jpool_after 3 rfl rfl rfl (by decide)) ?_
                          refine jr_norm (([(h0, .inr (9, [.ref x1, .ref x2, .ref x3, .ref x4, .ref x5, .ref x6, .int fi])), (x2, .inr (5, jmem M ca cg)), (ca, .inl (t 2, 8, .inr (.inr (.inr (.inr (jcaps ad))))))] : va_W) ++ jpool t ad K) [.int (wP (eGrp (M 1) (nI rr) (K (nI rr).toNatClampNeg).2.2.1 1 10 (nI k)) (cHigh (K (nI rr).toNatClampNeg) 1 10 (nI k)) (-200) (-300) 0 0)] 65 (42 * k + 1310) (252 * k + 7860) rfl rfl rfl rfl rfl ?_
                          refine jr_st [.int hi] (jst1 (e2)) ?_
                          refine jr_istore [(8, .int hi), (7, .int lo), (0, .ref h0), (1, .int (nI rr)), (2, .int (nI nn)), (3, .int 1), (4, .int 10), (5, .int (nI ((nn + 10 - 1) / 10))), (6, .int (nI k))] CC (jd ddL_isGrouped 39 rfl) (by decide) rfl ?_
                          refine jr_aload_n CC (jd ddL_isGrouped 40 rfl) 2 rfl ?_
                          refine jr_iconst (v := 2) CC (jd ddL_isGrouped 41 rfl) (by decide) ?_
                          refine jr_iload_n CC (jd ddL_isGrouped 42 rfl) 3 rfl ?_
                          refine jr_iconst (v := 1) CC (jd ddL_isGrouped 43 rfl) (by decide) ?_
                          refine jr_iload CC (jd ddL_isGrouped 44 rfl) 6 rfl ?_
                          refine jr_iload CC (jd ddL_isGrouped 45 rfl) 8 rfl ?_
                          refine jr_norm (([(h0, .inr (9, [.ref x1, .ref x2, .ref x3, .ref x4, .ref x5, .ref x6, .int fi])), (x2, .inr (5, jmem M ca cg)), (ca, .inl (t 2, 8, .inr (.inr (.inr (.inr (jcaps ad))))))] : va_W) ++ jpool t ad K) [.int (nI k), .int 10, .int 1, .int (nI rr), .int 2, .ref h0] 75 (42 * k + 1310) (252 * k + 7860) rfl rfl rfl rfl rfl ?_
                          refine jr_callW (rest := []) [.ref h0, .int 2, .int (nI rr), .int 1, .int 10, .int (nI k)] CC (jd ddL_isGrouped 46 rfl) (jy_L_143 CC) (k_L_grouped2 l t hfl h0 x1 x2 x3 x4 x5 x6 fi M ca cg ad K m8 (nI rr) 1 10 (nI k) hM1 hm8 hK) ([0, 1, 2] ++ (List.range 32).map (fun i => 3 + i)) (jpool_isC 3 rfl (is := [0, 1, 2]) rfl (by decide)) (by decide) rfl rfl ⟨by decide, Nat.le_of_ble_eq_true rfl, show (42 * k + 1310) + 4 ≤ 2035 from by omega, show (252 * k + 7860) + 24 ≤ 12210 from by omega⟩ (Nat.le_of_ble_eq_true rfl) (by rintro v u h; rcases h with ⟨rfl, rfl⟩ <;> exact jpool_same rfl) (fun _ _ h => h.elim) (fun _ _ h => h.elim) (fun v u h => ?_)
                          rcases h with ⟨rfl, rfl⟩
                          refine jr_ws (jput [(h0, .inr (9, [.ref x1, .ref x2, .ref x3, .ref x4, .ref x5, .ref x6, .int fi])), (x2, .inr (5, jmem M ca cg)), (ca, .inl (t 2, 8, .inr (.inr (.inr (.inr (jcaps ad))))))] [0, 1, 2] [(h0, .inr (9, [.ref x1, .ref x2, .ref x3, .ref x4, .ref x5, .ref x6, .int fi])), (x2, .inr (5, jmem M ca cg)), (ca, .inl (t 2, 8, .inr (.inr (.inr (.inr (jcaps ad))))))] ++ jpool t ad K) (jpool_after 3 rfl rfl rfl (by decide)) ?_
                          refine jr_norm (([(h0, .inr (9, [.ref x1, .ref x2, .ref x3, .ref x4, .ref x5, .ref x6, .int fi])), (x2, .inr (5, jmem M ca cg)), (ca, .inl (t 2, 8, .inr (.inr (.inr (.inr (jcaps ad))))))] : va_W) ++ jpool t ad K) [.int (wP (eGrp (M 1) (nI rr) (K (nI rr).toNatClampNeg).2.2.1 1 10 (nI k)) (cMean (K (nI rr).toNatClampNeg) 1 10 (nI k)) (-200) (-300) 0 0)] 78 (42 * k + 1314) (252 * k + 7884) rfl rfl rfl rfl rfl ?_
                          refine jr_st [.int mn] (jst1 (e3)) ?_
                          refine jr_istore [(9, .int mn), (8, .int hi), (7, .int lo), (0, .ref h0), (1, .int (nI rr)), (2, .int (nI nn)), (3, .int 1), (4, .int 10), (5, .int (nI ((nn + 10 - 1) / 10))), (6, .int (nI k))] CC (jd ddL_isGrouped 47 rfl) (by decide) rfl ?_
                          refine jr_iconst (v := 0) CC (jd ddL_isGrouped 48 rfl) (by decide) ?_
                          refine jr_istore [(10, .int 0), (9, .int mn), (8, .int hi), (7, .int lo), (0, .ref h0), (1, .int (nI rr)), (2, .int (nI nn)), (3, .int 1), (4, .int 10), (5, .int (nI ((nn + 10 - 1) / 10))), (6, .int (nI k))] CC (jd ddL_isGrouped 49 rfl) (by decide) rfl ?_
                          refine jr_iconst (v := 0) CC (jd ddL_isGrouped 50 rfl) (by decide) ?_
                          refine jr_istore [(11, .int 0), (10, .int 0), (9, .int mn), (8, .int hi), (7, .int lo), (0, .ref h0), (1, .int (nI rr)), (2, .int (nI nn)), (3, .int 1), (4, .int 10), (5, .int (nI ((nn + 10 - 1) / 10))), (6, .int (nI k))] CC (jd ddL_isGrouped 51 rfl) (by decide) rfl ?_
                          refine jr_iload CC (jd ddL_isGrouped 52 rfl) 9 rfl ?_
                          refine jr_iload CC (jd ddL_isGrouped 53 rfl) 11 rfl ?_
                          refine jr_imul CC (jd ddL_isGrouped 54 rfl) ?_
                          refine jr_st [.int (nI (10 * k))] (jst1 (pk_mul 10 k)) ?_
                          refine jr_istore [(12, .int (nI (10 * k))), (11, .int 0), (10, .int 0), (9, .int mn), (8, .int hi), (7, .int lo), (0, .ref h0), (1, .int (nI rr)), (2, .int (nI nn)), (3, .int 1), (4, .int 10), (5, .int (nI ((nn + 10 - 1) / 10))), (6, .int (nI k))] CC (jd ddL_isGrouped 55 rfl) (by decide) rfl ?_
                          have hL62 : ∀ (d9 : Nat) (i9 : Nat) (sm : Int32) (hm : i9 ≤ (min (10 * k + 10) nn - 10 * k)) (hq : jsum (jat (K rr) 1) (min (10 * k + 10) nn - 10 * k) (10 * k) 0 = jsum (jat (K rr) 1) ((min (10 * k + 10) nn - 10 * k) - i9) (10 * k + i9) sm), (min (10 * k + 10) nn - 10 * k) - i9 < d9 → J p l e { frames := 11, cells := 2035, slots := 12210, locals := 203 } s m args below meth c D A 14 Q (([(h0, .inr (9, [.ref x1, .ref x2, .ref x3, .ref x4, .ref x5, .ref x6, .int fi])), (x2, .inr (5, jmem M ca cg)), (ca, .inl (t 2, 8, .inr (.inr (.inr (.inr (jcaps ad))))))] : va_W) ++ jpool t ad K) [(0, .ref h0), (1, .int (nI rr)), (2, .int (nI nn)), (3, .int 1), (4, .int 10), (5, .int (nI ((nn + 10 - 1) / 10))), (6, .int (nI k)), (7, .int lo), (8, .int hi), (9, .int mn), (10, .int sm), (11, .int (nI i9)), (12, .int (nI (10 * k + i9)))] 93 [] (42 * k + 3 * i9 + 1314) (252 * k + 18 * i9 + 7884) := by
                            intro d9
                            induction d9 with
                            | zero => intro i9 sm hm hq hmu; exact absurd hmu (Nat.not_lt_zero _)
                            | succ d9 ih93 =>
                              intro i9 sm hm hq hmu
                              refine jr_iload CC (jd ddL_isGrouped 56 rfl) 12 rfl ?_
                              refine jr_iload CC (jd ddL_isGrouped 57 rfl) 4 rfl ?_
                              refine jr_iload CC (jd ddL_isGrouped 58 rfl) 6 rfl ?_
                              refine jr_imul CC (jd ddL_isGrouped 59 rfl) ?_
                              refine jr_st [.int (nI (10 * k)), .int (nI (10 * k + i9))] (jst1 (pk_mul 10 k)) ?_
                              refine jr_iload CC (jd ddL_isGrouped 60 rfl) 4 rfl ?_
                              refine jr_iadd CC (jd ddL_isGrouped 61 rfl) ?_
                              refine jr_st [.int (nI ((10 * k) + 10)), .int (nI (10 * k + i9))] (jst1 (nI_add (10 * k) 10)) ?_
                              refine jr_icmp_ge 162 CC (jd ddL_isGrouped 62 rfl) (by decide) (fun c63 => ?_) (fun c63 => ?_)
                              · have n63 := jle_of (a := ((10 * k) + 10)) (b := (10 * k + i9)) c63 (by omega) (by omega)
                                refine jr_widen (k' := (42 * k + 1344)) (n' := (252 * k + 8064)) (by omega) (by omega) ?_
                                have hmN : i9 = (min (10 * k + 10) nn - 10 * k) := by omega
                                have hsm : jsum (jat (K rr) 1) (min (10 * k + 10) nn - 10 * k) (10 * k) 0 = sm := hq.trans (by rw [show (min (10 * k + 10) nn - 10 * k) - i9 = 0 by omega]; rfl)
                                refine jr_iload_n CC (jd ddL_isGrouped 91 rfl) 3 rfl ?_
                                refine jr_if_eq 206 CC (jd ddL_isGrouped 92 rfl) (by decide) (fun h => absurd h (by decide)) (fun _ => ?_)
                                refine jr_iload CC (jd ddL_isGrouped 93 rfl) 7 rfl ?_
                                refine jr_pc (pc' := 168) rfl ?_
                                refine jr_iload CC (jd ddL_isGrouped 94 rfl) 9 rfl ?_
                                refine jr_icmp_gt 206 CC (jd ddL_isGrouped 95 rfl) (by decide) (fun h => absurd h f2) (fun _ => ?_)
                                refine jr_iload CC (jd ddL_isGrouped 96 rfl) 9 rfl ?_
                                refine jr_iload CC (jd ddL_isGrouped 97 rfl) 8 rfl ?_
                                refine jr_icmp_gt 206 CC (jd ddL_isGrouped 98 rfl) (by decide) (fun h => absurd h f3) (fun _ => ?_)
                                refine jr_iload CC (jd ddL_isGrouped 99 rfl) 9 rfl ?_
                                refine jr_iload CC (jd ddL_isGrouped 100 rfl) 11 rfl ?_
                                refine jr_imul CC (jd ddL_isGrouped 101 rfl) ?_
                                refine jr_iload CC (jd ddL_isGrouped 102 rfl) 10 rfl ?_
                                refine jr_icmp_gt 206 CC (jd ddL_isGrouped 103 rfl) (by decide) (fun h => absurd h (by rw [hmN, ← hsm]; exact f4)) (fun _ => ?_)
                                refine jr_pc (pc' := 190) rfl ?_
                                refine jr_iload CC (jd ddL_isGrouped 104 rfl) 10 rfl ?_
                                refine jr_iload CC (jd ddL_isGrouped 105 rfl) 9 rfl ?_
                                refine jr_iconst (v := 1) CC (jd ddL_isGrouped 106 rfl) (by decide) ?_
                                refine jr_iadd CC (jd ddL_isGrouped 107 rfl) ?_
                                refine jr_iload CC (jd ddL_isGrouped 108 rfl) 11 rfl ?_
                                refine jr_imul CC (jd ddL_isGrouped 109 rfl) ?_
                                refine jr_icmp_ge 206 CC (jd ddL_isGrouped 110 rfl) (by decide) (fun h => absurd h (by rw [hmN, ← hsm]; exact f5)) (fun _ => ?_)
                                refine jr_iconst (v := 1) CC (jd ddL_isGrouped 111 rfl) (by decide) ?_
                                refine jr_goto 207 CC (jd ddL_isGrouped 112 rfl) (by decide) ?_
                                refine jr_istore_n 3 [(3, .int 1), (0, .ref h0), (1, .int (nI rr)), (2, .int (nI nn)), (4, .int 10), (5, .int (nI ((nn + 10 - 1) / 10))), (6, .int (nI k)), (7, .int lo), (8, .int hi), (9, .int mn), (10, .int sm), (11, .int (nI i9)), (12, .int (nI (10 * k + i9)))] CC (jd ddL_isGrouped 114 rfl) rfl (by decide) rfl ?_
                                refine jr_iinc [(6, .int (nI (k + 1))), (3, .int 1), (0, .ref h0), (1, .int (nI rr)), (2, .int (nI nn)), (4, .int 10), (5, .int (nI ((nn + 10 - 1) / 10))), (7, .int lo), (8, .int hi), (9, .int mn), (10, .int sm), (11, .int (nI i9)), (12, .int (nI (10 * k + i9)))] CC (jd ddL_isGrouped 115 rfl) 6 rfl (nI_1 _) (by decide) rfl ?_
                                refine jr_goto 30 CC (jd ddL_isGrouped 116 rfl) (by decide) ?_
                                refine jr_norm (([(h0, .inr (9, [.ref x1, .ref x2, .ref x3, .ref x4, .ref x5, .ref x6, .int fi])), (x2, .inr (5, jmem M ca cg)), (ca, .inl (t 2, 8, .inr (.inr (.inr (.inr (jcaps ad))))))] : va_W) ++ jpool t ad K) [] 30 (42 * k + 1344) (252 * k + 8064) rfl rfl rfl rfl rfl ?_
                                refine jr_lv [2, 3, 4, 1, 5, 6, 0] [(0, .ref h0), (1, .int (nI rr)), (2, .int (nI nn)), (3, .int 1), (4, .int 10), (5, .int (nI ((nn + 10 - 1) / 10))), (6, .int (nI (k + 1)))] rfl ?_
                                refine jr_widen (k' := (42 * (k + 1) + 1302)) (n' := (252 * (k + 1) + 7812)) (by omega) (by omega) ?_
                                exact ih30 (k + 1) (by omega) (by omega)
                              · have n63 := jle_not (a := ((10 * k) + 10)) (b := (10 * k + i9)) c63 (by omega) (by omega)
                                refine jr_iload CC (jd ddL_isGrouped 63 rfl) 12 rfl ?_
                                refine jr_iload_n CC (jd ddL_isGrouped 64 rfl) 2 rfl ?_
                                refine jr_icmp_ge 162 CC (jd ddL_isGrouped 65 rfl) (by decide) (fun c65 => ?_) (fun c65 => ?_)
                                · have n65 := jle_of (a := nn) (b := (10 * k + i9)) c65 (by omega) (by omega)
                                  refine jr_widen (k' := (42 * k + 1344)) (n' := (252 * k + 8064)) (by omega) (by omega) ?_
                                  have hmN : i9 = (min (10 * k + 10) nn - 10 * k) := by omega
                                  have hsm : jsum (jat (K rr) 1) (min (10 * k + 10) nn - 10 * k) (10 * k) 0 = sm := hq.trans (by rw [show (min (10 * k + 10) nn - 10 * k) - i9 = 0 by omega]; rfl)
                                  refine jr_pc (pc' := 162) rfl ?_
                                  refine jr_iload_n CC (jd ddL_isGrouped 91 rfl) 3 rfl ?_
                                  refine jr_if_eq 206 CC (jd ddL_isGrouped 92 rfl) (by decide) (fun h => absurd h (by decide)) (fun _ => ?_)
                                  refine jr_iload CC (jd ddL_isGrouped 93 rfl) 7 rfl ?_
                                  refine jr_iload CC (jd ddL_isGrouped 94 rfl) 9 rfl ?_
                                  refine jr_icmp_gt 206 CC (jd ddL_isGrouped 95 rfl) (by decide) (fun h => absurd h f2) (fun _ => ?_)
                                  refine jr_iload CC (jd ddL_isGrouped 96 rfl) 9 rfl ?_
                                  refine jr_iload CC (jd ddL_isGrouped 97 rfl) 8 rfl ?_
                                  refine jr_icmp_gt 206 CC (jd ddL_isGrouped 98 rfl) (by decide) (fun h => absurd h f3) (fun _ => ?_)
                                  refine jr_iload CC (jd ddL_isGrouped 99 rfl) 9 rfl ?_
                                  refine jr_iload CC (jd ddL_isGrouped 100 rfl) 11 rfl ?_
                                  refine jr_pc (pc' := 184) rfl ?_
                                  refine jr_imul CC (jd ddL_isGrouped 101 rfl) ?_
                                  refine jr_iload CC (jd ddL_isGrouped 102 rfl) 10 rfl ?_
                                  refine jr_icmp_gt 206 CC (jd ddL_isGrouped 103 rfl) (by decide) (fun h => absurd h (by rw [hmN, ← hsm]; exact f4)) (fun _ => ?_)
                                  refine jr_iload CC (jd ddL_isGrouped 104 rfl) 10 rfl ?_
                                  refine jr_iload CC (jd ddL_isGrouped 105 rfl) 9 rfl ?_
                                  refine jr_iconst (v := 1) CC (jd ddL_isGrouped 106 rfl) (by decide) ?_
                                  refine jr_iadd CC (jd ddL_isGrouped 107 rfl) ?_
                                  refine jr_iload CC (jd ddL_isGrouped 108 rfl) 11 rfl ?_
                                  refine jr_imul CC (jd ddL_isGrouped 109 rfl) ?_
                                  refine jr_icmp_ge 206 CC (jd ddL_isGrouped 110 rfl) (by decide) (fun h => absurd h (by rw [hmN, ← hsm]; exact f5)) (fun _ => ?_)
                                  refine jr_pc (pc' := 202) rfl ?_
                                  refine jr_iconst (v := 1) CC (jd ddL_isGrouped 111 rfl) (by decide) ?_
                                  refine jr_goto 207 CC (jd ddL_isGrouped 112 rfl) (by decide) ?_
                                  refine jr_istore_n 3 [(3, .int 1), (0, .ref h0), (1, .int (nI rr)), (2, .int (nI nn)), (4, .int 10), (5, .int (nI ((nn + 10 - 1) / 10))), (6, .int (nI k)), (7, .int lo), (8, .int hi), (9, .int mn), (10, .int sm), (11, .int (nI i9)), (12, .int (nI (10 * k + i9)))] CC (jd ddL_isGrouped 114 rfl) rfl (by decide) rfl ?_
                                  refine jr_iinc [(6, .int (nI (k + 1))), (3, .int 1), (0, .ref h0), (1, .int (nI rr)), (2, .int (nI nn)), (4, .int 10), (5, .int (nI ((nn + 10 - 1) / 10))), (7, .int lo), (8, .int hi), (9, .int mn), (10, .int sm), (11, .int (nI i9)), (12, .int (nI (10 * k + i9)))] CC (jd ddL_isGrouped 115 rfl) 6 rfl (nI_1 _) (by decide) rfl ?_
                                  refine jr_goto 30 CC (jd ddL_isGrouped 116 rfl) (by decide) ?_
                                  refine jr_norm (([(h0, .inr (9, [.ref x1, .ref x2, .ref x3, .ref x4, .ref x5, .ref x6, .int fi])), (x2, .inr (5, jmem M ca cg)), (ca, .inl (t 2, 8, .inr (.inr (.inr (.inr (jcaps ad))))))] : va_W) ++ jpool t ad K) [] 30 (42 * k + 1344) (252 * k + 8064) rfl rfl rfl rfl rfl ?_
                                  refine jr_lv [2, 3, 4, 1, 5, 6, 0] [(0, .ref h0), (1, .int (nI rr)), (2, .int (nI nn)), (3, .int 1), (4, .int 10), (5, .int (nI ((nn + 10 - 1) / 10))), (6, .int (nI (k + 1)))] rfl ?_
                                  refine jr_widen (k' := (42 * (k + 1) + 1302)) (n' := (252 * (k + 1) + 7812)) (by omega) (by omega) ?_
                                  exact ih30 (k + 1) (by omega) (by omega)
                                · have n65 := jle_not (a := nn) (b := (10 * k + i9)) c65 (by omega) (by omega)
                                  refine jr_pc (pc' := 112) rfl ?_
                                  refine jr_aload_n CC (jd ddL_isGrouped 66 rfl) 0 rfl ?_
                                  refine jr_iload_n CC (jd ddL_isGrouped 67 rfl) 1 rfl ?_
                                  refine jr_iconst (v := 1) CC (jd ddL_isGrouped 68 rfl) (by decide) ?_
                                  refine jr_iload CC (jd ddL_isGrouped 69 rfl) 12 rfl ?_
                                  refine jr_norm (([(h0, .inr (9, [.ref x1, .ref x2, .ref x3, .ref x4, .ref x5, .ref x6, .int fi])), (x2, .inr (5, jmem M ca cg)), (ca, .inl (t 2, 8, .inr (.inr (.inr (.inr (jcaps ad))))))] : va_W) ++ jpool t ad K) [.int (nI (10 * k + i9)), .int 1, .int (nI rr), .ref h0] 117 (42 * k + 3 * i9 + 1314) (252 * k + 18 * i9 + 7884) rfl rfl rfl rfl rfl ?_
                                  refine jr_callW (rest := []) [.ref h0, .int (nI rr), .int 1, .int (nI (10 * k + i9))] CC (jd ddL_isGrouped 70 rfl) (jy_L_117 CC) (k_L_value l t hfl h0 x1 x2 x3 x4 x5 x6 fi M ca cg ad K m8 (nI rr) 1 (nI (10 * k + i9)) hM1 hm8 hK) ([0, 1, 2] ++ (List.range 32).map (fun i => 3 + i)) (jpool_isC 3 rfl (is := [0, 1, 2]) rfl (by decide)) (by decide) rfl rfl ⟨by decide, Nat.le_of_ble_eq_true rfl, show (42 * k + 3 * i9 + 1314) + 3 ≤ 2035 from by omega, show (252 * k + 18 * i9 + 7884) + 18 ≤ 12210 from by omega⟩ (Nat.le_of_ble_eq_true rfl) (by rintro v u h; rcases h with ⟨rfl, rfl⟩ <;> exact jpool_same rfl) (fun _ _ h => h.elim) (fun _ _ h => h.elim) (fun v u h => ?_)
                                  rcases h with ⟨rfl, rfl⟩
                                  refine jr_ws (jput [(h0, .inr (9, [.ref x1, .ref x2, .ref x3, .ref x4, .ref x5, .ref x6, .int fi])), (x2, .inr (5, jmem M ca cg)), (ca, .inl (t 2, 8, .inr (.inr (.inr (.inr (jcaps ad))))))] [0, 1, 2] [(h0, .inr (9, [.ref x1, .ref x2, .ref x3, .ref x4, .ref x5, .ref x6, .int fi])), (x2, .inr (5, jmem M ca cg)), (ca, .inl (t 2, 8, .inr (.inr (.inr (.inr (jcaps ad))))))] ++ jpool t ad K) (jpool_after 3 rfl rfl rfl (by decide)) ?_
                                  refine jr_norm (([(h0, .inr (9, [.ref x1, .ref x2, .ref x3, .ref x4, .ref x5, .ref x6, .int fi])), (x2, .inr (5, jmem M ca cg)), (ca, .inl (t 2, 8, .inr (.inr (.inr (.inr (jcaps ad))))))] : va_W) ++ jpool t ad K) [.int (wP (eVal (M 1) (nI rr) (K (nI rr).toNatClampNeg).2.2.1 (nI (10 * k + i9)) 1) (jat (K (nI rr).toNatClampNeg) 1 (nI (10 * k + i9)).toNatClampNeg) (-300) (-200) 0 0)] 120 (42 * k + 3 * i9 + 1317) (252 * k + 18 * i9 + 7902) rfl rfl rfl rfl rfl ?_
                                  refine jr_st [.int (jat (K rr) 1 (10 * k + i9))] (jst1 (wv_in hM1 hm8 hrr hnn hn49 jin01.2.1 (by omega) _ _ _ _)) ?_
                                  refine jr_istore [(13, .int (jat (K rr) 1 (10 * k + i9))), (0, .ref h0), (1, .int (nI rr)), (2, .int (nI nn)), (3, .int 1), (4, .int 10), (5, .int (nI ((nn + 10 - 1) / 10))), (6, .int (nI k)), (7, .int lo), (8, .int hi), (9, .int mn), (10, .int sm), (11, .int (nI i9)), (12, .int (nI (10 * k + i9)))] CC (jd ddL_isGrouped 71 rfl) (by decide) rfl ?_
                                  refine jr_iload_n CC (jd ddL_isGrouped 72 rfl) 4 rfl ?_
                                  refine jr_if_eq 144 CC (jd ddL_isGrouped 73 rfl) (by decide) (fun h => absurd h (by decide)) (fun _ => ?_)
                                  refine jr_iload CC (jd ddL_isGrouped 74 rfl) 8 rfl ?_
                                  refine jr_iload CC (jd ddL_isGrouped 75 rfl) 0 rfl ?_
                                  refine jr_icmp_gt 144 CC (jd ddL_isGrouped 76 rfl) (by decide) (fun h => absurd h (f1 _ (by omega) (by omega)).1) (fun _ => ?_)
                                  refine jr_iload CC (jd ddL_isGrouped 77 rfl) 0 rfl ?_
                                  refine jr_iload CC (jd ddL_isGrouped 78 rfl) 9 rfl ?_
                                  refine jr_icmp_gt 144 CC (jd ddL_isGrouped 79 rfl) (by decide) (fun h => absurd h (f1 _ (by omega) (by omega)).2) (fun _ => ?_)
                                  refine jr_iconst (v := 1) CC (jd ddL_isGrouped 80 rfl) (by decide) ?_
                                  refine jr_pc (pc' := 141) rfl ?_
                                  refine jr_goto 145 CC (jd ddL_isGrouped 81 rfl) (by decide) ?_
                                  refine jr_istore_n 3 [(3, .int 1), (13, .int (jat (K rr) 1 (10 * k + i9))), (0, .ref h0), (1, .int (nI rr)), (2, .int (nI nn)), (4, .int 10), (5, .int (nI ((nn + 10 - 1) / 10))), (6, .int (nI k)), (7, .int lo), (8, .int hi), (9, .int mn), (10, .int sm), (11, .int (nI i9)), (12, .int (nI (10 * k + i9)))] CC (jd ddL_isGrouped 83 rfl) rfl (by decide) rfl ?_
                                  refine jr_iload CC (jd ddL_isGrouped 84 rfl) 11 rfl ?_
                                  refine jr_iload CC (jd ddL_isGrouped 85 rfl) 1 rfl ?_
                                  refine jr_iadd CC (jd ddL_isGrouped 86 rfl) ?_
                                  refine jr_istore [(10, .int (sm + (jat (K rr) 1 (10 * k + i9)))), (3, .int 1), (13, .int (jat (K rr) 1 (10 * k + i9))), (0, .ref h0), (1, .int (nI rr)), (2, .int (nI nn)), (4, .int 10), (5, .int (nI ((nn + 10 - 1) / 10))), (6, .int (nI k)), (7, .int lo), (8, .int hi), (9, .int mn), (11, .int (nI i9)), (12, .int (nI (10 * k + i9)))] CC (jd ddL_isGrouped 87 rfl) (by decide) rfl ?_
                                  refine jr_iinc [(11, .int (nI (i9 + 1))), (10, .int (sm + (jat (K rr) 1 (10 * k + i9)))), (3, .int 1), (13, .int (jat (K rr) 1 (10 * k + i9))), (0, .ref h0), (1, .int (nI rr)), (2, .int (nI nn)), (4, .int 10), (5, .int (nI ((nn + 10 - 1) / 10))), (6, .int (nI k)), (7, .int lo), (8, .int hi), (9, .int mn), (12, .int (nI (10 * k + i9)))] CC (jd ddL_isGrouped 88 rfl) 12 rfl (nI_1 _) (by decide) rfl ?_
                                  refine jr_iinc [(12, .int (nI (10 * k + i9 + 1))), (11, .int (nI (i9 + 1))), (10, .int (sm + (jat (K rr) 1 (10 * k + i9)))), (3, .int 1), (13, .int (jat (K rr) 1 (10 * k + i9))), (0, .ref h0), (1, .int (nI rr)), (2, .int (nI nn)), (4, .int 10), (5, .int (nI ((nn + 10 - 1) / 10))), (6, .int (nI k)), (7, .int lo), (8, .int hi), (9, .int mn)] CC (jd ddL_isGrouped 89 rfl) 13 rfl (nI_1 _) (by decide) rfl ?_
                                  refine jr_goto 93 CC (jd ddL_isGrouped 90 rfl) (by decide) ?_
                                  refine jr_norm (([(h0, .inr (9, [.ref x1, .ref x2, .ref x3, .ref x4, .ref x5, .ref x6, .int fi])), (x2, .inr (5, jmem M ca cg)), (ca, .inl (t 2, 8, .inr (.inr (.inr (.inr (jcaps ad))))))] : va_W) ++ jpool t ad K) [] 93 (42 * k + 3 * i9 + 1317) (252 * k + 18 * i9 + 7902) rfl rfl rfl rfl rfl ?_
                                  refine jr_lv [5, 6, 7, 3, 8, 9, 10, 11, 12, 13, 2, 1, 0] [(0, .ref h0), (1, .int (nI rr)), (2, .int (nI nn)), (3, .int 1), (4, .int 10), (5, .int (nI ((nn + 10 - 1) / 10))), (6, .int (nI k)), (7, .int lo), (8, .int hi), (9, .int mn), (10, .int (sm + (jat (K rr) 1 (10 * k + i9)))), (11, .int (nI (i9 + 1))), (12, .int (nI (10 * k + (i9 + 1))))] rfl ?_
                                  refine jr_widen (k' := (42 * k + 3 * (i9 + 1) + 1314)) (n' := (252 * k + 18 * (i9 + 1) + 7884)) (by omega) (by omega) ?_
                                  exact ih93 (i9 + 1) (sm + (jat (K rr) 1 (10 * k + i9))) (by omega) (by rw [hq, show (min (10 * k + 10) nn - 10 * k) - i9 = ((min (10 * k + 10) nn - 10 * k) - (i9 + 1)) + 1 by omega]; rfl) (by omega)
                          refine jr_norm (([(h0, .inr (9, [.ref x1, .ref x2, .ref x3, .ref x4, .ref x5, .ref x6, .int fi])), (x2, .inr (5, jmem M ca cg)), (ca, .inl (t 2, 8, .inr (.inr (.inr (.inr (jcaps ad))))))] : va_W) ++ jpool t ad K) [] 93 (42 * k + 1314) (252 * k + 7884) rfl rfl rfl rfl rfl ?_
                          refine jr_lv [6, 7, 8, 9, 10, 11, 12, 5, 4, 3, 2, 1, 0] [(0, .ref h0), (1, .int (nI rr)), (2, .int (nI nn)), (3, .int 1), (4, .int 10), (5, .int (nI ((nn + 10 - 1) / 10))), (6, .int (nI k)), (7, .int lo), (8, .int hi), (9, .int mn), (10, .int 0), (11, .int (nI 0)), (12, .int (nI (10 * k + 0)))] rfl ?_
                          refine jr_widen (k' := (42 * k + 3 * 0 + 1314)) (n' := (252 * k + 18 * 0 + 7884)) (by omega) (by omega) ?_
                          exact hL62 ((min (10 * k + 10) nn - 10 * k) - 0 + 1) 0 0 (Nat.zero_le _) rfl (Nat.lt_succ_self _)
                    refine jr_norm (([(h0, .inr (9, [.ref x1, .ref x2, .ref x3, .ref x4, .ref x5, .ref x6, .int fi])), (x2, .inr (5, jmem M ca cg)), (ca, .inl (t 2, 8, .inr (.inr (.inr (.inr (jcaps ad))))))] : va_W) ++ jpool t ad K) [] 30 1302 7812 rfl rfl rfl rfl rfl ?_
                    refine jr_lv [4, 5, 6, 3, 2, 1, 0] [(0, .ref h0), (1, .int (nI rr)), (2, .int (nI nn)), (3, .int 1), (4, .int 10), (5, .int (nI ((nn + 10 - 1) / 10))), (6, .int (nI 0))] rfl ?_
                    refine jr_widen (k' := (42 * 0 + 1302)) (n' := (252 * 0 + 7812)) (by omega) (by omega) ?_
                    exact hL24 (((nn + 10 - 1) / 10) - 0 + 1) 0 (Nat.zero_le _) (Nat.lt_succ_self _)
                  · have n18 := jle_not (a := ((nn + 7 - 1) / 7)) (b := k) c18 (by omega) (by omega)
                    refine jr_iload_n CC (jd ddL_isGrouped 22 rfl) 3 rfl ?_
                    refine jr_if_eq 214 CC (jd ddL_isGrouped 23 rfl) (by decide) (fun h => absurd h (by decide)) (fun _ => ?_)
                    have hsk : 7 * k < nn := by omega
                    obtain ⟨lo, hi, mn, e1, e2, e3, f1, f2, f3, f4, f5⟩ := grp_all hM1 hm8 hrr hnn hn49 hf (s := 7) (k := k) (by decide) (by decide) hsk
                    refine jr_aload_n CC (jd ddL_isGrouped 24 rfl) 0 rfl ?_
                    refine jr_iconst (v := 0) CC (jd ddL_isGrouped 25 rfl) (by decide) ?_
                    refine jr_iload_n CC (jd ddL_isGrouped 26 rfl) 1 rfl ?_
                    refine jr_iconst (v := 1) CC (jd ddL_isGrouped 27 rfl) (by decide) ?_
                    refine jr_iload CC (jd ddL_isGrouped 28 rfl) 4 rfl ?_
                    refine jr_pc (pc' := 47) rfl ?_
                    refine jr_iload CC (jd ddL_isGrouped 29 rfl) 6 rfl ?_
                    refine jr_norm (([(h0, .inr (9, [.ref x1, .ref x2, .ref x3, .ref x4, .ref x5, .ref x6, .int fi])), (x2, .inr (5, jmem M ca cg)), (ca, .inl (t 2, 8, .inr (.inr (.inr (.inr (jcaps ad))))))] : va_W) ++ jpool t ad K) [.int (nI k), .int 7, .int 1, .int (nI rr), .int 0, .ref h0] 49 (33 * k + 1063) (198 * k + 6378) rfl rfl rfl rfl rfl ?_
                    refine jr_callW (rest := []) [.ref h0, .int 0, .int (nI rr), .int 1, .int 7, .int (nI k)] CC (jd ddL_isGrouped 30 rfl) (jy_L_143 CC) (k_L_grouped0 l t hfl h0 x1 x2 x3 x4 x5 x6 fi M ca cg ad K m8 (nI rr) 1 7 (nI k) hM1 hm8 hK) ([0, 1, 2] ++ (List.range 32).map (fun i => 3 + i)) (jpool_isC 3 rfl (is := [0, 1, 2]) rfl (by decide)) (by decide) rfl rfl ⟨by decide, Nat.le_of_ble_eq_true rfl, show (33 * k + 1063) + 4 ≤ 2035 from by omega, show (198 * k + 6378) + 24 ≤ 12210 from by omega⟩ (Nat.le_of_ble_eq_true rfl) (by rintro v u h; rcases h with ⟨rfl, rfl⟩ <;> exact jpool_same rfl) (fun _ _ h => h.elim) (fun _ _ h => h.elim) (fun v u h => ?_)
                    rcases h with ⟨rfl, rfl⟩
                    refine jr_ws (jput [(h0, .inr (9, [.ref x1, .ref x2, .ref x3, .ref x4, .ref x5, .ref x6, .int fi])), (x2, .inr (5, jmem M ca cg)), (ca, .inl (t 2, 8, .inr (.inr (.inr (.inr (jcaps ad))))))] [0, 1, 2] [(h0, .inr (9, [.ref x1, .ref x2, .ref x3, .ref x4, .ref x5, .ref x6, .int fi])), (x2, .inr (5, jmem M ca cg)), (ca, .inl (t 2, 8, .inr (.inr (.inr (.inr (jcaps ad))))))] ++ jpool t ad K) (jpool_after 3 rfl rfl rfl (by decide)) ?_
                    refine jr_norm (([(h0, .inr (9, [.ref x1, .ref x2, .ref x3, .ref x4, .ref x5, .ref x6, .int fi])), (x2, .inr (5, jmem M ca cg)), (ca, .inl (t 2, 8, .inr (.inr (.inr (.inr (jcaps ad))))))] : va_W) ++ jpool t ad K) [.int (wP (eGrp (M 1) (nI rr) (K (nI rr).toNatClampNeg).2.2.1 1 7 (nI k)) (cLow (K (nI rr).toNatClampNeg) 1 7 (nI k)) (-200) (-300) 0 0)] 52 (33 * k + 1067) (198 * k + 6402) rfl rfl rfl rfl rfl ?_
                    refine jr_st [.int lo] (jst1 (e1)) ?_
                    refine jr_istore [(7, .int lo), (0, .ref h0), (1, .int (nI rr)), (2, .int (nI nn)), (3, .int 1), (4, .int 7), (5, .int (nI ((nn + 7 - 1) / 7))), (6, .int (nI k))] CC (jd ddL_isGrouped 31 rfl) (by decide) rfl ?_
                    refine jr_aload_n CC (jd ddL_isGrouped 32 rfl) 1 rfl ?_
                    refine jr_iconst (v := 1) CC (jd ddL_isGrouped 33 rfl) (by decide) ?_
                    refine jr_iload_n CC (jd ddL_isGrouped 34 rfl) 2 rfl ?_
                    refine jr_iconst (v := 1) CC (jd ddL_isGrouped 35 rfl) (by decide) ?_
                    refine jr_iload CC (jd ddL_isGrouped 36 rfl) 5 rfl ?_
                    refine jr_iload CC (jd ddL_isGrouped 37 rfl) 7 rfl ?_
                    refine jr_norm (([(h0, .inr (9, [.ref x1, .ref x2, .ref x3, .ref x4, .ref x5, .ref x6, .int fi])), (x2, .inr (5, jmem M ca cg)), (ca, .inl (t 2, 8, .inr (.inr (.inr (.inr (jcaps ad))))))] : va_W) ++ jpool t ad K) [.int (nI k), .int 7, .int 1, .int (nI rr), .int 1, .ref h0] 62 (33 * k + 1067) (198 * k + 6402) rfl rfl rfl rfl rfl ?_
                    refine jr_callW (rest := []) [.ref h0, .int 1, .int (nI rr), .int 1, .int 7, .int (nI k)] CC (jd ddL_isGrouped 38 rfl) (jy_L_143 CC) (k_L_grouped1 l t hfl h0 x1 x2 x3 x4 x5 x6 fi M ca cg ad K m8 (nI rr) 1 7 (nI k) hM1 hm8 hK) ([0, 1, 2] ++ (List.range 32).map (fun i => 3 + i)) (jpool_isC 3 rfl (is := [0, 1, 2]) rfl (by decide)) (by decide) rfl rfl ⟨by decide, Nat.le_of_ble_eq_true rfl, show (33 * k + 1067) + 4 ≤ 2035 from by omega, show (198 * k + 6402) + 24 ≤ 12210 from by omega⟩ (Nat.le_of_ble_eq_true rfl) (by rintro v u h; rcases h with ⟨rfl, rfl⟩ <;> exact jpool_same rfl) (fun _ _ h => h.elim) (fun _ _ h => h.elim) (fun v u h => ?_)
                    rcases h with ⟨rfl, rfl⟩
                    refine jr_ws (jput [(h0, .inr (9, [.ref x1, .ref x2, .ref x3, .ref x4, .ref x5, .ref x6, .int fi])), (x2, .inr (5, jmem M ca cg)), (ca, .inl (t 2, 8, .inr (.inr (.inr (.inr (jcaps ad))))))] [0, 1, 2] [(h0, .inr (9, [.ref x1, .ref x2, .ref x3, .ref x4, .ref x5, .ref x6, .int fi])), (x2, .inr (5, jmem M ca cg)), (ca, .inl (t 2, 8, .inr (.inr (.inr (.inr (jcaps ad))))))] ++ jpool t ad K) (jpool_after 3 rfl rfl rfl (by decide)) ?_
                    refine jr_norm (([(h0, .inr (9, [.ref x1, .ref x2, .ref x3, .ref x4, .ref x5, .ref x6, .int fi])), (x2, .inr (5, jmem M ca cg)), (ca, .inl (t 2, 8, .inr (.inr (.inr (.inr (jcaps ad))))))] : va_W) ++ jpool t ad K) [.int (wP (eGrp (M 1) (nI rr) (K (nI rr).toNatClampNeg).2.2.1 1 7 (nI k)) (cHigh (K (nI rr).toNatClampNeg) 1 7 (nI k)) (-200) (-300) 0 0)] 65 (33 * k + 1071) (198 * k + 6426) rfl rfl rfl rfl rfl ?_
                    refine jr_st [.int hi] (jst1 (e2)) ?_
                    refine jr_istore [(8, .int hi), (7, .int lo), (0, .ref h0), (1, .int (nI rr)), (2, .int (nI nn)), (3, .int 1), (4, .int 7), (5, .int (nI ((nn + 7 - 1) / 7))), (6, .int (nI k))] CC (jd ddL_isGrouped 39 rfl) (by decide) rfl ?_
                    refine jr_aload_n CC (jd ddL_isGrouped 40 rfl) 2 rfl ?_
                    refine jr_iconst (v := 2) CC (jd ddL_isGrouped 41 rfl) (by decide) ?_
                    refine jr_iload_n CC (jd ddL_isGrouped 42 rfl) 3 rfl ?_
                    refine jr_iconst (v := 1) CC (jd ddL_isGrouped 43 rfl) (by decide) ?_
                    refine jr_iload CC (jd ddL_isGrouped 44 rfl) 6 rfl ?_
                    refine jr_iload CC (jd ddL_isGrouped 45 rfl) 8 rfl ?_
                    refine jr_norm (([(h0, .inr (9, [.ref x1, .ref x2, .ref x3, .ref x4, .ref x5, .ref x6, .int fi])), (x2, .inr (5, jmem M ca cg)), (ca, .inl (t 2, 8, .inr (.inr (.inr (.inr (jcaps ad))))))] : va_W) ++ jpool t ad K) [.int (nI k), .int 7, .int 1, .int (nI rr), .int 2, .ref h0] 75 (33 * k + 1071) (198 * k + 6426) rfl rfl rfl rfl rfl ?_
                    refine jr_callW (rest := []) [.ref h0, .int 2, .int (nI rr), .int 1, .int 7, .int (nI k)] CC (jd ddL_isGrouped 46 rfl) (jy_L_143 CC) (k_L_grouped2 l t hfl h0 x1 x2 x3 x4 x5 x6 fi M ca cg ad K m8 (nI rr) 1 7 (nI k) hM1 hm8 hK) ([0, 1, 2] ++ (List.range 32).map (fun i => 3 + i)) (jpool_isC 3 rfl (is := [0, 1, 2]) rfl (by decide)) (by decide) rfl rfl ⟨by decide, Nat.le_of_ble_eq_true rfl, show (33 * k + 1071) + 4 ≤ 2035 from by omega, show (198 * k + 6426) + 24 ≤ 12210 from by omega⟩ (Nat.le_of_ble_eq_true rfl) (by rintro v u h; rcases h with ⟨rfl, rfl⟩ <;> exact jpool_same rfl) (fun _ _ h => h.elim) (fun _ _ h => h.elim) (fun v u h => ?_)
                    rcases h with ⟨rfl, rfl⟩
                    refine jr_ws (jput [(h0, .inr (9, [.ref x1, .ref x2, .ref x3, .ref x4, .ref x5, .ref x6, .int fi])), (x2, .inr (5, jmem M ca cg)), (ca, .inl (t 2, 8, .inr (.inr (.inr (.inr (jcaps ad))))))] [0, 1, 2] [(h0, .inr (9, [.ref x1, .ref x2, .ref x3, .ref x4, .ref x5, .ref x6, .int fi])), (x2, .inr (5, jmem M ca cg)), (ca, .inl (t 2, 8, .inr (.inr (.inr (.inr (jcaps ad))))))] ++ jpool t ad K) (jpool_after 3 rfl rfl rfl (by decide)) ?_
                    refine jr_norm (([(h0, .inr (9, [.ref x1, .ref x2, .ref x3, .ref x4, .ref x5, .ref x6, .int fi])), (x2, .inr (5, jmem M ca cg)), (ca, .inl (t 2, 8, .inr (.inr (.inr (.inr (jcaps ad))))))] : va_W) ++ jpool t ad K) [.int (wP (eGrp (M 1) (nI rr) (K (nI rr).toNatClampNeg).2.2.1 1 7 (nI k)) (cMean (K (nI rr).toNatClampNeg) 1 7 (nI k)) (-200) (-300) 0 0)] 78 (33 * k + 1075) (198 * k + 6450) rfl rfl rfl rfl rfl ?_
                    refine jr_st [.int mn] (jst1 (e3)) ?_
                    refine jr_istore [(9, .int mn), (8, .int hi), (7, .int lo), (0, .ref h0), (1, .int (nI rr)), (2, .int (nI nn)), (3, .int 1), (4, .int 7), (5, .int (nI ((nn + 7 - 1) / 7))), (6, .int (nI k))] CC (jd ddL_isGrouped 47 rfl) (by decide) rfl ?_
                    refine jr_iconst (v := 0) CC (jd ddL_isGrouped 48 rfl) (by decide) ?_
                    refine jr_istore [(10, .int 0), (9, .int mn), (8, .int hi), (7, .int lo), (0, .ref h0), (1, .int (nI rr)), (2, .int (nI nn)), (3, .int 1), (4, .int 7), (5, .int (nI ((nn + 7 - 1) / 7))), (6, .int (nI k))] CC (jd ddL_isGrouped 49 rfl) (by decide) rfl ?_
                    refine jr_iconst (v := 0) CC (jd ddL_isGrouped 50 rfl) (by decide) ?_
                    refine jr_istore [(11, .int 0), (10, .int 0), (9, .int mn), (8, .int hi), (7, .int lo), (0, .ref h0), (1, .int (nI rr)), (2, .int (nI nn)), (3, .int 1), (4, .int 7), (5, .int (nI ((nn + 7 - 1) / 7))), (6, .int (nI k))] CC (jd ddL_isGrouped 51 rfl) (by decide) rfl ?_
                    refine jr_iload CC (jd ddL_isGrouped 52 rfl) 9 rfl ?_
                    refine jr_iload CC (jd ddL_isGrouped 53 rfl) 11 rfl ?_
                    refine jr_imul CC (jd ddL_isGrouped 54 rfl) ?_
                    refine jr_st [.int (nI (7 * k))] (jst1 (pk_mul 7 k)) ?_
                    refine jr_istore [(12, .int (nI (7 * k))), (11, .int 0), (10, .int 0), (9, .int mn), (8, .int hi), (7, .int lo), (0, .ref h0), (1, .int (nI rr)), (2, .int (nI nn)), (3, .int 1), (4, .int 7), (5, .int (nI ((nn + 7 - 1) / 7))), (6, .int (nI k))] CC (jd ddL_isGrouped 55 rfl) (by decide) rfl ?_
                    have hL69 : ∀ (d9 : Nat) (i9 : Nat) (sm : Int32) (hm : i9 ≤ (min (7 * k + 7) nn - 7 * k)) (hq : jsum (jat (K rr) 1) (min (7 * k + 7) nn - 7 * k) (7 * k) 0 = jsum (jat (K rr) 1) ((min (7 * k + 7) nn - 7 * k) - i9) (7 * k + i9) sm), (min (7 * k + 7) nn - 7 * k) - i9 < d9 → J p l e { frames := 11, cells := 2035, slots := 12210, locals := 203 } s m args below meth c D A 14 Q (([(h0, .inr (9, [.ref x1, .ref x2, .ref x3, .ref x4, .ref x5, .ref x6, .int fi])), (x2, .inr (5, jmem M ca cg)), (ca, .inl (t 2, 8, .inr (.inr (.inr (.inr (jcaps ad))))))] : va_W) ++ jpool t ad K) [(0, .ref h0), (1, .int (nI rr)), (2, .int (nI nn)), (3, .int 1), (4, .int 7), (5, .int (nI ((nn + 7 - 1) / 7))), (6, .int (nI k)), (7, .int lo), (8, .int hi), (9, .int mn), (10, .int sm), (11, .int (nI i9)), (12, .int (nI (7 * k + i9)))] 93 [] (33 * k + 3 * i9 + 1075) (198 * k + 18 * i9 + 6450) := by
                      intro d9
                      induction d9 with
                      | zero => intro i9 sm hm hq hmu; exact absurd hmu (Nat.not_lt_zero _)
                      | succ d9 ih93 =>
                        intro i9 sm hm hq hmu
                        refine jr_iload CC (jd ddL_isGrouped 56 rfl) 12 rfl ?_
                        refine jr_iload CC (jd ddL_isGrouped 57 rfl) 4 rfl ?_
                        refine jr_iload CC (jd ddL_isGrouped 58 rfl) 6 rfl ?_
                        refine jr_imul CC (jd ddL_isGrouped 59 rfl) ?_
                        refine jr_st [.int (nI (7 * k)), .int (nI (7 * k + i9))] (jst1 (pk_mul 7 k)) ?_
                        refine jr_iload CC (jd ddL_isGrouped 60 rfl) 4 rfl ?_
                        refine jr_iadd CC (jd ddL_isGrouped 61 rfl) ?_
                        refine jr_st [.int (nI ((7 * k) + 7)), .int (nI (7 * k + i9))] (jst1 (nI_add (7 * k) 7)) ?_
                        refine jr_icmp_ge 162 CC (jd ddL_isGrouped 62 rfl) (by decide) (fun c70 => ?_) (fun c70 => ?_)
                        · have n70 := jle_of (a := ((7 * k) + 7)) (b := (7 * k + i9)) c70 (by omega) (by omega)
                          refine jr_widen (k' := (33 * k + 1096)) (n' := (198 * k + 6576)) (by omega) (by omega) ?_
                          have hmN : i9 = (min (7 * k + 7) nn - 7 * k) := by omega
                          have hsm : jsum (jat (K rr) 1) (min (7 * k + 7) nn - 7 * k) (7 * k) 0 = sm := hq.trans (by rw [show (min (7 * k + 7) nn - 7 * k) - i9 = 0 by omega]; rfl)
                          refine jr_iload_n CC (jd ddL_isGrouped 91 rfl) 3 rfl ?_
                          refine jr_if_eq 206 CC (jd ddL_isGrouped 92 rfl) (by decide) (fun h => absurd h (by decide)) (fun _ => ?_)
                          refine jr_iload CC (jd ddL_isGrouped 93 rfl) 7 rfl ?_
                          refine jr_pc (pc' := 168) rfl ?_
                          refine jr_iload CC (jd ddL_isGrouped 94 rfl) 9 rfl ?_
                          refine jr_icmp_gt 206 CC (jd ddL_isGrouped 95 rfl) (by decide) (fun h => absurd h f2) (fun _ => ?_)
                          refine jr_iload CC (jd ddL_isGrouped 96 rfl) 9 rfl ?_
                          refine jr_iload CC (jd ddL_isGrouped 97 rfl) 8 rfl ?_
                          refine jr_icmp_gt 206 CC (jd ddL_isGrouped 98 rfl) (by decide) (fun h => absurd h f3) (fun _ => ?_)
                          refine jr_iload CC (jd ddL_isGrouped 99 rfl) 9 rfl ?_
                          refine jr_iload CC (jd ddL_isGrouped 100 rfl) 11 rfl ?_
                          refine jr_imul CC (jd ddL_isGrouped 101 rfl) ?_
                          refine jr_iload CC (jd ddL_isGrouped 102 rfl) 10 rfl ?_
                          refine jr_icmp_gt 206 CC (jd ddL_isGrouped 103 rfl) (by decide) (fun h => absurd h (by rw [hmN, ← hsm]; exact f4)) (fun _ => ?_)
                          refine jr_pc (pc' := 190) rfl ?_
                          refine jr_iload CC (jd ddL_isGrouped 104 rfl) 10 rfl ?_
                          refine jr_iload CC (jd ddL_isGrouped 105 rfl) 9 rfl ?_
                          refine jr_iconst (v := 1) CC (jd ddL_isGrouped 106 rfl) (by decide) ?_
                          refine jr_iadd CC (jd ddL_isGrouped 107 rfl) ?_
                          refine jr_iload CC (jd ddL_isGrouped 108 rfl) 11 rfl ?_
                          refine jr_imul CC (jd ddL_isGrouped 109 rfl) ?_
                          refine jr_icmp_ge 206 CC (jd ddL_isGrouped 110 rfl) (by decide) (fun h => absurd h (by rw [hmN, ← hsm]; exact f5)) (fun _ => ?_)
                          refine jr_iconst (v := 1) CC (jd ddL_isGrouped 111 rfl) (by decide) ?_
                          refine jr_goto 207 CC (jd ddL_isGrouped 112 rfl) (by decide) ?_
                          refine jr_istore_n 3 [(3, .int 1), (0, .ref h0), (1, .int (nI rr)), (2, .int (nI nn)), (4, .int 7), (5, .int (nI ((nn + 7 - 1) / 7))), (6, .int (nI k)), (7, .int lo), (8, .int hi), (9, .int mn), (10, .int sm), (11, .int (nI i9)), (12, .int (nI (7 * k + i9)))] CC (jd ddL_isGrouped 114 rfl) rfl (by decide) rfl ?_
                          refine jr_iinc [(6, .int (nI (k + 1))), (3, .int 1), (0, .ref h0), (1, .int (nI rr)), (2, .int (nI nn)), (4, .int 7), (5, .int (nI ((nn + 7 - 1) / 7))), (7, .int lo), (8, .int hi), (9, .int mn), (10, .int sm), (11, .int (nI i9)), (12, .int (nI (7 * k + i9)))] CC (jd ddL_isGrouped 115 rfl) 6 rfl (nI_1 _) (by decide) rfl ?_
                          refine jr_goto 30 CC (jd ddL_isGrouped 116 rfl) (by decide) ?_
                          refine jr_norm (([(h0, .inr (9, [.ref x1, .ref x2, .ref x3, .ref x4, .ref x5, .ref x6, .int fi])), (x2, .inr (5, jmem M ca cg)), (ca, .inl (t 2, 8, .inr (.inr (.inr (.inr (jcaps ad))))))] : va_W) ++ jpool t ad K) [] 30 (33 * k + 1096) (198 * k + 6576) rfl rfl rfl rfl rfl ?_
                          refine jr_lv [2, 3, 4, 1, 5, 6, 0] [(0, .ref h0), (1, .int (nI rr)), (2, .int (nI nn)), (3, .int 1), (4, .int 7), (5, .int (nI ((nn + 7 - 1) / 7))), (6, .int (nI (k + 1)))] rfl ?_
                          refine jr_widen (k' := (33 * (k + 1) + 1063)) (n' := (198 * (k + 1) + 6378)) (by omega) (by omega) ?_
                          exact ih30 (k + 1) (by omega) (by omega)
                        · have n70 := jle_not (a := ((7 * k) + 7)) (b := (7 * k + i9)) c70 (by omega) (by omega)
                          refine jr_iload CC (jd ddL_isGrouped 63 rfl) 12 rfl ?_
                          refine jr_iload_n CC (jd ddL_isGrouped 64 rfl) 2 rfl ?_
                          refine jr_icmp_ge 162 CC (jd ddL_isGrouped 65 rfl) (by decide) (fun c72 => ?_) (fun c72 => ?_)
                          · have n72 := jle_of (a := nn) (b := (7 * k + i9)) c72 (by omega) (by omega)
                            refine jr_widen (k' := (33 * k + 1096)) (n' := (198 * k + 6576)) (by omega) (by omega) ?_
                            have hmN : i9 = (min (7 * k + 7) nn - 7 * k) := by omega
                            have hsm : jsum (jat (K rr) 1) (min (7 * k + 7) nn - 7 * k) (7 * k) 0 = sm := hq.trans (by rw [show (min (7 * k + 7) nn - 7 * k) - i9 = 0 by omega]; rfl)
                            refine jr_pc (pc' := 162) rfl ?_
                            refine jr_iload_n CC (jd ddL_isGrouped 91 rfl) 3 rfl ?_
                            refine jr_if_eq 206 CC (jd ddL_isGrouped 92 rfl) (by decide) (fun h => absurd h (by decide)) (fun _ => ?_)
                            refine jr_iload CC (jd ddL_isGrouped 93 rfl) 7 rfl ?_
                            refine jr_iload CC (jd ddL_isGrouped 94 rfl) 9 rfl ?_
                            refine jr_icmp_gt 206 CC (jd ddL_isGrouped 95 rfl) (by decide) (fun h => absurd h f2) (fun _ => ?_)
                            refine jr_iload CC (jd ddL_isGrouped 96 rfl) 9 rfl ?_
                            refine jr_iload CC (jd ddL_isGrouped 97 rfl) 8 rfl ?_
                            refine jr_icmp_gt 206 CC (jd ddL_isGrouped 98 rfl) (by decide) (fun h => absurd h f3) (fun _ => ?_)
                            refine jr_iload CC (jd ddL_isGrouped 99 rfl) 9 rfl ?_
                            refine jr_iload CC (jd ddL_isGrouped 100 rfl) 11 rfl ?_
                            refine jr_pc (pc' := 184) rfl ?_
                            refine jr_imul CC (jd ddL_isGrouped 101 rfl) ?_
                            refine jr_iload CC (jd ddL_isGrouped 102 rfl) 10 rfl ?_
                            refine jr_icmp_gt 206 CC (jd ddL_isGrouped 103 rfl) (by decide) (fun h => absurd h (by rw [hmN, ← hsm]; exact f4)) (fun _ => ?_)
                            refine jr_iload CC (jd ddL_isGrouped 104 rfl) 10 rfl ?_
                            refine jr_iload CC (jd ddL_isGrouped 105 rfl) 9 rfl ?_
                            refine jr_iconst (v := 1) CC (jd ddL_isGrouped 106 rfl) (by decide) ?_
                            refine jr_iadd CC (jd ddL_isGrouped 107 rfl) ?_
                            refine jr_iload CC (jd ddL_isGrouped 108 rfl) 11 rfl ?_
                            refine jr_imul CC (jd ddL_isGrouped 109 rfl) ?_
                            refine jr_icmp_ge 206 CC (jd ddL_isGrouped 110 rfl) (by decide) (fun h => absurd h (by rw [hmN, ← hsm]; exact f5)) (fun _ => ?_)
                            refine jr_pc (pc' := 202) rfl ?_
                            refine jr_iconst (v := 1) CC (jd ddL_isGrouped 111 rfl) (by decide) ?_
                            refine jr_goto 207 CC (jd ddL_isGrouped 112 rfl) (by decide) ?_
                            refine jr_istore_n 3 [(3, .int 1), (0, .ref h0), (1, .int (nI rr)), (2, .int (nI nn)), (4, .int 7), (5, .int (nI ((nn + 7 - 1) / 7))), (6, .int (nI k)), (7, .int lo), (8, .int hi), (9, .int mn), (10, .int sm), (11, .int (nI i9)), (12, .int (nI (7 * k + i9)))] CC (jd ddL_isGrouped 114 rfl) rfl (by decide) rfl ?_
                            refine jr_iinc [(6, .int (nI (k + 1))), (3, .int 1), (0, .ref h0), (1, .int (nI rr)), (2, .int (nI nn)), (4, .int 7), (5, .int (nI ((nn + 7 - 1) / 7))), (7, .int lo), (8, .int hi), (9, .int mn), (10, .int sm), (11, .int (nI i9)), (12, .int (nI (7 * k + i9)))] CC (jd ddL_isGrouped 115 rfl) 6 rfl (nI_1 _) (by decide) rfl ?_
                            refine jr_goto 30 CC (jd ddL_isGrouped 116 rfl) (by decide) ?_
                            refine jr_norm (([(h0, .inr (9, [.ref x1, .ref x2, .ref x3, .ref x4, .ref x5, .ref x6, .int fi])), (x2, .inr (5, jmem M ca cg)), (ca, .inl (t 2, 8, .inr (.inr (.inr (.inr (jcaps ad))))))] : va_W) ++ jpool t ad K) [] 30 (33 * k + 1096) (198 * k + 6576) rfl rfl rfl rfl rfl ?_
                            refine jr_lv [2, 3, 4, 1, 5, 6, 0] [(0, .ref h0), (1, .int (nI rr)), (2, .int (nI nn)), (3, .int 1), (4, .int 7), (5, .int (nI ((nn + 7 - 1) / 7))), (6, .int (nI (k + 1)))] rfl ?_
                            refine jr_widen (k' := (33 * (k + 1) + 1063)) (n' := (198 * (k + 1) + 6378)) (by omega) (by omega) ?_
                            exact ih30 (k + 1) (by omega) (by omega)
                          · have n72 := jle_not (a := nn) (b := (7 * k + i9)) c72 (by omega) (by omega)
                            refine jr_pc (pc' := 112) rfl ?_
                            refine jr_aload_n CC (jd ddL_isGrouped 66 rfl) 0 rfl ?_
                            refine jr_iload_n CC (jd ddL_isGrouped 67 rfl) 1 rfl ?_
                            refine jr_iconst (v := 1) CC (jd ddL_isGrouped 68 rfl) (by decide) ?_
                            refine jr_iload CC (jd ddL_isGrouped 69 rfl) 12 rfl ?_
                            refine jr_norm (([(h0, .inr (9, [.ref x1, .ref x2, .ref x3, .ref x4, .ref x5, .ref x6, .int fi])), (x2, .inr (5, jmem M ca cg)), (ca, .inl (t 2, 8, .inr (.inr (.inr (.inr (jcaps ad))))))] : va_W) ++ jpool t ad K) [.int (nI (7 * k + i9)), .int 1, .int (nI rr), .ref h0] 117 (33 * k + 3 * i9 + 1075) (198 * k + 18 * i9 + 6450) rfl rfl rfl rfl rfl ?_
                            refine jr_callW (rest := []) [.ref h0, .int (nI rr), .int 1, .int (nI (7 * k + i9))] CC (jd ddL_isGrouped 70 rfl) (jy_L_117 CC) (k_L_value l t hfl h0 x1 x2 x3 x4 x5 x6 fi M ca cg ad K m8 (nI rr) 1 (nI (7 * k + i9)) hM1 hm8 hK) ([0, 1, 2] ++ (List.range 32).map (fun i => 3 + i)) (jpool_isC 3 rfl (is := [0, 1, 2]) rfl (by decide)) (by decide) rfl rfl ⟨by decide, Nat.le_of_ble_eq_true rfl, show (33 * k + 3 * i9 + 1075) + 3 ≤ 2035 from by omega, show (198 * k + 18 * i9 + 6450) + 18 ≤ 12210 from by omega⟩ (Nat.le_of_ble_eq_true rfl) (by rintro v u h; rcases h with ⟨rfl, rfl⟩ <;> exact jpool_same rfl) (fun _ _ h => h.elim) (fun _ _ h => h.elim) (fun v u h => ?_)
                            rcases h with ⟨rfl, rfl⟩
                            refine jr_ws (jput [(h0, .inr (9, [.ref x1, .ref x2, .ref x3, .ref x4, .ref x5, .ref x6, .int fi])), (x2, .inr (5, jmem M ca cg)), (ca, .inl (t 2, 8, .inr (.inr (.inr (.inr (jcaps ad))))))] [0, 1, 2] [(h0, .inr (9, [.ref x1, .ref x2, .ref x3, .ref x4, .ref x5, .ref x6, .int fi])), (x2, .inr (5, jmem M ca cg)), (ca, .inl (t 2, 8, .inr (.inr (.inr (.inr (jcaps ad))))))] ++ jpool t ad K) (jpool_after 3 rfl rfl rfl (by decide)) ?_
                            refine jr_norm (([(h0, .inr (9, [.ref x1, .ref x2, .ref x3, .ref x4, .ref x5, .ref x6, .int fi])), (x2, .inr (5, jmem M ca cg)), (ca, .inl (t 2, 8, .inr (.inr (.inr (.inr (jcaps ad))))))] : va_W) ++ jpool t ad K) [.int (wP (eVal (M 1) (nI rr) (K (nI rr).toNatClampNeg).2.2.1 (nI (7 * k + i9)) 1) (jat (K (nI rr).toNatClampNeg) 1 (nI (7 * k + i9)).toNatClampNeg) (-300) (-200) 0 0)] 120 (33 * k + 3 * i9 + 1078) (198 * k + 18 * i9 + 6468) rfl rfl rfl rfl rfl ?_
                            refine jr_st [.int (jat (K rr) 1 (7 * k + i9))] (jst1 (wv_in hM1 hm8 hrr hnn hn49 jin01.2.1 (by omega) _ _ _ _)) ?_
                            refine jr_istore [(13, .int (jat (K rr) 1 (7 * k + i9))), (0, .ref h0), (1, .int (nI rr)), (2, .int (nI nn)), (3, .int 1), (4, .int 7), (5, .int (nI ((nn + 7 - 1) / 7))), (6, .int (nI k)), (7, .int lo), (8, .int hi), (9, .int mn), (10, .int sm), (11, .int (nI i9)), (12, .int (nI (7 * k + i9)))] CC (jd ddL_isGrouped 71 rfl) (by decide) rfl ?_
                            refine jr_iload_n CC (jd ddL_isGrouped 72 rfl) 4 rfl ?_
                            refine jr_if_eq 144 CC (jd ddL_isGrouped 73 rfl) (by decide) (fun h => absurd h (by decide)) (fun _ => ?_)
                            refine jr_iload CC (jd ddL_isGrouped 74 rfl) 8 rfl ?_
                            refine jr_iload CC (jd ddL_isGrouped 75 rfl) 0 rfl ?_
                            refine jr_icmp_gt 144 CC (jd ddL_isGrouped 76 rfl) (by decide) (fun h => absurd h (f1 _ (by omega) (by omega)).1) (fun _ => ?_)
                            refine jr_iload CC (jd ddL_isGrouped 77 rfl) 0 rfl ?_
                            refine jr_iload CC (jd ddL_isGrouped 78 rfl) 9 rfl ?_
                            refine jr_icmp_gt 144 CC (jd ddL_isGrouped 79 rfl) (by decide) (fun h => absurd h (f1 _ (by omega) (by omega)).2) (fun _ => ?_)
                            refine jr_iconst (v := 1) CC (jd ddL_isGrouped 80 rfl) (by decide) ?_
                            refine jr_pc (pc' := 141) rfl ?_
                            refine jr_goto 145 CC (jd ddL_isGrouped 81 rfl) (by decide) ?_
                            refine jr_istore_n 3 [(3, .int 1), (13, .int (jat (K rr) 1 (7 * k + i9))), (0, .ref h0), (1, .int (nI rr)), (2, .int (nI nn)), (4, .int 7), (5, .int (nI ((nn + 7 - 1) / 7))), (6, .int (nI k)), (7, .int lo), (8, .int hi), (9, .int mn), (10, .int sm), (11, .int (nI i9)), (12, .int (nI (7 * k + i9)))] CC (jd ddL_isGrouped 83 rfl) rfl (by decide) rfl ?_
                            refine jr_iload CC (jd ddL_isGrouped 84 rfl) 11 rfl ?_
                            refine jr_iload CC (jd ddL_isGrouped 85 rfl) 1 rfl ?_
                            refine jr_iadd CC (jd ddL_isGrouped 86 rfl) ?_
                            refine jr_istore [(10, .int (sm + (jat (K rr) 1 (7 * k + i9)))), (3, .int 1), (13, .int (jat (K rr) 1 (7 * k + i9))), (0, .ref h0), (1, .int (nI rr)), (2, .int (nI nn)), (4, .int 7), (5, .int (nI ((nn + 7 - 1) / 7))), (6, .int (nI k)), (7, .int lo), (8, .int hi), (9, .int mn), (11, .int (nI i9)), (12, .int (nI (7 * k + i9)))] CC (jd ddL_isGrouped 87 rfl) (by decide) rfl ?_
                            refine jr_iinc [(11, .int (nI (i9 + 1))), (10, .int (sm + (jat (K rr) 1 (7 * k + i9)))), (3, .int 1), (13, .int (jat (K rr) 1 (7 * k + i9))), (0, .ref h0), (1, .int (nI rr)), (2, .int (nI nn)), (4, .int 7), (5, .int (nI ((nn + 7 - 1) / 7))), (6, .int (nI k)), (7, .int lo), (8, .int hi), (9, .int mn), (12, .int (nI (7 * k + i9)))] CC (jd ddL_isGrouped 88 rfl) 12 rfl (nI_1 _) (by decide) rfl ?_
                            refine jr_iinc [(12, .int (nI (7 * k + i9 + 1))), (11, .int (nI (i9 + 1))), (10, .int (sm + (jat (K rr) 1 (7 * k + i9)))), (3, .int 1), (13, .int (jat (K rr) 1 (7 * k + i9))), (0, .ref h0), (1, .int (nI rr)), (2, .int (nI nn)), (4, .int 7), (5, .int (nI ((nn + 7 - 1) / 7))), (6, .int (nI k)), (7, .int lo), (8, .int hi), (9, .int mn)] CC (jd ddL_isGrouped 89 rfl) 13 rfl (nI_1 _) (by decide) rfl ?_
                            refine jr_goto 93 CC (jd ddL_isGrouped 90 rfl) (by decide) ?_
                            refine jr_norm (([(h0, .inr (9, [.ref x1, .ref x2, .ref x3, .ref x4, .ref x5, .ref x6, .int fi])), (x2, .inr (5, jmem M ca cg)), (ca, .inl (t 2, 8, .inr (.inr (.inr (.inr (jcaps ad))))))] : va_W) ++ jpool t ad K) [] 93 (33 * k + 3 * i9 + 1078) (198 * k + 18 * i9 + 6468) rfl rfl rfl rfl rfl ?_
                            refine jr_lv [5, 6, 7, 3, 8, 9, 10, 11, 12, 13, 2, 1, 0] [(0, .ref h0), (1, .int (nI rr)), (2, .int (nI nn)), (3, .int 1), (4, .int 7), (5, .int (nI ((nn + 7 - 1) / 7))), (6, .int (nI k)), (7, .int lo), (8, .int hi), (9, .int mn), (10, .int (sm + (jat (K rr) 1 (7 * k + i9)))), (11, .int (nI (i9 + 1))), (12, .int (nI (7 * k + (i9 + 1))))] rfl ?_
                            refine jr_widen (k' := (33 * k + 3 * (i9 + 1) + 1075)) (n' := (198 * k + 18 * (i9 + 1) + 6450)) (by omega) (by omega) ?_
                            exact ih93 (i9 + 1) (sm + (jat (K rr) 1 (7 * k + i9))) (by omega) (by rw [hq, show (min (7 * k + 7) nn - 7 * k) - i9 = ((min (7 * k + 7) nn - 7 * k) - (i9 + 1)) + 1 by omega]; rfl) (by omega)
                    refine jr_norm (([(h0, .inr (9, [.ref x1, .ref x2, .ref x3, .ref x4, .ref x5, .ref x6, .int fi])), (x2, .inr (5, jmem M ca cg)), (ca, .inl (t 2, 8, .inr (.inr (.inr (.inr (jcaps ad))))))] : va_W) ++ jpool t ad K) [] 93 (33 * k + 1075) (198 * k + 6450) rfl rfl rfl rfl rfl ?_
                    refine jr_lv [6, 7, 8, 9, 10, 11, 12, 5, 4, 3, 2, 1, 0] [(0, .ref h0), (1, .int (nI rr)), (2, .int (nI nn)), (3, .int 1), (4, .int 7), (5, .int (nI ((nn + 7 - 1) / 7))), (6, .int (nI k)), (7, .int lo), (8, .int hi), (9, .int mn), (10, .int 0), (11, .int (nI 0)), (12, .int (nI (7 * k + 0)))] rfl ?_
                    refine jr_widen (k' := (33 * k + 3 * 0 + 1075)) (n' := (198 * k + 18 * 0 + 6450)) (by omega) (by omega) ?_
                    exact hL69 ((min (7 * k + 7) nn - 7 * k) - 0 + 1) 0 0 (Nat.zero_le _) rfl (Nat.lt_succ_self _)
              refine jr_norm (([(h0, .inr (9, [.ref x1, .ref x2, .ref x3, .ref x4, .ref x5, .ref x6, .int fi])), (x2, .inr (5, jmem M ca cg)), (ca, .inl (t 2, 8, .inr (.inr (.inr (.inr (jcaps ad))))))] : va_W) ++ jpool t ad K) [] 30 1063 6378 rfl rfl rfl rfl rfl ?_
              refine jr_lv [4, 5, 6, 3, 2, 1, 0] [(0, .ref h0), (1, .int (nI rr)), (2, .int (nI nn)), (3, .int 1), (4, .int 7), (5, .int (nI ((nn + 7 - 1) / 7))), (6, .int (nI 0))] rfl ?_
              refine jr_widen (k' := (33 * 0 + 1063)) (n' := (198 * 0 + 6378)) (by omega) (by omega) ?_
              exact hL17 (((nn + 7 - 1) / 7) - 0 + 1) 0 (Nat.zero_le _) (Nat.lt_succ_self _)
            · have n11 := jle_not (a := ((nn + 4 - 1) / 4)) (b := k) c11 (by omega) (by omega)
              refine jr_iload_n CC (jd ddL_isGrouped 22 rfl) 3 rfl ?_
              refine jr_if_eq 214 CC (jd ddL_isGrouped 23 rfl) (by decide) (fun h => absurd h (by decide)) (fun _ => ?_)
              have hsk : 4 * k < nn := by omega
              obtain ⟨lo, hi, mn, e1, e2, e3, f1, f2, f3, f4, f5⟩ := grp_all hM1 hm8 hrr hnn hn49 hf (s := 4) (k := k) (by decide) (by decide) hsk
              refine jr_aload_n CC (jd ddL_isGrouped 24 rfl) 0 rfl ?_
              refine jr_iconst (v := 0) CC (jd ddL_isGrouped 25 rfl) (by decide) ?_
              refine jr_iload_n CC (jd ddL_isGrouped 26 rfl) 1 rfl ?_
              refine jr_iconst (v := 1) CC (jd ddL_isGrouped 27 rfl) (by decide) ?_
              refine jr_iload CC (jd ddL_isGrouped 28 rfl) 4 rfl ?_
              refine jr_pc (pc' := 47) rfl ?_
              refine jr_iload CC (jd ddL_isGrouped 29 rfl) 6 rfl ?_
              refine jr_norm (([(h0, .inr (9, [.ref x1, .ref x2, .ref x3, .ref x4, .ref x5, .ref x6, .int fi])), (x2, .inr (5, jmem M ca cg)), (ca, .inl (t 2, 8, .inr (.inr (.inr (.inr (jcaps ad))))))] : va_W) ++ jpool t ad K) [.int (nI k), .int 4, .int 1, .int (nI rr), .int 0, .ref h0] 49 (24 * k + 743) (144 * k + 4458) rfl rfl rfl rfl rfl ?_
              refine jr_callW (rest := []) [.ref h0, .int 0, .int (nI rr), .int 1, .int 4, .int (nI k)] CC (jd ddL_isGrouped 30 rfl) (jy_L_143 CC) (k_L_grouped0 l t hfl h0 x1 x2 x3 x4 x5 x6 fi M ca cg ad K m8 (nI rr) 1 4 (nI k) hM1 hm8 hK) ([0, 1, 2] ++ (List.range 32).map (fun i => 3 + i)) (jpool_isC 3 rfl (is := [0, 1, 2]) rfl (by decide)) (by decide) rfl rfl ⟨by decide, Nat.le_of_ble_eq_true rfl, show (24 * k + 743) + 4 ≤ 2035 from by omega, show (144 * k + 4458) + 24 ≤ 12210 from by omega⟩ (Nat.le_of_ble_eq_true rfl) (by rintro v u h; rcases h with ⟨rfl, rfl⟩ <;> exact jpool_same rfl) (fun _ _ h => h.elim) (fun _ _ h => h.elim) (fun v u h => ?_)
              rcases h with ⟨rfl, rfl⟩
              refine jr_ws (jput [(h0, .inr (9, [.ref x1, .ref x2, .ref x3, .ref x4, .ref x5, .ref x6, .int fi])), (x2, .inr (5, jmem M ca cg)), (ca, .inl (t 2, 8, .inr (.inr (.inr (.inr (jcaps ad))))))] [0, 1, 2] [(h0, .inr (9, [.ref x1, .ref x2, .ref x3, .ref x4, .ref x5, .ref x6, .int fi])), (x2, .inr (5, jmem M ca cg)), (ca, .inl (t 2, 8, .inr (.inr (.inr (.inr (jcaps ad))))))] ++ jpool t ad K) (jpool_after 3 rfl rfl rfl (by decide)) ?_
              refine jr_norm (([(h0, .inr (9, [.ref x1, .ref x2, .ref x3, .ref x4, .ref x5, .ref x6, .int fi])), (x2, .inr (5, jmem M ca cg)), (ca, .inl (t 2, 8, .inr (.inr (.inr (.inr (jcaps ad))))))] : va_W) ++ jpool t ad K) [.int (wP (eGrp (M 1) (nI rr) (K (nI rr).toNatClampNeg).2.2.1 1 4 (nI k)) (cLow (K (nI rr).toNatClampNeg) 1 4 (nI k)) (-200) (-300) 0 0)] 52 (24 * k + 747) (144 * k + 4482) rfl rfl rfl rfl rfl ?_
              refine jr_st [.int lo] (jst1 (e1)) ?_
              refine jr_istore [(7, .int lo), (0, .ref h0), (1, .int (nI rr)), (2, .int (nI nn)), (3, .int 1), (4, .int 4), (5, .int (nI ((nn + 4 - 1) / 4))), (6, .int (nI k))] CC (jd ddL_isGrouped 31 rfl) (by decide) rfl ?_
              refine jr_aload_n CC (jd ddL_isGrouped 32 rfl) 1 rfl ?_
              refine jr_iconst (v := 1) CC (jd ddL_isGrouped 33 rfl) (by decide) ?_
              refine jr_iload_n CC (jd ddL_isGrouped 34 rfl) 2 rfl ?_
              refine jr_iconst (v := 1) CC (jd ddL_isGrouped 35 rfl) (by decide) ?_
              refine jr_iload CC (jd ddL_isGrouped 36 rfl) 5 rfl ?_
              refine jr_iload CC (jd ddL_isGrouped 37 rfl) 7 rfl ?_
              refine jr_norm (([(h0, .inr (9, [.ref x1, .ref x2, .ref x3, .ref x4, .ref x5, .ref x6, .int fi])), (x2, .inr (5, jmem M ca cg)), (ca, .inl (t 2, 8, .inr (.inr (.inr (.inr (jcaps ad))))))] : va_W) ++ jpool t ad K) [.int (nI k), .int 4, .int 1, .int (nI rr), .int 1, .ref h0] 62 (24 * k + 747) (144 * k + 4482) rfl rfl rfl rfl rfl ?_
              refine jr_callW (rest := []) [.ref h0, .int 1, .int (nI rr), .int 1, .int 4, .int (nI k)] CC (jd ddL_isGrouped 38 rfl) (jy_L_143 CC) (k_L_grouped1 l t hfl h0 x1 x2 x3 x4 x5 x6 fi M ca cg ad K m8 (nI rr) 1 4 (nI k) hM1 hm8 hK) ([0, 1, 2] ++ (List.range 32).map (fun i => 3 + i)) (jpool_isC 3 rfl (is := [0, 1, 2]) rfl (by decide)) (by decide) rfl rfl ⟨by decide, Nat.le_of_ble_eq_true rfl, show (24 * k + 747) + 4 ≤ 2035 from by omega, show (144 * k + 4482) + 24 ≤ 12210 from by omega⟩ (Nat.le_of_ble_eq_true rfl) (by rintro v u h; rcases h with ⟨rfl, rfl⟩ <;> exact jpool_same rfl) (fun _ _ h => h.elim) (fun _ _ h => h.elim) (fun v u h => ?_)
              rcases h with ⟨rfl, rfl⟩
              refine jr_ws (jput [(h0, .inr (9, [.ref x1, .ref x2, .ref x3, .ref x4, .ref x5, .ref x6, .int fi])), (x2, .inr (5, jmem M ca cg)), (ca, .inl (t 2, 8, .inr (.inr (.inr (.inr (jcaps ad))))))] [0, 1, 2] [(h0, .inr (9, [.ref x1, .ref x2, .ref x3, .ref x4, .ref x5, .ref x6, .int fi])), (x2, .inr (5, jmem M ca cg)), (ca, .inl (t 2, 8, .inr (.inr (.inr (.inr (jcaps ad))))))] ++ jpool t ad K) (jpool_after 3 rfl rfl rfl (by decide)) ?_
              refine jr_norm (([(h0, .inr (9, [.ref x1, .ref x2, .ref x3, .ref x4, .ref x5, .ref x6, .int fi])), (x2, .inr (5, jmem M ca cg)), (ca, .inl (t 2, 8, .inr (.inr (.inr (.inr (jcaps ad))))))] : va_W) ++ jpool t ad K) [.int (wP (eGrp (M 1) (nI rr) (K (nI rr).toNatClampNeg).2.2.1 1 4 (nI k)) (cHigh (K (nI rr).toNatClampNeg) 1 4 (nI k)) (-200) (-300) 0 0)] 65 (24 * k + 751) (144 * k + 4506) rfl rfl rfl rfl rfl ?_
              refine jr_st [.int hi] (jst1 (e2)) ?_
              refine jr_istore [(8, .int hi), (7, .int lo), (0, .ref h0), (1, .int (nI rr)), (2, .int (nI nn)), (3, .int 1), (4, .int 4), (5, .int (nI ((nn + 4 - 1) / 4))), (6, .int (nI k))] CC (jd ddL_isGrouped 39 rfl) (by decide) rfl ?_
              refine jr_aload_n CC (jd ddL_isGrouped 40 rfl) 2 rfl ?_
              refine jr_iconst (v := 2) CC (jd ddL_isGrouped 41 rfl) (by decide) ?_
              refine jr_iload_n CC (jd ddL_isGrouped 42 rfl) 3 rfl ?_
              refine jr_iconst (v := 1) CC (jd ddL_isGrouped 43 rfl) (by decide) ?_
              refine jr_iload CC (jd ddL_isGrouped 44 rfl) 6 rfl ?_
              refine jr_iload CC (jd ddL_isGrouped 45 rfl) 8 rfl ?_
              refine jr_norm (([(h0, .inr (9, [.ref x1, .ref x2, .ref x3, .ref x4, .ref x5, .ref x6, .int fi])), (x2, .inr (5, jmem M ca cg)), (ca, .inl (t 2, 8, .inr (.inr (.inr (.inr (jcaps ad))))))] : va_W) ++ jpool t ad K) [.int (nI k), .int 4, .int 1, .int (nI rr), .int 2, .ref h0] 75 (24 * k + 751) (144 * k + 4506) rfl rfl rfl rfl rfl ?_
              refine jr_callW (rest := []) [.ref h0, .int 2, .int (nI rr), .int 1, .int 4, .int (nI k)] CC (jd ddL_isGrouped 46 rfl) (jy_L_143 CC) (k_L_grouped2 l t hfl h0 x1 x2 x3 x4 x5 x6 fi M ca cg ad K m8 (nI rr) 1 4 (nI k) hM1 hm8 hK) ([0, 1, 2] ++ (List.range 32).map (fun i => 3 + i)) (jpool_isC 3 rfl (is := [0, 1, 2]) rfl (by decide)) (by decide) rfl rfl ⟨by decide, Nat.le_of_ble_eq_true rfl, show (24 * k + 751) + 4 ≤ 2035 from by omega, show (144 * k + 4506) + 24 ≤ 12210 from by omega⟩ (Nat.le_of_ble_eq_true rfl) (by rintro v u h; rcases h with ⟨rfl, rfl⟩ <;> exact jpool_same rfl) (fun _ _ h => h.elim) (fun _ _ h => h.elim) (fun v u h => ?_)
              rcases h with ⟨rfl, rfl⟩
              refine jr_ws (jput [(h0, .inr (9, [.ref x1, .ref x2, .ref x3, .ref x4, .ref x5, .ref x6, .int fi])), (x2, .inr (5, jmem M ca cg)), (ca, .inl (t 2, 8, .inr (.inr (.inr (.inr (jcaps ad))))))] [0, 1, 2] [(h0, .inr (9, [.ref x1, .ref x2, .ref x3, .ref x4, .ref x5, .ref x6, .int fi])), (x2, .inr (5, jmem M ca cg)), (ca, .inl (t 2, 8, .inr (.inr (.inr (.inr (jcaps ad))))))] ++ jpool t ad K) (jpool_after 3 rfl rfl rfl (by decide)) ?_
              refine jr_norm (([(h0, .inr (9, [.ref x1, .ref x2, .ref x3, .ref x4, .ref x5, .ref x6, .int fi])), (x2, .inr (5, jmem M ca cg)), (ca, .inl (t 2, 8, .inr (.inr (.inr (.inr (jcaps ad))))))] : va_W) ++ jpool t ad K) [.int (wP (eGrp (M 1) (nI rr) (K (nI rr).toNatClampNeg).2.2.1 1 4 (nI k)) (cMean (K (nI rr).toNatClampNeg) 1 4 (nI k)) (-200) (-300) 0 0)] 78 (24 * k + 755) (144 * k + 4530) rfl rfl rfl rfl rfl ?_
              refine jr_st [.int mn] (jst1 (e3)) ?_
              refine jr_istore [(9, .int mn), (8, .int hi), (7, .int lo), (0, .ref h0), (1, .int (nI rr)), (2, .int (nI nn)), (3, .int 1), (4, .int 4), (5, .int (nI ((nn + 4 - 1) / 4))), (6, .int (nI k))] CC (jd ddL_isGrouped 47 rfl) (by decide) rfl ?_
              refine jr_iconst (v := 0) CC (jd ddL_isGrouped 48 rfl) (by decide) ?_
              refine jr_istore [(10, .int 0), (9, .int mn), (8, .int hi), (7, .int lo), (0, .ref h0), (1, .int (nI rr)), (2, .int (nI nn)), (3, .int 1), (4, .int 4), (5, .int (nI ((nn + 4 - 1) / 4))), (6, .int (nI k))] CC (jd ddL_isGrouped 49 rfl) (by decide) rfl ?_
              refine jr_iconst (v := 0) CC (jd ddL_isGrouped 50 rfl) (by decide) ?_
              refine jr_istore [(11, .int 0), (10, .int 0), (9, .int mn), (8, .int hi), (7, .int lo), (0, .ref h0), (1, .int (nI rr)), (2, .int (nI nn)), (3, .int 1), (4, .int 4), (5, .int (nI ((nn + 4 - 1) / 4))), (6, .int (nI k))] CC (jd ddL_isGrouped 51 rfl) (by decide) rfl ?_
              refine jr_iload CC (jd ddL_isGrouped 52 rfl) 9 rfl ?_
              refine jr_iload CC (jd ddL_isGrouped 53 rfl) 11 rfl ?_
              refine jr_imul CC (jd ddL_isGrouped 54 rfl) ?_
              refine jr_st [.int (nI (4 * k))] (jst1 (pk_mul 4 k)) ?_
              refine jr_istore [(12, .int (nI (4 * k))), (11, .int 0), (10, .int 0), (9, .int mn), (8, .int hi), (7, .int lo), (0, .ref h0), (1, .int (nI rr)), (2, .int (nI nn)), (3, .int 1), (4, .int 4), (5, .int (nI ((nn + 4 - 1) / 4))), (6, .int (nI k))] CC (jd ddL_isGrouped 55 rfl) (by decide) rfl ?_
              have hL76 : ∀ (d9 : Nat) (i9 : Nat) (sm : Int32) (hm : i9 ≤ (min (4 * k + 4) nn - 4 * k)) (hq : jsum (jat (K rr) 1) (min (4 * k + 4) nn - 4 * k) (4 * k) 0 = jsum (jat (K rr) 1) ((min (4 * k + 4) nn - 4 * k) - i9) (4 * k + i9) sm), (min (4 * k + 4) nn - 4 * k) - i9 < d9 → J p l e { frames := 11, cells := 2035, slots := 12210, locals := 203 } s m args below meth c D A 14 Q (([(h0, .inr (9, [.ref x1, .ref x2, .ref x3, .ref x4, .ref x5, .ref x6, .int fi])), (x2, .inr (5, jmem M ca cg)), (ca, .inl (t 2, 8, .inr (.inr (.inr (.inr (jcaps ad))))))] : va_W) ++ jpool t ad K) [(0, .ref h0), (1, .int (nI rr)), (2, .int (nI nn)), (3, .int 1), (4, .int 4), (5, .int (nI ((nn + 4 - 1) / 4))), (6, .int (nI k)), (7, .int lo), (8, .int hi), (9, .int mn), (10, .int sm), (11, .int (nI i9)), (12, .int (nI (4 * k + i9)))] 93 [] (24 * k + 3 * i9 + 755) (144 * k + 18 * i9 + 4530) := by
                intro d9
                induction d9 with
                | zero => intro i9 sm hm hq hmu; exact absurd hmu (Nat.not_lt_zero _)
                | succ d9 ih93 =>
                  intro i9 sm hm hq hmu
                  refine jr_iload CC (jd ddL_isGrouped 56 rfl) 12 rfl ?_
                  refine jr_iload CC (jd ddL_isGrouped 57 rfl) 4 rfl ?_
                  refine jr_iload CC (jd ddL_isGrouped 58 rfl) 6 rfl ?_
                  refine jr_imul CC (jd ddL_isGrouped 59 rfl) ?_
                  refine jr_st [.int (nI (4 * k)), .int (nI (4 * k + i9))] (jst1 (pk_mul 4 k)) ?_
                  refine jr_iload CC (jd ddL_isGrouped 60 rfl) 4 rfl ?_
                  refine jr_iadd CC (jd ddL_isGrouped 61 rfl) ?_
                  refine jr_st [.int (nI ((4 * k) + 4)), .int (nI (4 * k + i9))] (jst1 (nI_add (4 * k) 4)) ?_
                  refine jr_icmp_ge 162 CC (jd ddL_isGrouped 62 rfl) (by decide) (fun c77 => ?_) (fun c77 => ?_)
                  · have n77 := jle_of (a := ((4 * k) + 4)) (b := (4 * k + i9)) c77 (by omega) (by omega)
                    refine jr_widen (k' := (24 * k + 767)) (n' := (144 * k + 4602)) (by omega) (by omega) ?_
                    have hmN : i9 = (min (4 * k + 4) nn - 4 * k) := by omega
                    have hsm : jsum (jat (K rr) 1) (min (4 * k + 4) nn - 4 * k) (4 * k) 0 = sm := hq.trans (by rw [show (min (4 * k + 4) nn - 4 * k) - i9 = 0 by omega]; rfl)
                    refine jr_iload_n CC (jd ddL_isGrouped 91 rfl) 3 rfl ?_
                    refine jr_if_eq 206 CC (jd ddL_isGrouped 92 rfl) (by decide) (fun h => absurd h (by decide)) (fun _ => ?_)
                    refine jr_iload CC (jd ddL_isGrouped 93 rfl) 7 rfl ?_
                    refine jr_pc (pc' := 168) rfl ?_
                    refine jr_iload CC (jd ddL_isGrouped 94 rfl) 9 rfl ?_
                    refine jr_icmp_gt 206 CC (jd ddL_isGrouped 95 rfl) (by decide) (fun h => absurd h f2) (fun _ => ?_)
                    refine jr_iload CC (jd ddL_isGrouped 96 rfl) 9 rfl ?_
                    refine jr_iload CC (jd ddL_isGrouped 97 rfl) 8 rfl ?_
                    refine jr_icmp_gt 206 CC (jd ddL_isGrouped 98 rfl) (by decide) (fun h => absurd h f3) (fun _ => ?_)
                    refine jr_iload CC (jd ddL_isGrouped 99 rfl) 9 rfl ?_
                    refine jr_iload CC (jd ddL_isGrouped 100 rfl) 11 rfl ?_
                    refine jr_imul CC (jd ddL_isGrouped 101 rfl) ?_
                    refine jr_iload CC (jd ddL_isGrouped 102 rfl) 10 rfl ?_
                    refine jr_icmp_gt 206 CC (jd ddL_isGrouped 103 rfl) (by decide) (fun h => absurd h (by rw [hmN, ← hsm]; exact f4)) (fun _ => ?_)
                    refine jr_pc (pc' := 190) rfl ?_
                    refine jr_iload CC (jd ddL_isGrouped 104 rfl) 10 rfl ?_
                    refine jr_iload CC (jd ddL_isGrouped 105 rfl) 9 rfl ?_
                    refine jr_iconst (v := 1) CC (jd ddL_isGrouped 106 rfl) (by decide) ?_
                    refine jr_iadd CC (jd ddL_isGrouped 107 rfl) ?_
                    refine jr_iload CC (jd ddL_isGrouped 108 rfl) 11 rfl ?_
                    refine jr_imul CC (jd ddL_isGrouped 109 rfl) ?_
                    refine jr_icmp_ge 206 CC (jd ddL_isGrouped 110 rfl) (by decide) (fun h => absurd h (by rw [hmN, ← hsm]; exact f5)) (fun _ => ?_)
                    refine jr_iconst (v := 1) CC (jd ddL_isGrouped 111 rfl) (by decide) ?_
                    refine jr_goto 207 CC (jd ddL_isGrouped 112 rfl) (by decide) ?_
                    refine jr_istore_n 3 [(3, .int 1), (0, .ref h0), (1, .int (nI rr)), (2, .int (nI nn)), (4, .int 4), (5, .int (nI ((nn + 4 - 1) / 4))), (6, .int (nI k)), (7, .int lo), (8, .int hi), (9, .int mn), (10, .int sm), (11, .int (nI i9)), (12, .int (nI (4 * k + i9)))] CC (jd ddL_isGrouped 114 rfl) rfl (by decide) rfl ?_
                    refine jr_iinc [(6, .int (nI (k + 1))), (3, .int 1), (0, .ref h0), (1, .int (nI rr)), (2, .int (nI nn)), (4, .int 4), (5, .int (nI ((nn + 4 - 1) / 4))), (7, .int lo), (8, .int hi), (9, .int mn), (10, .int sm), (11, .int (nI i9)), (12, .int (nI (4 * k + i9)))] CC (jd ddL_isGrouped 115 rfl) 6 rfl (nI_1 _) (by decide) rfl ?_
                    refine jr_goto 30 CC (jd ddL_isGrouped 116 rfl) (by decide) ?_
                    refine jr_norm (([(h0, .inr (9, [.ref x1, .ref x2, .ref x3, .ref x4, .ref x5, .ref x6, .int fi])), (x2, .inr (5, jmem M ca cg)), (ca, .inl (t 2, 8, .inr (.inr (.inr (.inr (jcaps ad))))))] : va_W) ++ jpool t ad K) [] 30 (24 * k + 767) (144 * k + 4602) rfl rfl rfl rfl rfl ?_
                    refine jr_lv [2, 3, 4, 1, 5, 6, 0] [(0, .ref h0), (1, .int (nI rr)), (2, .int (nI nn)), (3, .int 1), (4, .int 4), (5, .int (nI ((nn + 4 - 1) / 4))), (6, .int (nI (k + 1)))] rfl ?_
                    refine jr_widen (k' := (24 * (k + 1) + 743)) (n' := (144 * (k + 1) + 4458)) (by omega) (by omega) ?_
                    exact ih30 (k + 1) (by omega) (by omega)
                  · have n77 := jle_not (a := ((4 * k) + 4)) (b := (4 * k + i9)) c77 (by omega) (by omega)
                    refine jr_iload CC (jd ddL_isGrouped 63 rfl) 12 rfl ?_
                    refine jr_iload_n CC (jd ddL_isGrouped 64 rfl) 2 rfl ?_
                    refine jr_icmp_ge 162 CC (jd ddL_isGrouped 65 rfl) (by decide) (fun c79 => ?_) (fun c79 => ?_)
                    · have n79 := jle_of (a := nn) (b := (4 * k + i9)) c79 (by omega) (by omega)
                      refine jr_widen (k' := (24 * k + 767)) (n' := (144 * k + 4602)) (by omega) (by omega) ?_
                      have hmN : i9 = (min (4 * k + 4) nn - 4 * k) := by omega
                      have hsm : jsum (jat (K rr) 1) (min (4 * k + 4) nn - 4 * k) (4 * k) 0 = sm := hq.trans (by rw [show (min (4 * k + 4) nn - 4 * k) - i9 = 0 by omega]; rfl)
                      refine jr_pc (pc' := 162) rfl ?_
                      refine jr_iload_n CC (jd ddL_isGrouped 91 rfl) 3 rfl ?_
                      refine jr_if_eq 206 CC (jd ddL_isGrouped 92 rfl) (by decide) (fun h => absurd h (by decide)) (fun _ => ?_)
                      refine jr_iload CC (jd ddL_isGrouped 93 rfl) 7 rfl ?_
                      refine jr_iload CC (jd ddL_isGrouped 94 rfl) 9 rfl ?_
                      refine jr_icmp_gt 206 CC (jd ddL_isGrouped 95 rfl) (by decide) (fun h => absurd h f2) (fun _ => ?_)
                      refine jr_iload CC (jd ddL_isGrouped 96 rfl) 9 rfl ?_
                      refine jr_iload CC (jd ddL_isGrouped 97 rfl) 8 rfl ?_
                      refine jr_icmp_gt 206 CC (jd ddL_isGrouped 98 rfl) (by decide) (fun h => absurd h f3) (fun _ => ?_)
                      refine jr_iload CC (jd ddL_isGrouped 99 rfl) 9 rfl ?_
                      refine jr_iload CC (jd ddL_isGrouped 100 rfl) 11 rfl ?_
                      refine jr_pc (pc' := 184) rfl ?_
                      refine jr_imul CC (jd ddL_isGrouped 101 rfl) ?_
                      refine jr_iload CC (jd ddL_isGrouped 102 rfl) 10 rfl ?_
                      refine jr_icmp_gt 206 CC (jd ddL_isGrouped 103 rfl) (by decide) (fun h => absurd h (by rw [hmN, ← hsm]; exact f4)) (fun _ => ?_)
                      refine jr_iload CC (jd ddL_isGrouped 104 rfl) 10 rfl ?_
                      refine jr_iload CC (jd ddL_isGrouped 105 rfl) 9 rfl ?_
                      refine jr_iconst (v := 1) CC (jd ddL_isGrouped 106 rfl) (by decide) ?_
                      refine jr_iadd CC (jd ddL_isGrouped 107 rfl) ?_
                      refine jr_iload CC (jd ddL_isGrouped 108 rfl) 11 rfl ?_
                      refine jr_imul CC (jd ddL_isGrouped 109 rfl) ?_
                      refine jr_icmp_ge 206 CC (jd ddL_isGrouped 110 rfl) (by decide) (fun h => absurd h (by rw [hmN, ← hsm]; exact f5)) (fun _ => ?_)
                      refine jr_pc (pc' := 202) rfl ?_
                      refine jr_iconst (v := 1) CC (jd ddL_isGrouped 111 rfl) (by decide) ?_
                      refine jr_goto 207 CC (jd ddL_isGrouped 112 rfl) (by decide) ?_
                      refine jr_istore_n 3 [(3, .int 1), (0, .ref h0), (1, .int (nI rr)), (2, .int (nI nn)), (4, .int 4), (5, .int (nI ((nn + 4 - 1) / 4))), (6, .int (nI k)), (7, .int lo), (8, .int hi), (9, .int mn), (10, .int sm), (11, .int (nI i9)), (12, .int (nI (4 * k + i9)))] CC (jd ddL_isGrouped 114 rfl) rfl (by decide) rfl ?_
                      refine jr_iinc [(6, .int (nI (k + 1))), (3, .int 1), (0, .ref h0), (1, .int (nI rr)), (2, .int (nI nn)), (4, .int 4), (5, .int (nI ((nn + 4 - 1) / 4))), (7, .int lo), (8, .int hi), (9, .int mn), (10, .int sm), (11, .int (nI i9)), (12, .int (nI (4 * k + i9)))] CC (jd ddL_isGrouped 115 rfl) 6 rfl (nI_1 _) (by decide) rfl ?_
                      refine jr_goto 30 CC (jd ddL_isGrouped 116 rfl) (by decide) ?_
                      refine jr_norm (([(h0, .inr (9, [.ref x1, .ref x2, .ref x3, .ref x4, .ref x5, .ref x6, .int fi])), (x2, .inr (5, jmem M ca cg)), (ca, .inl (t 2, 8, .inr (.inr (.inr (.inr (jcaps ad))))))] : va_W) ++ jpool t ad K) [] 30 (24 * k + 767) (144 * k + 4602) rfl rfl rfl rfl rfl ?_
                      refine jr_lv [2, 3, 4, 1, 5, 6, 0] [(0, .ref h0), (1, .int (nI rr)), (2, .int (nI nn)), (3, .int 1), (4, .int 4), (5, .int (nI ((nn + 4 - 1) / 4))), (6, .int (nI (k + 1)))] rfl ?_
                      refine jr_widen (k' := (24 * (k + 1) + 743)) (n' := (144 * (k + 1) + 4458)) (by omega) (by omega) ?_
                      exact ih30 (k + 1) (by omega) (by omega)
                    · have n79 := jle_not (a := nn) (b := (4 * k + i9)) c79 (by omega) (by omega)
                      refine jr_pc (pc' := 112) rfl ?_
                      refine jr_aload_n CC (jd ddL_isGrouped 66 rfl) 0 rfl ?_
                      refine jr_iload_n CC (jd ddL_isGrouped 67 rfl) 1 rfl ?_
                      refine jr_iconst (v := 1) CC (jd ddL_isGrouped 68 rfl) (by decide) ?_
                      refine jr_iload CC (jd ddL_isGrouped 69 rfl) 12 rfl ?_
                      refine jr_norm (([(h0, .inr (9, [.ref x1, .ref x2, .ref x3, .ref x4, .ref x5, .ref x6, .int fi])), (x2, .inr (5, jmem M ca cg)), (ca, .inl (t 2, 8, .inr (.inr (.inr (.inr (jcaps ad))))))] : va_W) ++ jpool t ad K) [.int (nI (4 * k + i9)), .int 1, .int (nI rr), .ref h0] 117 (24 * k + 3 * i9 + 755) (144 * k + 18 * i9 + 4530) rfl rfl rfl rfl rfl ?_
                      refine jr_callW (rest := []) [.ref h0, .int (nI rr), .int 1, .int (nI (4 * k + i9))] CC (jd ddL_isGrouped 70 rfl) (jy_L_117 CC) (k_L_value l t hfl h0 x1 x2 x3 x4 x5 x6 fi M ca cg ad K m8 (nI rr) 1 (nI (4 * k + i9)) hM1 hm8 hK) ([0, 1, 2] ++ (List.range 32).map (fun i => 3 + i)) (jpool_isC 3 rfl (is := [0, 1, 2]) rfl (by decide)) (by decide) rfl rfl ⟨by decide, Nat.le_of_ble_eq_true rfl, show (24 * k + 3 * i9 + 755) + 3 ≤ 2035 from by omega, show (144 * k + 18 * i9 + 4530) + 18 ≤ 12210 from by omega⟩ (Nat.le_of_ble_eq_true rfl) (by rintro v u h; rcases h with ⟨rfl, rfl⟩ <;> exact jpool_same rfl) (fun _ _ h => h.elim) (fun _ _ h => h.elim) (fun v u h => ?_)
                      rcases h with ⟨rfl, rfl⟩
                      refine jr_ws (jput [(h0, .inr (9, [.ref x1, .ref x2, .ref x3, .ref x4, .ref x5, .ref x6, .int fi])), (x2, .inr (5, jmem M ca cg)), (ca, .inl (t 2, 8, .inr (.inr (.inr (.inr (jcaps ad))))))] [0, 1, 2] [(h0, .inr (9, [.ref x1, .ref x2, .ref x3, .ref x4, .ref x5, .ref x6, .int fi])), (x2, .inr (5, jmem M ca cg)), (ca, .inl (t 2, 8, .inr (.inr (.inr (.inr (jcaps ad))))))] ++ jpool t ad K) (jpool_after 3 rfl rfl rfl (by decide)) ?_
                      refine jr_norm (([(h0, .inr (9, [.ref x1, .ref x2, .ref x3, .ref x4, .ref x5, .ref x6, .int fi])), (x2, .inr (5, jmem M ca cg)), (ca, .inl (t 2, 8, .inr (.inr (.inr (.inr (jcaps ad))))))] : va_W) ++ jpool t ad K) [.int (wP (eVal (M 1) (nI rr) (K (nI rr).toNatClampNeg).2.2.1 (nI (4 * k + i9)) 1) (jat (K (nI rr).toNatClampNeg) 1 (nI (4 * k + i9)).toNatClampNeg) (-300) (-200) 0 0)] 120 (24 * k + 3 * i9 + 758) (144 * k + 18 * i9 + 4548) rfl rfl rfl rfl rfl ?_
                      refine jr_st [.int (jat (K rr) 1 (4 * k + i9))] (jst1 (wv_in hM1 hm8 hrr hnn hn49 jin01.2.1 (by omega) _ _ _ _)) ?_
                      refine jr_istore [(13, .int (jat (K rr) 1 (4 * k + i9))), (0, .ref h0), (1, .int (nI rr)), (2, .int (nI nn)), (3, .int 1), (4, .int 4), (5, .int (nI ((nn + 4 - 1) / 4))), (6, .int (nI k)), (7, .int lo), (8, .int hi), (9, .int mn), (10, .int sm), (11, .int (nI i9)), (12, .int (nI (4 * k + i9)))] CC (jd ddL_isGrouped 71 rfl) (by decide) rfl ?_
                      refine jr_iload_n CC (jd ddL_isGrouped 72 rfl) 4 rfl ?_
                      refine jr_if_eq 144 CC (jd ddL_isGrouped 73 rfl) (by decide) (fun h => absurd h (by decide)) (fun _ => ?_)
                      refine jr_iload CC (jd ddL_isGrouped 74 rfl) 8 rfl ?_
                      refine jr_iload CC (jd ddL_isGrouped 75 rfl) 0 rfl ?_
                      refine jr_icmp_gt 144 CC (jd ddL_isGrouped 76 rfl) (by decide) (fun h => absurd h (f1 _ (by omega) (by omega)).1) (fun _ => ?_)
                      refine jr_iload CC (jd ddL_isGrouped 77 rfl) 0 rfl ?_
                      refine jr_iload CC (jd ddL_isGrouped 78 rfl) 9 rfl ?_
                      refine jr_icmp_gt 144 CC (jd ddL_isGrouped 79 rfl) (by decide) (fun h => absurd h (f1 _ (by omega) (by omega)).2) (fun _ => ?_)
                      refine jr_iconst (v := 1) CC (jd ddL_isGrouped 80 rfl) (by decide) ?_
                      refine jr_pc (pc' := 141) rfl ?_
                      refine jr_goto 145 CC (jd ddL_isGrouped 81 rfl) (by decide) ?_
                      refine jr_istore_n 3 [(3, .int 1), (13, .int (jat (K rr) 1 (4 * k + i9))), (0, .ref h0), (1, .int (nI rr)), (2, .int (nI nn)), (4, .int 4), (5, .int (nI ((nn + 4 - 1) / 4))), (6, .int (nI k)), (7, .int lo), (8, .int hi), (9, .int mn), (10, .int sm), (11, .int (nI i9)), (12, .int (nI (4 * k + i9)))] CC (jd ddL_isGrouped 83 rfl) rfl (by decide) rfl ?_
                      refine jr_iload CC (jd ddL_isGrouped 84 rfl) 11 rfl ?_
                      refine jr_iload CC (jd ddL_isGrouped 85 rfl) 1 rfl ?_
                      refine jr_iadd CC (jd ddL_isGrouped 86 rfl) ?_
                      refine jr_istore [(10, .int (sm + (jat (K rr) 1 (4 * k + i9)))), (3, .int 1), (13, .int (jat (K rr) 1 (4 * k + i9))), (0, .ref h0), (1, .int (nI rr)), (2, .int (nI nn)), (4, .int 4), (5, .int (nI ((nn + 4 - 1) / 4))), (6, .int (nI k)), (7, .int lo), (8, .int hi), (9, .int mn), (11, .int (nI i9)), (12, .int (nI (4 * k + i9)))] CC (jd ddL_isGrouped 87 rfl) (by decide) rfl ?_
                      refine jr_iinc [(11, .int (nI (i9 + 1))), (10, .int (sm + (jat (K rr) 1 (4 * k + i9)))), (3, .int 1), (13, .int (jat (K rr) 1 (4 * k + i9))), (0, .ref h0), (1, .int (nI rr)), (2, .int (nI nn)), (4, .int 4), (5, .int (nI ((nn + 4 - 1) / 4))), (6, .int (nI k)), (7, .int lo), (8, .int hi), (9, .int mn), (12, .int (nI (4 * k + i9)))] CC (jd ddL_isGrouped 88 rfl) 12 rfl (nI_1 _) (by decide) rfl ?_
                      refine jr_iinc [(12, .int (nI (4 * k + i9 + 1))), (11, .int (nI (i9 + 1))), (10, .int (sm + (jat (K rr) 1 (4 * k + i9)))), (3, .int 1), (13, .int (jat (K rr) 1 (4 * k + i9))), (0, .ref h0), (1, .int (nI rr)), (2, .int (nI nn)), (4, .int 4), (5, .int (nI ((nn + 4 - 1) / 4))), (6, .int (nI k)), (7, .int lo), (8, .int hi), (9, .int mn)] CC (jd ddL_isGrouped 89 rfl) 13 rfl (nI_1 _) (by decide) rfl ?_
                      refine jr_goto 93 CC (jd ddL_isGrouped 90 rfl) (by decide) ?_
                      refine jr_norm (([(h0, .inr (9, [.ref x1, .ref x2, .ref x3, .ref x4, .ref x5, .ref x6, .int fi])), (x2, .inr (5, jmem M ca cg)), (ca, .inl (t 2, 8, .inr (.inr (.inr (.inr (jcaps ad))))))] : va_W) ++ jpool t ad K) [] 93 (24 * k + 3 * i9 + 758) (144 * k + 18 * i9 + 4548) rfl rfl rfl rfl rfl ?_
                      refine jr_lv [5, 6, 7, 3, 8, 9, 10, 11, 12, 13, 2, 1, 0] [(0, .ref h0), (1, .int (nI rr)), (2, .int (nI nn)), (3, .int 1), (4, .int 4), (5, .int (nI ((nn + 4 - 1) / 4))), (6, .int (nI k)), (7, .int lo), (8, .int hi), (9, .int mn), (10, .int (sm + (jat (K rr) 1 (4 * k + i9)))), (11, .int (nI (i9 + 1))), (12, .int (nI (4 * k + (i9 + 1))))] rfl ?_
                      refine jr_widen (k' := (24 * k + 3 * (i9 + 1) + 755)) (n' := (144 * k + 18 * (i9 + 1) + 4530)) (by omega) (by omega) ?_
                      exact ih93 (i9 + 1) (sm + (jat (K rr) 1 (4 * k + i9))) (by omega) (by rw [hq, show (min (4 * k + 4) nn - 4 * k) - i9 = ((min (4 * k + 4) nn - 4 * k) - (i9 + 1)) + 1 by omega]; rfl) (by omega)
              refine jr_norm (([(h0, .inr (9, [.ref x1, .ref x2, .ref x3, .ref x4, .ref x5, .ref x6, .int fi])), (x2, .inr (5, jmem M ca cg)), (ca, .inl (t 2, 8, .inr (.inr (.inr (.inr (jcaps ad))))))] : va_W) ++ jpool t ad K) [] 93 (24 * k + 755) (144 * k + 4530) rfl rfl rfl rfl rfl ?_
              refine jr_lv [6, 7, 8, 9, 10, 11, 12, 5, 4, 3, 2, 1, 0] [(0, .ref h0), (1, .int (nI rr)), (2, .int (nI nn)), (3, .int 1), (4, .int 4), (5, .int (nI ((nn + 4 - 1) / 4))), (6, .int (nI k)), (7, .int lo), (8, .int hi), (9, .int mn), (10, .int 0), (11, .int (nI 0)), (12, .int (nI (4 * k + 0)))] rfl ?_
              refine jr_widen (k' := (24 * k + 3 * 0 + 755)) (n' := (144 * k + 18 * 0 + 4530)) (by omega) (by omega) ?_
              exact hL76 ((min (4 * k + 4) nn - 4 * k) - 0 + 1) 0 0 (Nat.zero_le _) rfl (Nat.lt_succ_self _)
        refine jr_norm (([(h0, .inr (9, [.ref x1, .ref x2, .ref x3, .ref x4, .ref x5, .ref x6, .int fi])), (x2, .inr (5, jmem M ca cg)), (ca, .inl (t 2, 8, .inr (.inr (.inr (.inr (jcaps ad))))))] : va_W) ++ jpool t ad K) [] 30 743 4458 rfl rfl rfl rfl rfl ?_
        refine jr_lv [4, 5, 6, 3, 2, 1, 0] [(0, .ref h0), (1, .int (nI rr)), (2, .int (nI nn)), (3, .int 1), (4, .int 4), (5, .int (nI ((nn + 4 - 1) / 4))), (6, .int (nI 0))] rfl ?_
        refine jr_widen (k' := (24 * 0 + 743)) (n' := (144 * 0 + 4458)) (by omega) (by omega) ?_
        exact hL10 (((nn + 4 - 1) / 4) - 0 + 1) 0 (Nat.zero_le _) (Nat.lt_succ_self _)
      · have n4 := jle_not (a := ((nn + 1 - 1) / 1)) (b := k) c4 (by omega) (by omega)
        refine jr_iload_n CC (jd ddL_isGrouped 22 rfl) 3 rfl ?_
        refine jr_if_eq 214 CC (jd ddL_isGrouped 23 rfl) (by decide) (fun h => absurd h (by decide)) (fun _ => ?_)
        have hsk : 1 * k < nn := by omega
        obtain ⟨lo, hi, mn, e1, e2, e3, f1, f2, f3, f4, f5⟩ := grp_all hM1 hm8 hrr hnn hn49 hf (s := 1) (k := k) (by decide) (by decide) hsk
        refine jr_aload_n CC (jd ddL_isGrouped 24 rfl) 0 rfl ?_
        refine jr_iconst (v := 0) CC (jd ddL_isGrouped 25 rfl) (by decide) ?_
        refine jr_iload_n CC (jd ddL_isGrouped 26 rfl) 1 rfl ?_
        refine jr_iconst (v := 1) CC (jd ddL_isGrouped 27 rfl) (by decide) ?_
        refine jr_iload CC (jd ddL_isGrouped 28 rfl) 4 rfl ?_
        refine jr_pc (pc' := 47) rfl ?_
        refine jr_iload CC (jd ddL_isGrouped 29 rfl) 6 rfl ?_
        refine jr_norm (([(h0, .inr (9, [.ref x1, .ref x2, .ref x3, .ref x4, .ref x5, .ref x6, .int fi])), (x2, .inr (5, jmem M ca cg)), (ca, .inl (t 2, 8, .inr (.inr (.inr (.inr (jcaps ad))))))] : va_W) ++ jpool t ad K) [.int (nI k), .int 1, .int 1, .int (nI rr), .int 0, .ref h0] 49 (15 * k + 0) (90 * k + 0) rfl rfl rfl rfl rfl ?_
        refine jr_callW (rest := []) [.ref h0, .int 0, .int (nI rr), .int 1, .int 1, .int (nI k)] CC (jd ddL_isGrouped 30 rfl) (jy_L_143 CC) (k_L_grouped0 l t hfl h0 x1 x2 x3 x4 x5 x6 fi M ca cg ad K m8 (nI rr) 1 1 (nI k) hM1 hm8 hK) ([0, 1, 2] ++ (List.range 32).map (fun i => 3 + i)) (jpool_isC 3 rfl (is := [0, 1, 2]) rfl (by decide)) (by decide) rfl rfl ⟨by decide, Nat.le_of_ble_eq_true rfl, show (15 * k + 0) + 4 ≤ 2035 from by omega, show (90 * k + 0) + 24 ≤ 12210 from by omega⟩ (Nat.le_of_ble_eq_true rfl) (by rintro v u h; rcases h with ⟨rfl, rfl⟩ <;> exact jpool_same rfl) (fun _ _ h => h.elim) (fun _ _ h => h.elim) (fun v u h => ?_)
        rcases h with ⟨rfl, rfl⟩
        refine jr_ws (jput [(h0, .inr (9, [.ref x1, .ref x2, .ref x3, .ref x4, .ref x5, .ref x6, .int fi])), (x2, .inr (5, jmem M ca cg)), (ca, .inl (t 2, 8, .inr (.inr (.inr (.inr (jcaps ad))))))] [0, 1, 2] [(h0, .inr (9, [.ref x1, .ref x2, .ref x3, .ref x4, .ref x5, .ref x6, .int fi])), (x2, .inr (5, jmem M ca cg)), (ca, .inl (t 2, 8, .inr (.inr (.inr (.inr (jcaps ad))))))] ++ jpool t ad K) (jpool_after 3 rfl rfl rfl (by decide)) ?_
        refine jr_norm (([(h0, .inr (9, [.ref x1, .ref x2, .ref x3, .ref x4, .ref x5, .ref x6, .int fi])), (x2, .inr (5, jmem M ca cg)), (ca, .inl (t 2, 8, .inr (.inr (.inr (.inr (jcaps ad))))))] : va_W) ++ jpool t ad K) [.int (wP (eGrp (M 1) (nI rr) (K (nI rr).toNatClampNeg).2.2.1 1 1 (nI k)) (cLow (K (nI rr).toNatClampNeg) 1 1 (nI k)) (-200) (-300) 0 0)] 52 (15 * k + 4) (90 * k + 24) rfl rfl rfl rfl rfl ?_
        refine jr_st [.int lo] (jst1 (e1)) ?_
        refine jr_istore [(7, .int lo), (0, .ref h0), (1, .int (nI rr)), (2, .int (nI nn)), (3, .int 1), (4, .int 1), (5, .int (nI ((nn + 1 - 1) / 1))), (6, .int (nI k))] CC (jd ddL_isGrouped 31 rfl) (by decide) rfl ?_
        refine jr_aload_n CC (jd ddL_isGrouped 32 rfl) 1 rfl ?_
        refine jr_iconst (v := 1) CC (jd ddL_isGrouped 33 rfl) (by decide) ?_
        refine jr_iload_n CC (jd ddL_isGrouped 34 rfl) 2 rfl ?_
        refine jr_iconst (v := 1) CC (jd ddL_isGrouped 35 rfl) (by decide) ?_
        refine jr_iload CC (jd ddL_isGrouped 36 rfl) 5 rfl ?_
        refine jr_iload CC (jd ddL_isGrouped 37 rfl) 7 rfl ?_
        refine jr_norm (([(h0, .inr (9, [.ref x1, .ref x2, .ref x3, .ref x4, .ref x5, .ref x6, .int fi])), (x2, .inr (5, jmem M ca cg)), (ca, .inl (t 2, 8, .inr (.inr (.inr (.inr (jcaps ad))))))] : va_W) ++ jpool t ad K) [.int (nI k), .int 1, .int 1, .int (nI rr), .int 1, .ref h0] 62 (15 * k + 4) (90 * k + 24) rfl rfl rfl rfl rfl ?_
        refine jr_callW (rest := []) [.ref h0, .int 1, .int (nI rr), .int 1, .int 1, .int (nI k)] CC (jd ddL_isGrouped 38 rfl) (jy_L_143 CC) (k_L_grouped1 l t hfl h0 x1 x2 x3 x4 x5 x6 fi M ca cg ad K m8 (nI rr) 1 1 (nI k) hM1 hm8 hK) ([0, 1, 2] ++ (List.range 32).map (fun i => 3 + i)) (jpool_isC 3 rfl (is := [0, 1, 2]) rfl (by decide)) (by decide) rfl rfl ⟨by decide, Nat.le_of_ble_eq_true rfl, show (15 * k + 4) + 4 ≤ 2035 from by omega, show (90 * k + 24) + 24 ≤ 12210 from by omega⟩ (Nat.le_of_ble_eq_true rfl) (by rintro v u h; rcases h with ⟨rfl, rfl⟩ <;> exact jpool_same rfl) (fun _ _ h => h.elim) (fun _ _ h => h.elim) (fun v u h => ?_)
        rcases h with ⟨rfl, rfl⟩
        refine jr_ws (jput [(h0, .inr (9, [.ref x1, .ref x2, .ref x3, .ref x4, .ref x5, .ref x6, .int fi])), (x2, .inr (5, jmem M ca cg)), (ca, .inl (t 2, 8, .inr (.inr (.inr (.inr (jcaps ad))))))] [0, 1, 2] [(h0, .inr (9, [.ref x1, .ref x2, .ref x3, .ref x4, .ref x5, .ref x6, .int fi])), (x2, .inr (5, jmem M ca cg)), (ca, .inl (t 2, 8, .inr (.inr (.inr (.inr (jcaps ad))))))] ++ jpool t ad K) (jpool_after 3 rfl rfl rfl (by decide)) ?_
        refine jr_norm (([(h0, .inr (9, [.ref x1, .ref x2, .ref x3, .ref x4, .ref x5, .ref x6, .int fi])), (x2, .inr (5, jmem M ca cg)), (ca, .inl (t 2, 8, .inr (.inr (.inr (.inr (jcaps ad))))))] : va_W) ++ jpool t ad K) [.int (wP (eGrp (M 1) (nI rr) (K (nI rr).toNatClampNeg).2.2.1 1 1 (nI k)) (cHigh (K (nI rr).toNatClampNeg) 1 1 (nI k)) (-200) (-300) 0 0)] 65 (15 * k + 8) (90 * k + 48) rfl rfl rfl rfl rfl ?_
        refine jr_st [.int hi] (jst1 (e2)) ?_
        refine jr_istore [(8, .int hi), (7, .int lo), (0, .ref h0), (1, .int (nI rr)), (2, .int (nI nn)), (3, .int 1), (4, .int 1), (5, .int (nI ((nn + 1 - 1) / 1))), (6, .int (nI k))] CC (jd ddL_isGrouped 39 rfl) (by decide) rfl ?_
        refine jr_aload_n CC (jd ddL_isGrouped 40 rfl) 2 rfl ?_
        refine jr_iconst (v := 2) CC (jd ddL_isGrouped 41 rfl) (by decide) ?_
        refine jr_iload_n CC (jd ddL_isGrouped 42 rfl) 3 rfl ?_
        refine jr_iconst (v := 1) CC (jd ddL_isGrouped 43 rfl) (by decide) ?_
        refine jr_iload CC (jd ddL_isGrouped 44 rfl) 6 rfl ?_
        refine jr_iload CC (jd ddL_isGrouped 45 rfl) 8 rfl ?_
        refine jr_norm (([(h0, .inr (9, [.ref x1, .ref x2, .ref x3, .ref x4, .ref x5, .ref x6, .int fi])), (x2, .inr (5, jmem M ca cg)), (ca, .inl (t 2, 8, .inr (.inr (.inr (.inr (jcaps ad))))))] : va_W) ++ jpool t ad K) [.int (nI k), .int 1, .int 1, .int (nI rr), .int 2, .ref h0] 75 (15 * k + 8) (90 * k + 48) rfl rfl rfl rfl rfl ?_
        refine jr_callW (rest := []) [.ref h0, .int 2, .int (nI rr), .int 1, .int 1, .int (nI k)] CC (jd ddL_isGrouped 46 rfl) (jy_L_143 CC) (k_L_grouped2 l t hfl h0 x1 x2 x3 x4 x5 x6 fi M ca cg ad K m8 (nI rr) 1 1 (nI k) hM1 hm8 hK) ([0, 1, 2] ++ (List.range 32).map (fun i => 3 + i)) (jpool_isC 3 rfl (is := [0, 1, 2]) rfl (by decide)) (by decide) rfl rfl ⟨by decide, Nat.le_of_ble_eq_true rfl, show (15 * k + 8) + 4 ≤ 2035 from by omega, show (90 * k + 48) + 24 ≤ 12210 from by omega⟩ (Nat.le_of_ble_eq_true rfl) (by rintro v u h; rcases h with ⟨rfl, rfl⟩ <;> exact jpool_same rfl) (fun _ _ h => h.elim) (fun _ _ h => h.elim) (fun v u h => ?_)
        rcases h with ⟨rfl, rfl⟩
        refine jr_ws (jput [(h0, .inr (9, [.ref x1, .ref x2, .ref x3, .ref x4, .ref x5, .ref x6, .int fi])), (x2, .inr (5, jmem M ca cg)), (ca, .inl (t 2, 8, .inr (.inr (.inr (.inr (jcaps ad))))))] [0, 1, 2] [(h0, .inr (9, [.ref x1, .ref x2, .ref x3, .ref x4, .ref x5, .ref x6, .int fi])), (x2, .inr (5, jmem M ca cg)), (ca, .inl (t 2, 8, .inr (.inr (.inr (.inr (jcaps ad))))))] ++ jpool t ad K) (jpool_after 3 rfl rfl rfl (by decide)) ?_
        refine jr_norm (([(h0, .inr (9, [.ref x1, .ref x2, .ref x3, .ref x4, .ref x5, .ref x6, .int fi])), (x2, .inr (5, jmem M ca cg)), (ca, .inl (t 2, 8, .inr (.inr (.inr (.inr (jcaps ad))))))] : va_W) ++ jpool t ad K) [.int (wP (eGrp (M 1) (nI rr) (K (nI rr).toNatClampNeg).2.2.1 1 1 (nI k)) (cMean (K (nI rr).toNatClampNeg) 1 1 (nI k)) (-200) (-300) 0 0)] 78 (15 * k + 12) (90 * k + 72) rfl rfl rfl rfl rfl ?_
        refine jr_st [.int mn] (jst1 (e3)) ?_
        refine jr_istore [(9, .int mn), (8, .int hi), (7, .int lo), (0, .ref h0), (1, .int (nI rr)), (2, .int (nI nn)), (3, .int 1), (4, .int 1), (5, .int (nI ((nn + 1 - 1) / 1))), (6, .int (nI k))] CC (jd ddL_isGrouped 47 rfl) (by decide) rfl ?_
        refine jr_iconst (v := 0) CC (jd ddL_isGrouped 48 rfl) (by decide) ?_
        refine jr_istore [(10, .int 0), (9, .int mn), (8, .int hi), (7, .int lo), (0, .ref h0), (1, .int (nI rr)), (2, .int (nI nn)), (3, .int 1), (4, .int 1), (5, .int (nI ((nn + 1 - 1) / 1))), (6, .int (nI k))] CC (jd ddL_isGrouped 49 rfl) (by decide) rfl ?_
        refine jr_iconst (v := 0) CC (jd ddL_isGrouped 50 rfl) (by decide) ?_
        refine jr_istore [(11, .int 0), (10, .int 0), (9, .int mn), (8, .int hi), (7, .int lo), (0, .ref h0), (1, .int (nI rr)), (2, .int (nI nn)), (3, .int 1), (4, .int 1), (5, .int (nI ((nn + 1 - 1) / 1))), (6, .int (nI k))] CC (jd ddL_isGrouped 51 rfl) (by decide) rfl ?_
        refine jr_iload CC (jd ddL_isGrouped 52 rfl) 9 rfl ?_
        refine jr_iload CC (jd ddL_isGrouped 53 rfl) 11 rfl ?_
        refine jr_imul CC (jd ddL_isGrouped 54 rfl) ?_
        refine jr_st [.int (nI (1 * k))] (jst1 (pk_mul 1 k)) ?_
        refine jr_istore [(12, .int (nI (1 * k))), (11, .int 0), (10, .int 0), (9, .int mn), (8, .int hi), (7, .int lo), (0, .ref h0), (1, .int (nI rr)), (2, .int (nI nn)), (3, .int 1), (4, .int 1), (5, .int (nI ((nn + 1 - 1) / 1))), (6, .int (nI k))] CC (jd ddL_isGrouped 55 rfl) (by decide) rfl ?_
        have hL83 : ∀ (d9 : Nat) (i9 : Nat) (sm : Int32) (hm : i9 ≤ (min (1 * k + 1) nn - 1 * k)) (hq : jsum (jat (K rr) 1) (min (1 * k + 1) nn - 1 * k) (1 * k) 0 = jsum (jat (K rr) 1) ((min (1 * k + 1) nn - 1 * k) - i9) (1 * k + i9) sm), (min (1 * k + 1) nn - 1 * k) - i9 < d9 → J p l e { frames := 11, cells := 2035, slots := 12210, locals := 203 } s m args below meth c D A 14 Q (([(h0, .inr (9, [.ref x1, .ref x2, .ref x3, .ref x4, .ref x5, .ref x6, .int fi])), (x2, .inr (5, jmem M ca cg)), (ca, .inl (t 2, 8, .inr (.inr (.inr (.inr (jcaps ad))))))] : va_W) ++ jpool t ad K) [(0, .ref h0), (1, .int (nI rr)), (2, .int (nI nn)), (3, .int 1), (4, .int 1), (5, .int (nI ((nn + 1 - 1) / 1))), (6, .int (nI k)), (7, .int lo), (8, .int hi), (9, .int mn), (10, .int sm), (11, .int (nI i9)), (12, .int (nI (1 * k + i9)))] 93 [] (15 * k + 3 * i9 + 12) (90 * k + 18 * i9 + 72) := by
          intro d9
          induction d9 with
          | zero => intro i9 sm hm hq hmu; exact absurd hmu (Nat.not_lt_zero _)
          | succ d9 ih93 =>
            intro i9 sm hm hq hmu
            refine jr_iload CC (jd ddL_isGrouped 56 rfl) 12 rfl ?_
            refine jr_iload CC (jd ddL_isGrouped 57 rfl) 4 rfl ?_
            refine jr_iload CC (jd ddL_isGrouped 58 rfl) 6 rfl ?_
            refine jr_imul CC (jd ddL_isGrouped 59 rfl) ?_
            refine jr_st [.int (nI (1 * k)), .int (nI (1 * k + i9))] (jst1 (pk_mul 1 k)) ?_
            refine jr_iload CC (jd ddL_isGrouped 60 rfl) 4 rfl ?_
            refine jr_iadd CC (jd ddL_isGrouped 61 rfl) ?_
            refine jr_st [.int (nI ((1 * k) + 1)), .int (nI (1 * k + i9))] (jst1 (nI_add (1 * k) 1)) ?_
            refine jr_icmp_ge 162 CC (jd ddL_isGrouped 62 rfl) (by decide) (fun c84 => ?_) (fun c84 => ?_)
            · have n84 := jle_of (a := ((1 * k) + 1)) (b := (1 * k + i9)) c84 (by omega) (by omega)
              refine jr_widen (k' := (15 * k + 15)) (n' := (90 * k + 90)) (by omega) (by omega) ?_
              have hmN : i9 = (min (1 * k + 1) nn - 1 * k) := by omega
              have hsm : jsum (jat (K rr) 1) (min (1 * k + 1) nn - 1 * k) (1 * k) 0 = sm := hq.trans (by rw [show (min (1 * k + 1) nn - 1 * k) - i9 = 0 by omega]; rfl)
              refine jr_iload_n CC (jd ddL_isGrouped 91 rfl) 3 rfl ?_
              refine jr_if_eq 206 CC (jd ddL_isGrouped 92 rfl) (by decide) (fun h => absurd h (by decide)) (fun _ => ?_)
              refine jr_iload CC (jd ddL_isGrouped 93 rfl) 7 rfl ?_
              refine jr_pc (pc' := 168) rfl ?_
              refine jr_iload CC (jd ddL_isGrouped 94 rfl) 9 rfl ?_
              refine jr_icmp_gt 206 CC (jd ddL_isGrouped 95 rfl) (by decide) (fun h => absurd h f2) (fun _ => ?_)
              refine jr_iload CC (jd ddL_isGrouped 96 rfl) 9 rfl ?_
              refine jr_iload CC (jd ddL_isGrouped 97 rfl) 8 rfl ?_
              refine jr_icmp_gt 206 CC (jd ddL_isGrouped 98 rfl) (by decide) (fun h => absurd h f3) (fun _ => ?_)
              refine jr_iload CC (jd ddL_isGrouped 99 rfl) 9 rfl ?_
              refine jr_iload CC (jd ddL_isGrouped 100 rfl) 11 rfl ?_
              refine jr_imul CC (jd ddL_isGrouped 101 rfl) ?_
              refine jr_iload CC (jd ddL_isGrouped 102 rfl) 10 rfl ?_
              refine jr_icmp_gt 206 CC (jd ddL_isGrouped 103 rfl) (by decide) (fun h => absurd h (by rw [hmN, ← hsm]; exact f4)) (fun _ => ?_)
              refine jr_pc (pc' := 190) rfl ?_
              refine jr_iload CC (jd ddL_isGrouped 104 rfl) 10 rfl ?_
              refine jr_iload CC (jd ddL_isGrouped 105 rfl) 9 rfl ?_
              refine jr_iconst (v := 1) CC (jd ddL_isGrouped 106 rfl) (by decide) ?_
              refine jr_iadd CC (jd ddL_isGrouped 107 rfl) ?_
              refine jr_iload CC (jd ddL_isGrouped 108 rfl) 11 rfl ?_
              refine jr_imul CC (jd ddL_isGrouped 109 rfl) ?_
              refine jr_icmp_ge 206 CC (jd ddL_isGrouped 110 rfl) (by decide) (fun h => absurd h (by rw [hmN, ← hsm]; exact f5)) (fun _ => ?_)
              refine jr_iconst (v := 1) CC (jd ddL_isGrouped 111 rfl) (by decide) ?_
              refine jr_goto 207 CC (jd ddL_isGrouped 112 rfl) (by decide) ?_
              refine jr_istore_n 3 [(3, .int 1), (0, .ref h0), (1, .int (nI rr)), (2, .int (nI nn)), (4, .int 1), (5, .int (nI ((nn + 1 - 1) / 1))), (6, .int (nI k)), (7, .int lo), (8, .int hi), (9, .int mn), (10, .int sm), (11, .int (nI i9)), (12, .int (nI (1 * k + i9)))] CC (jd ddL_isGrouped 114 rfl) rfl (by decide) rfl ?_
              refine jr_iinc [(6, .int (nI (k + 1))), (3, .int 1), (0, .ref h0), (1, .int (nI rr)), (2, .int (nI nn)), (4, .int 1), (5, .int (nI ((nn + 1 - 1) / 1))), (7, .int lo), (8, .int hi), (9, .int mn), (10, .int sm), (11, .int (nI i9)), (12, .int (nI (1 * k + i9)))] CC (jd ddL_isGrouped 115 rfl) 6 rfl (nI_1 _) (by decide) rfl ?_
              refine jr_goto 30 CC (jd ddL_isGrouped 116 rfl) (by decide) ?_
              refine jr_norm (([(h0, .inr (9, [.ref x1, .ref x2, .ref x3, .ref x4, .ref x5, .ref x6, .int fi])), (x2, .inr (5, jmem M ca cg)), (ca, .inl (t 2, 8, .inr (.inr (.inr (.inr (jcaps ad))))))] : va_W) ++ jpool t ad K) [] 30 (15 * k + 15) (90 * k + 90) rfl rfl rfl rfl rfl ?_
              refine jr_lv [2, 3, 4, 1, 5, 6, 0] [(0, .ref h0), (1, .int (nI rr)), (2, .int (nI nn)), (3, .int 1), (4, .int 1), (5, .int (nI ((nn + 1 - 1) / 1))), (6, .int (nI (k + 1)))] rfl ?_
              refine jr_widen (k' := (15 * (k + 1) + 0)) (n' := (90 * (k + 1) + 0)) (by omega) (by omega) ?_
              exact ih30 (k + 1) (by omega) (by omega)
            · have n84 := jle_not (a := ((1 * k) + 1)) (b := (1 * k + i9)) c84 (by omega) (by omega)
              refine jr_iload CC (jd ddL_isGrouped 63 rfl) 12 rfl ?_
              refine jr_iload_n CC (jd ddL_isGrouped 64 rfl) 2 rfl ?_
              refine jr_icmp_ge 162 CC (jd ddL_isGrouped 65 rfl) (by decide) (fun c86 => ?_) (fun c86 => ?_)
              · have n86 := jle_of (a := nn) (b := (1 * k + i9)) c86 (by omega) (by omega)
                refine jr_widen (k' := (15 * k + 15)) (n' := (90 * k + 90)) (by omega) (by omega) ?_
                have hmN : i9 = (min (1 * k + 1) nn - 1 * k) := by omega
                have hsm : jsum (jat (K rr) 1) (min (1 * k + 1) nn - 1 * k) (1 * k) 0 = sm := hq.trans (by rw [show (min (1 * k + 1) nn - 1 * k) - i9 = 0 by omega]; rfl)
                refine jr_pc (pc' := 162) rfl ?_
                refine jr_iload_n CC (jd ddL_isGrouped 91 rfl) 3 rfl ?_
                refine jr_if_eq 206 CC (jd ddL_isGrouped 92 rfl) (by decide) (fun h => absurd h (by decide)) (fun _ => ?_)
                refine jr_iload CC (jd ddL_isGrouped 93 rfl) 7 rfl ?_
                refine jr_iload CC (jd ddL_isGrouped 94 rfl) 9 rfl ?_
                refine jr_icmp_gt 206 CC (jd ddL_isGrouped 95 rfl) (by decide) (fun h => absurd h f2) (fun _ => ?_)
                refine jr_iload CC (jd ddL_isGrouped 96 rfl) 9 rfl ?_
                refine jr_iload CC (jd ddL_isGrouped 97 rfl) 8 rfl ?_
                refine jr_icmp_gt 206 CC (jd ddL_isGrouped 98 rfl) (by decide) (fun h => absurd h f3) (fun _ => ?_)
                refine jr_iload CC (jd ddL_isGrouped 99 rfl) 9 rfl ?_
                refine jr_iload CC (jd ddL_isGrouped 100 rfl) 11 rfl ?_
                refine jr_pc (pc' := 184) rfl ?_
                refine jr_imul CC (jd ddL_isGrouped 101 rfl) ?_
                refine jr_iload CC (jd ddL_isGrouped 102 rfl) 10 rfl ?_
                refine jr_icmp_gt 206 CC (jd ddL_isGrouped 103 rfl) (by decide) (fun h => absurd h (by rw [hmN, ← hsm]; exact f4)) (fun _ => ?_)
                refine jr_iload CC (jd ddL_isGrouped 104 rfl) 10 rfl ?_
                refine jr_iload CC (jd ddL_isGrouped 105 rfl) 9 rfl ?_
                refine jr_iconst (v := 1) CC (jd ddL_isGrouped 106 rfl) (by decide) ?_
                refine jr_iadd CC (jd ddL_isGrouped 107 rfl) ?_
                refine jr_iload CC (jd ddL_isGrouped 108 rfl) 11 rfl ?_
                refine jr_imul CC (jd ddL_isGrouped 109 rfl) ?_
                refine jr_icmp_ge 206 CC (jd ddL_isGrouped 110 rfl) (by decide) (fun h => absurd h (by rw [hmN, ← hsm]; exact f5)) (fun _ => ?_)
                refine jr_pc (pc' := 202) rfl ?_
                refine jr_iconst (v := 1) CC (jd ddL_isGrouped 111 rfl) (by decide) ?_
                refine jr_goto 207 CC (jd ddL_isGrouped 112 rfl) (by decide) ?_
                refine jr_istore_n 3 [(3, .int 1), (0, .ref h0), (1, .int (nI rr)), (2, .int (nI nn)), (4, .int 1), (5, .int (nI ((nn + 1 - 1) / 1))), (6, .int (nI k)), (7, .int lo), (8, .int hi), (9, .int mn), (10, .int sm), (11, .int (nI i9)), (12, .int (nI (1 * k + i9)))] CC (jd ddL_isGrouped 114 rfl) rfl (by decide) rfl ?_
                refine jr_iinc [(6, .int (nI (k + 1))), (3, .int 1), (0, .ref h0), (1, .int (nI rr)), (2, .int (nI nn)), (4, .int 1), (5, .int (nI ((nn + 1 - 1) / 1))), (7, .int lo), (8, .int hi), (9, .int mn), (10, .int sm), (11, .int (nI i9)), (12, .int (nI (1 * k + i9)))] CC (jd ddL_isGrouped 115 rfl) 6 rfl (nI_1 _) (by decide) rfl ?_
                refine jr_goto 30 CC (jd ddL_isGrouped 116 rfl) (by decide) ?_
                refine jr_norm (([(h0, .inr (9, [.ref x1, .ref x2, .ref x3, .ref x4, .ref x5, .ref x6, .int fi])), (x2, .inr (5, jmem M ca cg)), (ca, .inl (t 2, 8, .inr (.inr (.inr (.inr (jcaps ad))))))] : va_W) ++ jpool t ad K) [] 30 (15 * k + 15) (90 * k + 90) rfl rfl rfl rfl rfl ?_
                refine jr_lv [2, 3, 4, 1, 5, 6, 0] [(0, .ref h0), (1, .int (nI rr)), (2, .int (nI nn)), (3, .int 1), (4, .int 1), (5, .int (nI ((nn + 1 - 1) / 1))), (6, .int (nI (k + 1)))] rfl ?_
                refine jr_widen (k' := (15 * (k + 1) + 0)) (n' := (90 * (k + 1) + 0)) (by omega) (by omega) ?_
                exact ih30 (k + 1) (by omega) (by omega)
              · have n86 := jle_not (a := nn) (b := (1 * k + i9)) c86 (by omega) (by omega)
                refine jr_pc (pc' := 112) rfl ?_
                refine jr_aload_n CC (jd ddL_isGrouped 66 rfl) 0 rfl ?_
                refine jr_iload_n CC (jd ddL_isGrouped 67 rfl) 1 rfl ?_
                refine jr_iconst (v := 1) CC (jd ddL_isGrouped 68 rfl) (by decide) ?_
                refine jr_iload CC (jd ddL_isGrouped 69 rfl) 12 rfl ?_
                refine jr_norm (([(h0, .inr (9, [.ref x1, .ref x2, .ref x3, .ref x4, .ref x5, .ref x6, .int fi])), (x2, .inr (5, jmem M ca cg)), (ca, .inl (t 2, 8, .inr (.inr (.inr (.inr (jcaps ad))))))] : va_W) ++ jpool t ad K) [.int (nI (1 * k + i9)), .int 1, .int (nI rr), .ref h0] 117 (15 * k + 3 * i9 + 12) (90 * k + 18 * i9 + 72) rfl rfl rfl rfl rfl ?_
                refine jr_callW (rest := []) [.ref h0, .int (nI rr), .int 1, .int (nI (1 * k + i9))] CC (jd ddL_isGrouped 70 rfl) (jy_L_117 CC) (k_L_value l t hfl h0 x1 x2 x3 x4 x5 x6 fi M ca cg ad K m8 (nI rr) 1 (nI (1 * k + i9)) hM1 hm8 hK) ([0, 1, 2] ++ (List.range 32).map (fun i => 3 + i)) (jpool_isC 3 rfl (is := [0, 1, 2]) rfl (by decide)) (by decide) rfl rfl ⟨by decide, Nat.le_of_ble_eq_true rfl, show (15 * k + 3 * i9 + 12) + 3 ≤ 2035 from by omega, show (90 * k + 18 * i9 + 72) + 18 ≤ 12210 from by omega⟩ (Nat.le_of_ble_eq_true rfl) (by rintro v u h; rcases h with ⟨rfl, rfl⟩ <;> exact jpool_same rfl) (fun _ _ h => h.elim) (fun _ _ h => h.elim) (fun v u h => ?_)
                rcases h with ⟨rfl, rfl⟩
                refine jr_ws (jput [(h0, .inr (9, [.ref x1, .ref x2, .ref x3, .ref x4, .ref x5, .ref x6, .int fi])), (x2, .inr (5, jmem M ca cg)), (ca, .inl (t 2, 8, .inr (.inr (.inr (.inr (jcaps ad))))))] [0, 1, 2] [(h0, .inr (9, [.ref x1, .ref x2, .ref x3, .ref x4, .ref x5, .ref x6, .int fi])), (x2, .inr (5, jmem M ca cg)), (ca, .inl (t 2, 8, .inr (.inr (.inr (.inr (jcaps ad))))))] ++ jpool t ad K) (jpool_after 3 rfl rfl rfl (by decide)) ?_
                refine jr_norm (([(h0, .inr (9, [.ref x1, .ref x2, .ref x3, .ref x4, .ref x5, .ref x6, .int fi])), (x2, .inr (5, jmem M ca cg)), (ca, .inl (t 2, 8, .inr (.inr (.inr (.inr (jcaps ad))))))] : va_W) ++ jpool t ad K) [.int (wP (eVal (M 1) (nI rr) (K (nI rr).toNatClampNeg).2.2.1 (nI (1 * k + i9)) 1) (jat (K (nI rr).toNatClampNeg) 1 (nI (1 * k + i9)).toNatClampNeg) (-300) (-200) 0 0)] 120 (15 * k + 3 * i9 + 15) (90 * k + 18 * i9 + 90) rfl rfl rfl rfl rfl ?_
                refine jr_st [.int (jat (K rr) 1 (1 * k + i9))] (jst1 (wv_in hM1 hm8 hrr hnn hn49 jin01.2.1 (by omega) _ _ _ _)) ?_
                refine jr_istore [(13, .int (jat (K rr) 1 (1 * k + i9))), (0, .ref h0), (1, .int (nI rr)), (2, .int (nI nn)), (3, .int 1), (4, .int 1), (5, .int (nI ((nn + 1 - 1) / 1))), (6, .int (nI k)), (7, .int lo), (8, .int hi), (9, .int mn), (10, .int sm), (11, .int (nI i9)), (12, .int (nI (1 * k + i9)))] CC (jd ddL_isGrouped 71 rfl) (by decide) rfl ?_
                refine jr_iload_n CC (jd ddL_isGrouped 72 rfl) 4 rfl ?_
                refine jr_if_eq 144 CC (jd ddL_isGrouped 73 rfl) (by decide) (fun h => absurd h (by decide)) (fun _ => ?_)
                refine jr_iload CC (jd ddL_isGrouped 74 rfl) 8 rfl ?_
                refine jr_iload CC (jd ddL_isGrouped 75 rfl) 0 rfl ?_
                refine jr_icmp_gt 144 CC (jd ddL_isGrouped 76 rfl) (by decide) (fun h => absurd h (f1 _ (by omega) (by omega)).1) (fun _ => ?_)
                refine jr_iload CC (jd ddL_isGrouped 77 rfl) 0 rfl ?_
                refine jr_iload CC (jd ddL_isGrouped 78 rfl) 9 rfl ?_
                refine jr_icmp_gt 144 CC (jd ddL_isGrouped 79 rfl) (by decide) (fun h => absurd h (f1 _ (by omega) (by omega)).2) (fun _ => ?_)
                refine jr_iconst (v := 1) CC (jd ddL_isGrouped 80 rfl) (by decide) ?_
                refine jr_pc (pc' := 141) rfl ?_
                refine jr_goto 145 CC (jd ddL_isGrouped 81 rfl) (by decide) ?_
                refine jr_istore_n 3 [(3, .int 1), (13, .int (jat (K rr) 1 (1 * k + i9))), (0, .ref h0), (1, .int (nI rr)), (2, .int (nI nn)), (4, .int 1), (5, .int (nI ((nn + 1 - 1) / 1))), (6, .int (nI k)), (7, .int lo), (8, .int hi), (9, .int mn), (10, .int sm), (11, .int (nI i9)), (12, .int (nI (1 * k + i9)))] CC (jd ddL_isGrouped 83 rfl) rfl (by decide) rfl ?_
                refine jr_iload CC (jd ddL_isGrouped 84 rfl) 11 rfl ?_
                refine jr_iload CC (jd ddL_isGrouped 85 rfl) 1 rfl ?_
                refine jr_iadd CC (jd ddL_isGrouped 86 rfl) ?_
                refine jr_istore [(10, .int (sm + (jat (K rr) 1 (1 * k + i9)))), (3, .int 1), (13, .int (jat (K rr) 1 (1 * k + i9))), (0, .ref h0), (1, .int (nI rr)), (2, .int (nI nn)), (4, .int 1), (5, .int (nI ((nn + 1 - 1) / 1))), (6, .int (nI k)), (7, .int lo), (8, .int hi), (9, .int mn), (11, .int (nI i9)), (12, .int (nI (1 * k + i9)))] CC (jd ddL_isGrouped 87 rfl) (by decide) rfl ?_
                refine jr_iinc [(11, .int (nI (i9 + 1))), (10, .int (sm + (jat (K rr) 1 (1 * k + i9)))), (3, .int 1), (13, .int (jat (K rr) 1 (1 * k + i9))), (0, .ref h0), (1, .int (nI rr)), (2, .int (nI nn)), (4, .int 1), (5, .int (nI ((nn + 1 - 1) / 1))), (6, .int (nI k)), (7, .int lo), (8, .int hi), (9, .int mn), (12, .int (nI (1 * k + i9)))] CC (jd ddL_isGrouped 88 rfl) 12 rfl (nI_1 _) (by decide) rfl ?_
                refine jr_iinc [(12, .int (nI (1 * k + i9 + 1))), (11, .int (nI (i9 + 1))), (10, .int (sm + (jat (K rr) 1 (1 * k + i9)))), (3, .int 1), (13, .int (jat (K rr) 1 (1 * k + i9))), (0, .ref h0), (1, .int (nI rr)), (2, .int (nI nn)), (4, .int 1), (5, .int (nI ((nn + 1 - 1) / 1))), (6, .int (nI k)), (7, .int lo), (8, .int hi), (9, .int mn)] CC (jd ddL_isGrouped 89 rfl) 13 rfl (nI_1 _) (by decide) rfl ?_
                refine jr_goto 93 CC (jd ddL_isGrouped 90 rfl) (by decide) ?_
                refine jr_norm (([(h0, .inr (9, [.ref x1, .ref x2, .ref x3, .ref x4, .ref x5, .ref x6, .int fi])), (x2, .inr (5, jmem M ca cg)), (ca, .inl (t 2, 8, .inr (.inr (.inr (.inr (jcaps ad))))))] : va_W) ++ jpool t ad K) [] 93 (15 * k + 3 * i9 + 15) (90 * k + 18 * i9 + 90) rfl rfl rfl rfl rfl ?_
                refine jr_lv [5, 6, 7, 3, 8, 9, 10, 11, 12, 13, 2, 1, 0] [(0, .ref h0), (1, .int (nI rr)), (2, .int (nI nn)), (3, .int 1), (4, .int 1), (5, .int (nI ((nn + 1 - 1) / 1))), (6, .int (nI k)), (7, .int lo), (8, .int hi), (9, .int mn), (10, .int (sm + (jat (K rr) 1 (1 * k + i9)))), (11, .int (nI (i9 + 1))), (12, .int (nI (1 * k + (i9 + 1))))] rfl ?_
                refine jr_widen (k' := (15 * k + 3 * (i9 + 1) + 12)) (n' := (90 * k + 18 * (i9 + 1) + 72)) (by omega) (by omega) ?_
                exact ih93 (i9 + 1) (sm + (jat (K rr) 1 (1 * k + i9))) (by omega) (by rw [hq, show (min (1 * k + 1) nn - 1 * k) - i9 = ((min (1 * k + 1) nn - 1 * k) - (i9 + 1)) + 1 by omega]; rfl) (by omega)
        refine jr_norm (([(h0, .inr (9, [.ref x1, .ref x2, .ref x3, .ref x4, .ref x5, .ref x6, .int fi])), (x2, .inr (5, jmem M ca cg)), (ca, .inl (t 2, 8, .inr (.inr (.inr (.inr (jcaps ad))))))] : va_W) ++ jpool t ad K) [] 93 (15 * k + 12) (90 * k + 72) rfl rfl rfl rfl rfl ?_
        refine jr_lv [6, 7, 8, 9, 10, 11, 12, 5, 4, 3, 2, 1, 0] [(0, .ref h0), (1, .int (nI rr)), (2, .int (nI nn)), (3, .int 1), (4, .int 1), (5, .int (nI ((nn + 1 - 1) / 1))), (6, .int (nI k)), (7, .int lo), (8, .int hi), (9, .int mn), (10, .int 0), (11, .int (nI 0)), (12, .int (nI (1 * k + 0)))] rfl ?_
        refine jr_widen (k' := (15 * k + 3 * 0 + 12)) (n' := (90 * k + 18 * 0 + 72)) (by omega) (by omega) ?_
        exact hL83 ((min (1 * k + 1) nn - 1 * k) - 0 + 1) 0 0 (Nat.zero_le _) rfl (Nat.lt_succ_self _)
  refine jr_norm (([(h0, .inr (9, [.ref x1, .ref x2, .ref x3, .ref x4, .ref x5, .ref x6, .int fi])), (x2, .inr (5, jmem M ca cg)), (ca, .inl (t 2, 8, .inr (.inr (.inr (.inr (jcaps ad))))))] : va_W) ++ jpool t ad K) [] 30 0 0 rfl rfl rfl rfl rfl ?_
  refine jr_lv [4, 5, 6, 3, 2, 1, 0] [(0, .ref h0), (1, .int (nI rr)), (2, .int (nI nn)), (3, .int 1), (4, .int 1), (5, .int (nI ((nn + 1 - 1) / 1))), (6, .int (nI 0))] rfl ?_
  refine jr_widen (k' := (15 * 0 + 0)) (n' := (90 * 0 + 0)) (by omega) (by omega) ?_
  exact hL3 (((nn + 1 - 1) / 1) - 0 + 1) 0 (Nat.zero_le _) (Nat.lt_succ_self _)
