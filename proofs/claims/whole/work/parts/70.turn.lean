theorem nI_gt37 {j : Nat} (hj : j + 38 < 64) : 37 < (nI (j + 38)).toInt := by
  have h : (nI (j + 38)).toInt = ((j + 38 : Nat) : Int) := by
    show (Int32.ofNat (j + 38)).toInt = _
    exact Int32.toInt_ofNat_of_lt (by omega)
  rw [h]
  omega
def dlLw_h : List (Nat × Instr × Nat) := [(28, .iload 5, 2), (30, .aload_n 0, 1), (31, .arraylength, 1), (32, .bipush 6, 2), (34, .isub, 1), (35, .if_icmp .gt 2337, 3), (38, .aload_n 0, 1), (39, .iload 5, 2), (41, .iaload, 1), (42, .bipush 63, 2), (44, .iand, 1), (45, .tableswitch 2321 0 37 #[167, 255, 355, 415, 475, 523, 579, 592, 605, 618, 631, 711, 815, 828, 841, 854, 910, 966, 1046, 1138, 1230, 1322, 1378, 1450, 1461, 1474, 1518, 1574, 1630, 1686, 1742, 1755, 1823, 1891, 1959, 2048, 2128, 2229], 167), (2366, .iinc 5 6, 3), (2369, .goto (-2341), 3), (2372, .iconst 1, 1), (2373, .ireturn, 1)]
theorem ddLw_h : jdec code dlLw_h = true := by decide +kernel
set_option maxHeartbeats 8000000 in
set_option maxRecDepth 100000 in
theorem lw_turn {p : Program} {l : Launch} {e : Env} {s : State} {m : MethodId} {args : Array Value} {below : List Frame} {meth : Method} {c : Code} {D : va_G} {A : Nat → Prop} {Q : State → Prop} {t : Nat → ClassId} {b L i it K N : Nat} {xs : Nat → Int32} (h0 : Nat) (x1 : Nat) (x2 : Nat) (x3 : Nat) (x4 : Nat) (x5 : Nat) (y1 : Nat) (y2 : Nat) (y3 : Nat) (ca : Nat) (g1 : Nat) (g2 : Nat) (e0 : Nat) (e1 : Nat) (e2 : Nat) (e3 : Nat) (m0 : Nat) (o1 : Nat) (o2 : Nat) (ad : Nat → Nat) (mb : Nat → Nat) (x6 : Nat) (ci : Nat) (S : JS) (fl : Nat → Int32) (ce : Nat → Int32) (KA : Nat → Int32) (DA : Nat → Int32) (CA : Nat → Int32) (ST : Nat → Int32) (RW : Nat → Int32) (pn : Nat) (ht : Nat) (T : MS) (MK : Nat → Int32) (LO : Nat → Int32) (HI : Nat → Int32) (PT : Nat → Int32) (ON : Nat → Int32) (TW : Nat → Int32) (SK : Nat → Int32) (TC : Nat → Int32) (f1 : Nat → Int64) (f2 : Nat → UInt64) (hfl : l.stackTraces = false) (CC : jC p l s m args c D t A RL code 9) (hX : va_X b L xs s s.heap) (hbl : b < s.heap.size) (hbA : ¬ A b) (hi : i + 6 ≤ L) (hL : L ≤ 3072) (h5 : it + 1 ≤ 512) (hrel : lwR ci S fl ce KA DA PT ON TW SK pn ht T MK LO HI it) (hK : K + 10 ≤ 601024) (hN : N + 60 ≤ 7293034) (hk : lwK p l e s m args below meth c D A Q t b i it K N h0 x1 x2 x3 x4 x5 y1 y2 y3 ca g1 g2 e0 e1 e2 e3 m0 o1 o2 ad mb) : J p l e room_1 s m args below meth c D A 9 Q (lwW t h0 x1 x2 x3 x4 x5 y1 y2 y3 ca g1 g2 e0 e1 e2 e3 m0 o1 o2 ad mb x6 ci S fl ce KA DA CA ST RW pn ht T MK LO HI PT ON TW SK TC f1 f2) [(0, .ref b), (1, .ref h0), (2, .ref m0), (3, .ref o1), (4, .ref o2), (5, .int (nI i))] 28 [] K N := by
  refine jr_iload CC (jd ddLw_h 0 rfl) 5 rfl ?_
  refine jr_aload_n CC (jd ddLw_h 1 rfl) 0 rfl ?_
  refine jr_slen CC hX hbl hbA (jd ddLw_h 2 rfl) ?_
  refine jr_bipush (v := 6) CC (jd ddLw_h 3 rfl) (by decide) ?_
  refine jr_isub CC (jd ddLw_h 4 rfl) ?_
  refine jr_st [.int (nI (L - 6)), .int (nI i)] (jst1 (pk_sub (a := L) (b := 6) (by omega))) ?_
  refine jr_icmp_gt 2372 CC (jd ddLw_h 5 rfl) (by decide) (fun h => absurd (jlt_of (a := L - 6) (b := i) h (by omega) (by omega)) (by omega)) (fun _ => ?_)
  refine jr_aload_n CC (jd ddLw_h 6 rfl) 0 rfl ?_
  refine jr_iload CC (jd ddLw_h 7 rfl) 5 rfl ?_
  refine jr_sld CC hX hbl hbA (jd ddLw_h 8 rfl) rfl (by omega) hL ?_
  refine jr_bipush (v := 63) CC (jd ddLw_h 9 rfl) (by decide) ?_
  refine jr_iand CC (jd ddLw_h 10 rfl) ?_
  obtain ⟨j, hj, ej⟩ := lw_and63 (xs i)
  refine jr_st [.int (nI j)] (jst1 ej) ?_
  match j, hj with
  | 0, _ =>
    refine jr_tabIn 212 CC (jd ddLw_h 11 rfl) (by decide) (by decide) rfl (by decide) ?_
    exact lc_0 h0 x1 x2 x3 x4 x5 y1 y2 y3 ca g1 g2 e0 e1 e2 e3 m0 o1 o2 ad mb x6 ci S fl ce KA DA CA ST RW pn ht T MK LO HI PT ON TW SK TC f1 f2 hfl CC hX hbl hbA hi hL h5 hrel hK hN hk
  | 1, _ =>
    refine jr_tabIn 300 CC (jd ddLw_h 11 rfl) (by decide) (by decide) rfl (by decide) ?_
    exact lc_1 h0 x1 x2 x3 x4 x5 y1 y2 y3 ca g1 g2 e0 e1 e2 e3 m0 o1 o2 ad mb x6 ci S fl ce KA DA CA ST RW pn ht T MK LO HI PT ON TW SK TC f1 f2 hfl CC hX hbl hbA hi hL h5 hrel hK hN hk
  | 2, _ =>
    refine jr_tabIn 400 CC (jd ddLw_h 11 rfl) (by decide) (by decide) rfl (by decide) ?_
    exact lc_2 h0 x1 x2 x3 x4 x5 y1 y2 y3 ca g1 g2 e0 e1 e2 e3 m0 o1 o2 ad mb x6 ci S fl ce KA DA CA ST RW pn ht T MK LO HI PT ON TW SK TC f1 f2 hfl CC hX hbl hbA hi hL h5 hrel hK hN hk
  | 3, _ =>
    refine jr_tabIn 460 CC (jd ddLw_h 11 rfl) (by decide) (by decide) rfl (by decide) ?_
    exact lc_3 h0 x1 x2 x3 x4 x5 y1 y2 y3 ca g1 g2 e0 e1 e2 e3 m0 o1 o2 ad mb x6 ci S fl ce KA DA CA ST RW pn ht T MK LO HI PT ON TW SK TC f1 f2 hfl CC hX hbl hbA hi hL h5 hrel hK hN hk
  | 4, _ =>
    refine jr_tabIn 520 CC (jd ddLw_h 11 rfl) (by decide) (by decide) rfl (by decide) ?_
    exact lc_4 h0 x1 x2 x3 x4 x5 y1 y2 y3 ca g1 g2 e0 e1 e2 e3 m0 o1 o2 ad mb x6 ci S fl ce KA DA CA ST RW pn ht T MK LO HI PT ON TW SK TC f1 f2 hfl CC hX hbl hbA hi hL h5 hrel hK hN hk
  | 5, _ =>
    refine jr_tabIn 568 CC (jd ddLw_h 11 rfl) (by decide) (by decide) rfl (by decide) ?_
    exact lc_5 h0 x1 x2 x3 x4 x5 y1 y2 y3 ca g1 g2 e0 e1 e2 e3 m0 o1 o2 ad mb x6 ci S fl ce KA DA CA ST RW pn ht T MK LO HI PT ON TW SK TC f1 f2 hfl CC hX hbl hbA hi hL h5 hrel hK hN hk
  | 6, _ =>
    refine jr_tabIn 624 CC (jd ddLw_h 11 rfl) (by decide) (by decide) rfl (by decide) ?_
    exact lc_6 h0 x1 x2 x3 x4 x5 y1 y2 y3 ca g1 g2 e0 e1 e2 e3 m0 o1 o2 ad mb x6 ci S fl ce KA DA CA ST RW pn ht T MK LO HI PT ON TW SK TC f1 f2 hfl CC hX hbl hbA hi hL h5 hrel hK hN hk
  | 7, _ =>
    refine jr_tabIn 637 CC (jd ddLw_h 11 rfl) (by decide) (by decide) rfl (by decide) ?_
    exact lc_7 h0 x1 x2 x3 x4 x5 y1 y2 y3 ca g1 g2 e0 e1 e2 e3 m0 o1 o2 ad mb x6 ci S fl ce KA DA CA ST RW pn ht T MK LO HI PT ON TW SK TC f1 f2 hfl CC hX hbl hbA hi hL h5 hrel hK hN hk
  | 8, _ =>
    refine jr_tabIn 650 CC (jd ddLw_h 11 rfl) (by decide) (by decide) rfl (by decide) ?_
    exact lc_8 h0 x1 x2 x3 x4 x5 y1 y2 y3 ca g1 g2 e0 e1 e2 e3 m0 o1 o2 ad mb x6 ci S fl ce KA DA CA ST RW pn ht T MK LO HI PT ON TW SK TC f1 f2 hfl CC hX hbl hbA hi hL h5 hrel hK hN hk
  | 9, _ =>
    refine jr_tabIn 663 CC (jd ddLw_h 11 rfl) (by decide) (by decide) rfl (by decide) ?_
    exact lc_9 h0 x1 x2 x3 x4 x5 y1 y2 y3 ca g1 g2 e0 e1 e2 e3 m0 o1 o2 ad mb x6 ci S fl ce KA DA CA ST RW pn ht T MK LO HI PT ON TW SK TC f1 f2 hfl CC hX hbl hbA hi hL h5 hrel hK hN hk
  | 10, _ =>
    refine jr_tabIn 676 CC (jd ddLw_h 11 rfl) (by decide) (by decide) rfl (by decide) ?_
    exact lc_10 h0 x1 x2 x3 x4 x5 y1 y2 y3 ca g1 g2 e0 e1 e2 e3 m0 o1 o2 ad mb x6 ci S fl ce KA DA CA ST RW pn ht T MK LO HI PT ON TW SK TC f1 f2 hfl CC hX hbl hbA hi hL h5 hrel hK hN hk
  | 11, _ =>
    refine jr_tabIn 756 CC (jd ddLw_h 11 rfl) (by decide) (by decide) rfl (by decide) ?_
    exact lc_11 h0 x1 x2 x3 x4 x5 y1 y2 y3 ca g1 g2 e0 e1 e2 e3 m0 o1 o2 ad mb x6 ci S fl ce KA DA CA ST RW pn ht T MK LO HI PT ON TW SK TC f1 f2 hfl CC hX hbl hbA hi hL h5 hrel hK hN hk
  | 12, _ =>
    refine jr_tabIn 860 CC (jd ddLw_h 11 rfl) (by decide) (by decide) rfl (by decide) ?_
    exact lc_12 h0 x1 x2 x3 x4 x5 y1 y2 y3 ca g1 g2 e0 e1 e2 e3 m0 o1 o2 ad mb x6 ci S fl ce KA DA CA ST RW pn ht T MK LO HI PT ON TW SK TC f1 f2 hfl CC hX hbl hbA hi hL h5 hrel hK hN hk
  | 13, _ =>
    refine jr_tabIn 873 CC (jd ddLw_h 11 rfl) (by decide) (by decide) rfl (by decide) ?_
    exact lc_13 h0 x1 x2 x3 x4 x5 y1 y2 y3 ca g1 g2 e0 e1 e2 e3 m0 o1 o2 ad mb x6 ci S fl ce KA DA CA ST RW pn ht T MK LO HI PT ON TW SK TC f1 f2 hfl CC hX hbl hbA hi hL h5 hrel hK hN hk
  | 14, _ =>
    refine jr_tabIn 886 CC (jd ddLw_h 11 rfl) (by decide) (by decide) rfl (by decide) ?_
    exact lc_14 h0 x1 x2 x3 x4 x5 y1 y2 y3 ca g1 g2 e0 e1 e2 e3 m0 o1 o2 ad mb x6 ci S fl ce KA DA CA ST RW pn ht T MK LO HI PT ON TW SK TC f1 f2 hfl CC hX hbl hbA hi hL h5 hrel hK hN hk
  | 15, _ =>
    refine jr_tabIn 899 CC (jd ddLw_h 11 rfl) (by decide) (by decide) rfl (by decide) ?_
    exact lc_15 h0 x1 x2 x3 x4 x5 y1 y2 y3 ca g1 g2 e0 e1 e2 e3 m0 o1 o2 ad mb x6 ci S fl ce KA DA CA ST RW pn ht T MK LO HI PT ON TW SK TC f1 f2 hfl CC hX hbl hbA hi hL h5 hrel hK hN hk
  | 16, _ =>
    refine jr_tabIn 955 CC (jd ddLw_h 11 rfl) (by decide) (by decide) rfl (by decide) ?_
    exact lc_16 h0 x1 x2 x3 x4 x5 y1 y2 y3 ca g1 g2 e0 e1 e2 e3 m0 o1 o2 ad mb x6 ci S fl ce KA DA CA ST RW pn ht T MK LO HI PT ON TW SK TC f1 f2 hfl CC hX hbl hbA hi hL h5 hrel hK hN hk
  | 17, _ =>
    refine jr_tabIn 1011 CC (jd ddLw_h 11 rfl) (by decide) (by decide) rfl (by decide) ?_
    exact lc_17 h0 x1 x2 x3 x4 x5 y1 y2 y3 ca g1 g2 e0 e1 e2 e3 m0 o1 o2 ad mb x6 ci S fl ce KA DA CA ST RW pn ht T MK LO HI PT ON TW SK TC f1 f2 hfl CC hX hbl hbA hi hL h5 hrel hK hN hk
  | 18, _ =>
    refine jr_tabIn 1091 CC (jd ddLw_h 11 rfl) (by decide) (by decide) rfl (by decide) ?_
    exact lc_18 h0 x1 x2 x3 x4 x5 y1 y2 y3 ca g1 g2 e0 e1 e2 e3 m0 o1 o2 ad mb x6 ci S fl ce KA DA CA ST RW pn ht T MK LO HI PT ON TW SK TC f1 f2 hfl CC hX hbl hbA hi hL h5 hrel hK hN hk
  | 19, _ =>
    refine jr_tabIn 1183 CC (jd ddLw_h 11 rfl) (by decide) (by decide) rfl (by decide) ?_
    exact lc_19 h0 x1 x2 x3 x4 x5 y1 y2 y3 ca g1 g2 e0 e1 e2 e3 m0 o1 o2 ad mb x6 ci S fl ce KA DA CA ST RW pn ht T MK LO HI PT ON TW SK TC f1 f2 hfl CC hX hbl hbA hi hL h5 hrel hK hN hk
  | 20, _ =>
    refine jr_tabIn 1275 CC (jd ddLw_h 11 rfl) (by decide) (by decide) rfl (by decide) ?_
    exact lc_20 h0 x1 x2 x3 x4 x5 y1 y2 y3 ca g1 g2 e0 e1 e2 e3 m0 o1 o2 ad mb x6 ci S fl ce KA DA CA ST RW pn ht T MK LO HI PT ON TW SK TC f1 f2 hfl CC hX hbl hbA hi hL h5 hrel hK hN hk
  | 21, _ =>
    refine jr_tabIn 1367 CC (jd ddLw_h 11 rfl) (by decide) (by decide) rfl (by decide) ?_
    exact lc_21 h0 x1 x2 x3 x4 x5 y1 y2 y3 ca g1 g2 e0 e1 e2 e3 m0 o1 o2 ad mb x6 ci S fl ce KA DA CA ST RW pn ht T MK LO HI PT ON TW SK TC f1 f2 hfl CC hX hbl hbA hi hL h5 hrel hK hN hk
  | 22, _ =>
    refine jr_tabIn 1423 CC (jd ddLw_h 11 rfl) (by decide) (by decide) rfl (by decide) ?_
    exact lc_22 h0 x1 x2 x3 x4 x5 y1 y2 y3 ca g1 g2 e0 e1 e2 e3 m0 o1 o2 ad mb x6 ci S fl ce KA DA CA ST RW pn ht T MK LO HI PT ON TW SK TC f1 f2 hfl CC hX hbl hbA hi hL h5 hrel hK hN hk
  | 23, _ =>
    refine jr_tabIn 1495 CC (jd ddLw_h 11 rfl) (by decide) (by decide) rfl (by decide) ?_
    exact lc_23 h0 x1 x2 x3 x4 x5 y1 y2 y3 ca g1 g2 e0 e1 e2 e3 m0 o1 o2 ad mb x6 ci S fl ce KA DA CA ST RW pn ht T MK LO HI PT ON TW SK TC f1 f2 hfl CC hX hbl hbA hi hL h5 hrel hK hN hk
  | 24, _ =>
    refine jr_tabIn 1506 CC (jd ddLw_h 11 rfl) (by decide) (by decide) rfl (by decide) ?_
    exact lc_24 h0 x1 x2 x3 x4 x5 y1 y2 y3 ca g1 g2 e0 e1 e2 e3 m0 o1 o2 ad mb x6 ci S fl ce KA DA CA ST RW pn ht T MK LO HI PT ON TW SK TC f1 f2 hfl CC hX hbl hbA hi hL h5 hrel hK hN hk
  | 25, _ =>
    refine jr_tabIn 1519 CC (jd ddLw_h 11 rfl) (by decide) (by decide) rfl (by decide) ?_
    exact lc_25 h0 x1 x2 x3 x4 x5 y1 y2 y3 ca g1 g2 e0 e1 e2 e3 m0 o1 o2 ad mb x6 ci S fl ce KA DA CA ST RW pn ht T MK LO HI PT ON TW SK TC f1 f2 hfl CC hX hbl hbA hi hL h5 hrel hK hN hk
  | 26, _ =>
    refine jr_tabIn 1563 CC (jd ddLw_h 11 rfl) (by decide) (by decide) rfl (by decide) ?_
    exact lc_26 h0 x1 x2 x3 x4 x5 y1 y2 y3 ca g1 g2 e0 e1 e2 e3 m0 o1 o2 ad mb x6 ci S fl ce KA DA CA ST RW pn ht T MK LO HI PT ON TW SK TC f1 f2 hfl CC hX hbl hbA hi hL h5 hrel hK hN hk
  | 27, _ =>
    refine jr_tabIn 1619 CC (jd ddLw_h 11 rfl) (by decide) (by decide) rfl (by decide) ?_
    exact lc_27 h0 x1 x2 x3 x4 x5 y1 y2 y3 ca g1 g2 e0 e1 e2 e3 m0 o1 o2 ad mb x6 ci S fl ce KA DA CA ST RW pn ht T MK LO HI PT ON TW SK TC f1 f2 hfl CC hX hbl hbA hi hL h5 hrel hK hN hk
  | 28, _ =>
    refine jr_tabIn 1675 CC (jd ddLw_h 11 rfl) (by decide) (by decide) rfl (by decide) ?_
    exact lc_28 h0 x1 x2 x3 x4 x5 y1 y2 y3 ca g1 g2 e0 e1 e2 e3 m0 o1 o2 ad mb x6 ci S fl ce KA DA CA ST RW pn ht T MK LO HI PT ON TW SK TC f1 f2 hfl CC hX hbl hbA hi hL h5 hrel hK hN hk
  | 29, _ =>
    refine jr_tabIn 1731 CC (jd ddLw_h 11 rfl) (by decide) (by decide) rfl (by decide) ?_
    exact lc_29 h0 x1 x2 x3 x4 x5 y1 y2 y3 ca g1 g2 e0 e1 e2 e3 m0 o1 o2 ad mb x6 ci S fl ce KA DA CA ST RW pn ht T MK LO HI PT ON TW SK TC f1 f2 hfl CC hX hbl hbA hi hL h5 hrel hK hN hk
  | 30, _ =>
    refine jr_tabIn 1787 CC (jd ddLw_h 11 rfl) (by decide) (by decide) rfl (by decide) ?_
    exact lc_30 h0 x1 x2 x3 x4 x5 y1 y2 y3 ca g1 g2 e0 e1 e2 e3 m0 o1 o2 ad mb x6 ci S fl ce KA DA CA ST RW pn ht T MK LO HI PT ON TW SK TC f1 f2 hfl CC hX hbl hbA hi hL h5 hrel hK hN hk
  | 31, _ =>
    refine jr_tabIn 1800 CC (jd ddLw_h 11 rfl) (by decide) (by decide) rfl (by decide) ?_
    exact lc_31 h0 x1 x2 x3 x4 x5 y1 y2 y3 ca g1 g2 e0 e1 e2 e3 m0 o1 o2 ad mb x6 ci S fl ce KA DA CA ST RW pn ht T MK LO HI PT ON TW SK TC f1 f2 hfl CC hX hbl hbA hi hL h5 hrel hK hN hk
  | 32, _ =>
    refine jr_tabIn 1868 CC (jd ddLw_h 11 rfl) (by decide) (by decide) rfl (by decide) ?_
    exact lc_32 h0 x1 x2 x3 x4 x5 y1 y2 y3 ca g1 g2 e0 e1 e2 e3 m0 o1 o2 ad mb x6 ci S fl ce KA DA CA ST RW pn ht T MK LO HI PT ON TW SK TC f1 f2 hfl CC hX hbl hbA hi hL h5 hrel hK hN hk
  | 33, _ =>
    refine jr_tabIn 1936 CC (jd ddLw_h 11 rfl) (by decide) (by decide) rfl (by decide) ?_
    exact lc_33 h0 x1 x2 x3 x4 x5 y1 y2 y3 ca g1 g2 e0 e1 e2 e3 m0 o1 o2 ad mb x6 ci S fl ce KA DA CA ST RW pn ht T MK LO HI PT ON TW SK TC f1 f2 hfl CC hX hbl hbA hi hL h5 hrel hK hN hk
  | 34, _ =>
    refine jr_tabIn 2004 CC (jd ddLw_h 11 rfl) (by decide) (by decide) rfl (by decide) ?_
    exact lc_34 h0 x1 x2 x3 x4 x5 y1 y2 y3 ca g1 g2 e0 e1 e2 e3 m0 o1 o2 ad mb x6 ci S fl ce KA DA CA ST RW pn ht T MK LO HI PT ON TW SK TC f1 f2 hfl CC hX hbl hbA hi hL h5 hrel hK hN hk
  | 35, _ =>
    refine jr_tabIn 2093 CC (jd ddLw_h 11 rfl) (by decide) (by decide) rfl (by decide) ?_
    exact lc_35 h0 x1 x2 x3 x4 x5 y1 y2 y3 ca g1 g2 e0 e1 e2 e3 m0 o1 o2 ad mb x6 ci S fl ce KA DA CA ST RW pn ht T MK LO HI PT ON TW SK TC f1 f2 hfl CC hX hbl hbA hi hL h5 hrel hK hN hk
  | 36, _ =>
    refine jr_tabIn 2173 CC (jd ddLw_h 11 rfl) (by decide) (by decide) rfl (by decide) ?_
    exact lc_36 h0 x1 x2 x3 x4 x5 y1 y2 y3 ca g1 g2 e0 e1 e2 e3 m0 o1 o2 ad mb x6 ci S fl ce KA DA CA ST RW pn ht T MK LO HI PT ON TW SK TC f1 f2 hfl CC hX hbl hbA hi hL h5 hrel hK hN hk
  | 37, _ =>
    refine jr_tabIn 2274 CC (jd ddLw_h 11 rfl) (by decide) (by decide) rfl (by decide) ?_
    exact lc_37 h0 x1 x2 x3 x4 x5 y1 y2 y3 ca g1 g2 e0 e1 e2 e3 m0 o1 o2 ad mb x6 ci S fl ce KA DA CA ST RW pn ht T MK LO HI PT ON TW SK TC f1 f2 hfl CC hX hbl hbA hi hL h5 hrel hK hN hk
  | j + 38, hj =>
    refine jr_tabOut 2366 CC (jd ddLw_h 11 rfl) (Or.inr (nI_gt37 hj)) (by decide) ?_
    refine jr_widen (k' := K + 10) (n' := N + 60) (by omega) (by omega) ?_
    exact hk x6 ci S fl ce KA DA CA ST RW pn ht T MK LO HI PT ON TW SK TC f1 f2 (lw_same hrel h5)
