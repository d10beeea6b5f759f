theorem lw_past {L k : Nat} (h : L < k + 6) (hL : L ≤ 3072) (hk : k ≤ 3072) : nI L - 6 < nI k := by
  have e1 : (nI L).toInt = (L : Int) := Int32.toInt_ofNat_of_lt (by omega)
  have e2 : (nI k).toInt = (k : Int) := Int32.toInt_ofNat_of_lt (by omega)
  have e3 : (6 : Int32).toInt = 6 := by decide
  apply Int32.lt_iff_toInt_lt.mpr
  rw [Int32.toInt_sub, e1, e2, e3, Int.bmod_eq_of_le (by omega) (by omega)]
  omega
set_option maxHeartbeats 8000000 in
set_option maxRecDepth 100000 in
theorem lw_loop {p : Program} {l : Launch} {e : Env} {s : State} {m : MethodId} {args : Array Value} {below : List Frame} {meth : Method} {c : Code} {D : va_G} {A : Nat → Prop} {Q : State → Prop} {t : Nat → ClassId} {b L K0 N0 : Nat} {xs : Nat → Int32} (h0 : Nat) (x1 : Nat) (x2 : Nat) (x3 : Nat) (x4 : Nat) (x5 : Nat) (y1 : Nat) (y2 : Nat) (y3 : Nat) (ca : Nat) (g1 : Nat) (g2 : Nat) (e0 : Nat) (e1 : Nat) (e2 : Nat) (e3 : Nat) (m0 : Nat) (o1 : Nat) (o2 : Nat) (ad : Nat → Nat) (mb : Nat → Nat) (hfl : l.stackTraces = false) (CC : jC p l s m args c D t A RL code 9) (hX : va_X b L xs s s.heap) (hbl : b < s.heap.size) (hbA : ¬ A b) (hL : L ≤ 3072) (hK : K0 + 5130 ≤ 601024) (hN : N0 + 30780 ≤ 7293034) (hend : ∀ (it : Nat) (x6 : Nat) (ci : Nat) (S : JS) (fl : Nat → Int32) (ce : Nat → Int32) (KA : Nat → Int32) (DA : Nat → Int32) (CA : Nat → Int32) (ST : Nat → Int32) (RW : Nat → Int32) (pn : Nat) (ht : Nat) (T : MS) (MK : Nat → Int32) (LO : Nat → Int32) (HI : Nat → Int32) (PT : Nat → Int32) (ON : Nat → Int32) (TW : Nat → Int32) (SK : Nat → Int32) (TC : Nat → Int32) (f1 : Nat → Int64) (f2 : Nat → UInt64), J p l e room_1 s m args below meth c D A 9 Q (lwW t h0 x1 x2 x3 x4 x5 y1 y2 y3 ca g1 g2 e0 e1 e2 e3 m0 o1 o2 ad mb x6 ci S fl ce KA DA CA ST RW pn ht T MK LO HI PT ON TW SK TC f1 f2) [(0, .ref b), (1, .ref h0), (2, .ref m0), (3, .ref o1), (4, .ref o2), (5, .int (nI (6 * it)))] 2372 [] (K0 + 5130) (N0 + 30780)) : ∀ (d it : Nat) (x6 : Nat) (ci : Nat) (S : JS) (fl : Nat → Int32) (ce : Nat → Int32) (KA : Nat → Int32) (DA : Nat → Int32) (CA : Nat → Int32) (ST : Nat → Int32) (RW : Nat → Int32) (pn : Nat) (ht : Nat) (T : MS) (MK : Nat → Int32) (LO : Nat → Int32) (HI : Nat → Int32) (PT : Nat → Int32) (ON : Nat → Int32) (TW : Nat → Int32) (SK : Nat → Int32) (TC : Nat → Int32) (f1 : Nat → Int64) (f2 : Nat → UInt64), L + 6 ≤ 6 * it + d → it ≤ 512 → lwR ci S fl ce KA DA PT ON TW SK pn ht T MK LO HI it → J p l e room_1 s m args below meth c D A 9 Q (lwW t h0 x1 x2 x3 x4 x5 y1 y2 y3 ca g1 g2 e0 e1 e2 e3 m0 o1 o2 ad mb x6 ci S fl ce KA DA CA ST RW pn ht T MK LO HI PT ON TW SK TC f1 f2) [(0, .ref b), (1, .ref h0), (2, .ref m0), (3, .ref o1), (4, .ref o2), (5, .int (nI (6 * it)))] 28 [] (K0 + 10 * it) (N0 + 60 * it) := by
  have hx : ∀ (it : Nat) (x6 : Nat) (ci : Nat) (S : JS) (fl : Nat → Int32) (ce : Nat → Int32) (KA : Nat → Int32) (DA : Nat → Int32) (CA : Nat → Int32) (ST : Nat → Int32) (RW : Nat → Int32) (pn : Nat) (ht : Nat) (T : MS) (MK : Nat → Int32) (LO : Nat → Int32) (HI : Nat → Int32) (PT : Nat → Int32) (ON : Nat → Int32) (TW : Nat → Int32) (SK : Nat → Int32) (TC : Nat → Int32) (f1 : Nat → Int64) (f2 : Nat → UInt64), L < 6 * it + 6 → it ≤ 512 → J p l e room_1 s m args below meth c D A 9 Q (lwW t h0 x1 x2 x3 x4 x5 y1 y2 y3 ca g1 g2 e0 e1 e2 e3 m0 o1 o2 ad mb x6 ci S fl ce KA DA CA ST RW pn ht T MK LO HI PT ON TW SK TC f1 f2) [(0, .ref b), (1, .ref h0), (2, .ref m0), (3, .ref o1), (4, .ref o2), (5, .int (nI (6 * it)))] 28 [] (K0 + 10 * it) (N0 + 60 * it) := by
    intro it x6 ci S fl ce KA DA CA ST RW pn ht T MK LO HI PT ON TW SK TC f1 f2 h1 h2
    refine jr_iload CC (jd ddLw_h 0 rfl) 5 rfl ?_
    refine jr_aload_n CC (jd ddLw_h 1 rfl) 0 rfl ?_
    refine jr_slen CC hX hbl hbA (jd ddLw_h 2 rfl) ?_
    refine jr_bipush (v := 6) CC (jd ddLw_h 3 rfl) (by decide) ?_
    refine jr_isub CC (jd ddLw_h 4 rfl) ?_
    refine jr_icmp_gt 2372 CC (jd ddLw_h 5 rfl) (by decide) (fun _ => ?_) (fun h => absurd (lw_past h1 hL (by omega)) h)
    refine jr_widen (k' := K0 + 5130) (n' := N0 + 30780) (by omega) (by omega) ?_
    exact hend it x6 ci S fl ce KA DA CA ST RW pn ht T MK LO HI PT ON TW SK TC f1 f2
  intro d
  induction d with
  | zero =>
    intro it x6 ci S fl ce KA DA CA ST RW pn ht T MK LO HI PT ON TW SK TC f1 f2 hd h5 hrel
    exact hx it x6 ci S fl ce KA DA CA ST RW pn ht T MK LO HI PT ON TW SK TC f1 f2 (by omega) h5
  | succ d ih =>
    intro it x6 ci S fl ce KA DA CA ST RW pn ht T MK LO HI PT ON TW SK TC f1 f2 hd h5 hrel
    by_cases h : 6 * it + 6 ≤ L
    · refine lw_turn h0 x1 x2 x3 x4 x5 y1 y2 y3 ca g1 g2 e0 e1 e2 e3 m0 o1 o2 ad mb x6 ci S fl ce KA DA CA ST RW pn ht T MK LO HI PT ON TW SK TC f1 f2 hfl CC hX hbl hbA h hL (by omega) hrel (by omega) (by omega) ?_
      intro x6 ci S fl ce KA DA CA ST RW pn ht T MK LO HI PT ON TW SK TC f1 f2 hrel2
      refine jr_iinc [(5, .int (nI (6 * (it + 1)))), (0, .ref b), (1, .ref h0), (2, .ref m0), (3, .ref o1), (4, .ref o2)] CC (jd ddLw_h 12 rfl) 5 rfl (nI_add (6 * it) 6) (by decide) rfl ?_
      refine jr_goto 28 CC (jd ddLw_h 13 rfl) (by decide) ?_
      refine jr_lv [1, 2, 3, 4, 5, 0] [(0, .ref b), (1, .ref h0), (2, .ref m0), (3, .ref o1), (4, .ref o2), (5, .int (nI (6 * (it + 1))))] rfl ?_
      exact ih (it + 1) x6 ci S fl ce KA DA CA ST RW pn ht T MK LO HI PT ON TW SK TC f1 f2 (by omega) (by omega) hrel2
    · exact hx it x6 ci S fl ce KA DA CA ST RW pn ht T MK LO HI PT ON TW SK TC f1 f2 (by omega) h5
