/-! the law's entry: what the tables and the Statement's start give, as jC asks for it -/
def jIns : List Cond := [.instantiable RX0 4, .instantiable RX2 5, .instantiable RX3 6, .instantiable RX4 2, .instantiable RX5 2, .instantiable RX6 11, .instantiable RX7 6, .instantiable RX8 8, .instantiable RX9 7, .instantiable RX10 7]
set_option maxRecDepth 100000 in
theorem je_inst : ∀ w ∈ jIns, w ∈ lw_tbl := by decide +kernel
set_option maxRecDepth 100000 in
theorem je_nests : ∀ q ∈ jNests, Cond.methodLinkNest q.1 q.2.1 q.2.2 RX10 ∈ lw_tbl := by decide +kernel
set_option maxRecDepth 100000 in
theorem je_fnests : ∀ q ∈ jFNests, Cond.fieldLinkNest q.1 q.2.1 q.2.2.1 q.2.2.2.1 q.2.2.2.2 RX10 ∈ lw_tbl := by decide +kernel
set_option maxRecDepth 100000 in
theorem je_strs : ∀ q ∈ jStrs, Cond.stringRef q.1 q.2.1 q.2.2 ∈ lw_tbl := by decide +kernel
set_option maxRecDepth 100000 in
theorem je_exs : ∀ q ∈ jExs, Cond.castable q q ∈ lw_tbl := by decide +kernel
set_option maxRecDepth 100000 in
theorem je_decs : ∀ q ∈ jDecs, Cond.declares q ∈ lw_tbl := by decide +kernel
def jMore : List Cond := [.arrayOver (.object RX0), .arrayOver (.array .int), .laysStatic Bundle.tN "UNASSIGNED_STACK" Bundle.steD, .laysStatic Bundle.tN "SUPPRESSED_SENTINEL" Bundle.listD, .initialized Bundle.tN, .arrayClass .int]
set_option maxRecDepth 100000 in
theorem je_more : ∀ w ∈ jMore, w ∈ lw_tbl := by decide +kernel
set_option maxRecDepth 100000 in
theorem jn_ncs : ∀ q ∈ jNcs, Cond.not (.castable q.1 q.2) ∈ flatC (Cond.and given_1 narrow_1) := by decide +kernel
set_option maxRecDepth 100000 in
theorem jn_strs : ∀ q ∈ jStrs, Cond.exactly (.string q.1 q.2.1) "java/lang/String" ∈ flatC (Cond.and given_1 narrow_1) := by decide +kernel
def jRefs : List Cond := [.isRef (.static Bundle.tN "UNASSIGNED_STACK" Bundle.steD), .isRef (.static Bundle.tN "SUPPRESSED_SENTINEL" Bundle.listD)]
set_option maxRecDepth 100000 in
theorem jn_refs : ∀ w ∈ jRefs, w ∈ flatC (Cond.and given_1 narrow_1) := by decide +kernel
theorem law_env {s : State} {b : Nat} {A : Nat → Prop} (hts : ∀ w ∈ lw_tbl, w.before #[Value.ref b] s = true) (hgv : (Jvm.Cond.and given_1 narrow_1).before #[Value.ref b] s = true) (hA : ∀ a : Nat, a < s.heap.size → ¬ A a) : jEnv A s s.heap := by
  have hM : ∀ w ∈ jMore, w.before #[Value.ref b] s = true := fun w h => hts w (je_more w h)
  have hN := flat_of_before _ hgv
  have hR : ∀ w ∈ jRefs, w.before #[Value.ref b] s = true := fun w h => hN w (jn_refs w h)
  refine ⟨⟨vx_Zqof (hM _ (List.mem_of_getElem? (i := 2) rfl)) (hM _ (List.mem_of_getElem? (i := 4) rfl)) (hR _ (List.mem_of_getElem? (i := 0) rfl)) hA, vx_Zqof (hM _ (List.mem_of_getElem? (i := 3) rfl)) (hM _ (List.mem_of_getElem? (i := 4) rfl)) (hR _ (List.mem_of_getElem? (i := 1) rfl)) hA⟩, ?_, ?_, ?_, ?_, ?_, ?_, ?_, ?_⟩
  · exact fun q hq => va_Nw.of rfl (hts _ (je_nests q hq))
  · exact fun q hq => va_Nw.of rfl (hts _ (je_fnests q hq))
  · intro q hq
    obtain ⟨a, c, cell, k, h1, -⟩ := Cond.exactly_spec (hN _ (jn_strs q hq))
    exact ⟨a, vk_R.of (hts _ (je_strs q hq)) h1⟩
  · exact fun q hq => va_Nc.of (hN _ (jn_ncs q hq))
  · exact va_AO.of (hM _ (List.mem_of_getElem? (i := 0) rfl))
  · exact va_AOA.of (hM _ (List.mem_of_getElem? (i := 1) rfl))
  · exact fun q hq => va_Nw.of rfl (hts _ (je_exs q hq))
  · exact fun q hq => va_Nw.of rfl (hts _ (je_decs q hq))
theorem law_tys {s : State} {b : Nat} (hts : ∀ w ∈ lw_tbl, w.before #[Value.ref b] s = true) : ∃ t : Nat → ClassId, ∀ (k : Nat) (q : ClassId × FieldType), (jty t)[k]? = some q → ArrOfT s q.1 q.2 ∧ va_RA s q.1 q.2 := by
  have hM : ∀ w ∈ jMore, w.before #[Value.ref b] s = true := fun w h => hts w (je_more w h)
  obtain ⟨c0, k0, p0, f0, g0, h0⟩ := Cond.arrayClass_spec (hM (.arrayClass .int) (List.mem_of_getElem? (i := 5) rfl))
  obtain ⟨p1, c1, k1, -, -, g1, h1, f1⟩ := arrayOver_specB (hM (.arrayOver (.array .int)) (List.mem_of_getElem? (i := 1) rfl))
  obtain ⟨p2, c2, k2, e2, -, g2, h2, f2⟩ := Cond.arrayOver_spec (hM (.arrayOver (.object RX0)) (List.mem_of_getElem? (i := 0) rfl))
  refine ⟨fun k => match k with | 0 => c0 | 1 => c1 | _ => c2, fun k q hq => ?_⟩
  match k, hq with
  | 0, hq => cases hq; exact ⟨fun n z => ⟨(fun k h => by cases h), k0, g0, p0, h0⟩, f0⟩
  | 1, hq => cases hq; exact ⟨fun n z => ⟨(fun k h => by cases h), k1, g1, p1, h1⟩, f1⟩
  | 2, hq => cases hq; exact ⟨fun n z => ⟨(fun k h => by cases h), k2, g2, p2, h2⟩, k2, p2, g2, h2, e2, f2⟩
  | n + 3, hq => cases hq
theorem law_one {s : State} {b : Nat} (hts : ∀ w ∈ lw_tbl, w.before #[Value.ref b] s = true) {C : String} {T : u_T} {N : Nat} (hin : ∀ w ∈ u_ws C T N, w ∈ jWS) (hi : Cond.instantiable C N ∈ jIns) : ∃ (x : ClassId × (Nat → Nat)), u_Kn s C T N x.1 x.2 := by
  obtain ⟨cC, iS, h⟩ := u_known (ws := jWS) (args := #[Value.ref b]) (n := N) (fun w h => hts w (jWS_in w h)) hin (hts _ (je_inst _ hi))
  exact ⟨(cC, iS), h⟩
theorem law_cls {s : State} {b : Nat} (hts : ∀ w ∈ lw_tbl, w.before #[Value.ref b] s = true) : ∃ D : va_G, ∀ (k : Nat) (q : vw_C), vwCl[k]? = some q → u_Kn s q.1 q.2.1 q.2.2 (D.1 k) (D.2 k) := by
  obtain ⟨d0, h0⟩ := law_one hts jin_0 (List.mem_of_getElem? (i := 0) rfl)
  obtain ⟨d1, h1⟩ := law_one hts jin_1 (List.mem_of_getElem? (i := 1) rfl)
  obtain ⟨d2, h2⟩ := law_one hts jin_2 (List.mem_of_getElem? (i := 2) rfl)
  obtain ⟨d3, h3⟩ := law_one hts jin_3 (List.mem_of_getElem? (i := 3) rfl)
  obtain ⟨d4, h4⟩ := law_one hts jin_4 (List.mem_of_getElem? (i := 4) rfl)
  obtain ⟨d5, h5⟩ := law_one hts jin_5 (List.mem_of_getElem? (i := 5) rfl)
  obtain ⟨d6, h6⟩ := law_one hts jin_6 (List.mem_of_getElem? (i := 6) rfl)
  obtain ⟨d7, h7⟩ := law_one hts jin_7 (List.mem_of_getElem? (i := 7) rfl)
  obtain ⟨d8, h8⟩ := law_one hts jin_8 (List.mem_of_getElem? (i := 8) rfl)
  obtain ⟨d9, h9⟩ := law_one hts jin_9 (List.mem_of_getElem? (i := 9) rfl)
  let f : Nat → ClassId × (Nat → Nat) := fun k => match k with | 0 => d0 | 1 => d1 | 2 => d2 | 3 => d3 | 4 => d4 | 5 => d5 | 6 => d6 | 7 => d7 | 8 => d8 | _ => d9
  refine ⟨(fun k => (f k).1, fun k => (f k).2), fun k q hq => ?_⟩
  match k, hq with
  | 0, hq => cases hq; exact h0
  | 1, hq => cases hq; exact h1
  | 2, hq => cases hq; exact h2
  | 3, hq => cases hq; exact h3
  | 4, hq => cases hq; exact h4
  | 5, hq => cases hq; exact h5
  | 6, hq => cases hq; exact h6
  | 7, hq => cases hq; exact h7
  | 8, hq => cases hq; exact h8
  | 9, hq => cases hq; exact h9
  | n + 10, hq => cases hq
