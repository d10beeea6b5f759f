def jBad : List Cond := jExs.map (fun q => .castable q q) ++ jDecs.map .declares
theorem jbad_ok {p : Program} {l : Launch} {s : State} {m : MethodId} {args : Array Value} {c : Code} {D : va_G} {t : Nat → ClassId} {A : Nat → Prop} {cc : ByteArray} {nL : Nat} {own : String} (C : jC p l s m args c D t A own cc nL) : ∀ w ∈ jBad, w.before args s = true := by
  intro w h
  obtain ⟨-, -, -, -, -, -, -, hE, -⟩ := C
  obtain ⟨-, -, -, -, -, -, -, h8, h9⟩ := hE
  rcases List.mem_append.mp h with h | h
  · obtain ⟨q, hq, rfl⟩ := List.mem_map.mp h
    exact va_Nw.use rfl (h8 q hq)
  · obtain ⟨q, hq, rfl⟩ := List.mem_map.mp h
    exact va_Nw.use rfl (h9 q hq)
set_option maxRecDepth 100000 in
theorem jats_231 : ∀ w ∈ (vx_atS RX10 231 "java/lang/IllegalArgumentException" ["java/lang/RuntimeException", "java/lang/Exception"]).filter goodWord, w ∈ lw_tbl := by decide +kernel
set_option maxRecDepth 100000 in
theorem jatb_231 : ∀ w ∈ (vx_atS RX10 231 "java/lang/IllegalArgumentException" ["java/lang/RuntimeException", "java/lang/Exception"]).filter (fun w => !goodWord w), w ∈ jBad := by decide +kernel
theorem jat_X10_231 {p : Program} {l : Launch} {s : State} {m : MethodId} {args : Array Value} {c : Code} {D : va_G} {t : Nat → ClassId} {A : Nat → Prop} {cc : ByteArray} {nL : Nat} {own : String} (C : jC p l s m args c D t A own cc nL) : ∀ w ∈ (vx_atS RX10 231 "java/lang/IllegalArgumentException" ["java/lang/RuntimeException", "java/lang/Exception"]), w.before args s = true := vx_hat (fun w h => C.2.2.2.2.1 w (List.mem_filter.mpr ⟨jats_231 w h, (List.mem_filter.mp h).2⟩)) jatb_231 (jbad_ok C)
set_option maxRecDepth 100000 in
theorem jgood_X10_231 : ∀ w ∈ Cond.classLink RX10 227 "java/lang/IllegalArgumentException" :: Cond.initialized "java/lang/IllegalArgumentException" :: (vx_atS RX10 231 "java/lang/IllegalArgumentException" ["java/lang/RuntimeException", "java/lang/Exception"]), vx_ot w = true := by decide +kernel
set_option maxRecDepth 100000 in
theorem jats_81 : ∀ w ∈ (vx_atS RX10 81 "java/lang/IllegalStateException" ["java/lang/RuntimeException", "java/lang/Exception"]).filter goodWord, w ∈ lw_tbl := by decide +kernel
set_option maxRecDepth 100000 in
theorem jatb_81 : ∀ w ∈ (vx_atS RX10 81 "java/lang/IllegalStateException" ["java/lang/RuntimeException", "java/lang/Exception"]).filter (fun w => !goodWord w), w ∈ jBad := by decide +kernel
theorem jat_X10_81 {p : Program} {l : Launch} {s : State} {m : MethodId} {args : Array Value} {c : Code} {D : va_G} {t : Nat → ClassId} {A : Nat → Prop} {cc : ByteArray} {nL : Nat} {own : String} (C : jC p l s m args c D t A own cc nL) : ∀ w ∈ (vx_atS RX10 81 "java/lang/IllegalStateException" ["java/lang/RuntimeException", "java/lang/Exception"]), w.before args s = true := vx_hat (fun w h => C.2.2.2.2.1 w (List.mem_filter.mpr ⟨jats_81 w h, (List.mem_filter.mp h).2⟩)) jatb_81 (jbad_ok C)
set_option maxRecDepth 100000 in
theorem jgood_X10_81 : ∀ w ∈ Cond.classLink RX10 77 "java/lang/IllegalStateException" :: Cond.initialized "java/lang/IllegalStateException" :: (vx_atS RX10 81 "java/lang/IllegalStateException" ["java/lang/RuntimeException", "java/lang/Exception"]), vx_ot w = true := by decide +kernel
set_option maxRecDepth 100000 in
theorem jats_244 : ∀ w ∈ (vx_atS RX10 244 "java/lang/IndexOutOfBoundsException" ["java/lang/RuntimeException", "java/lang/Exception"]).filter goodWord, w ∈ lw_tbl := by decide +kernel
set_option maxRecDepth 100000 in
theorem jatb_244 : ∀ w ∈ (vx_atS RX10 244 "java/lang/IndexOutOfBoundsException" ["java/lang/RuntimeException", "java/lang/Exception"]).filter (fun w => !goodWord w), w ∈ jBad := by decide +kernel
theorem jat_X10_244 {p : Program} {l : Launch} {s : State} {m : MethodId} {args : Array Value} {c : Code} {D : va_G} {t : Nat → ClassId} {A : Nat → Prop} {cc : ByteArray} {nL : Nat} {own : String} (C : jC p l s m args c D t A own cc nL) : ∀ w ∈ (vx_atS RX10 244 "java/lang/IndexOutOfBoundsException" ["java/lang/RuntimeException", "java/lang/Exception"]), w.before args s = true := vx_hat (fun w h => C.2.2.2.2.1 w (List.mem_filter.mpr ⟨jats_244 w h, (List.mem_filter.mp h).2⟩)) jatb_244 (jbad_ok C)
set_option maxRecDepth 100000 in
theorem jgood_X10_244 : ∀ w ∈ Cond.classLink RX10 240 "java/lang/IndexOutOfBoundsException" :: Cond.initialized "java/lang/IndexOutOfBoundsException" :: (vx_atS RX10 244 "java/lang/IndexOutOfBoundsException" ["java/lang/RuntimeException", "java/lang/Exception"]), vx_ot w = true := by decide +kernel
