/-! The throws of the class: the words, the rows. -/
def exN : List String := ["java/lang/RuntimeException", "java/lang/Exception"]
def exT : List Cond := (lw_tbl.drop 90).take 40 ++ (lw_tbl.drop 590).take 130 ++ (lw_tbl.drop 1150).take 40
theorem exT_in {w : Cond} (h : w ∈ exT) : w ∈ lw_tbl := by
  rcases List.mem_append.mp h with h | h
  · rcases List.mem_append.mp h with h | h
    · exact List.mem_of_mem_drop (List.mem_of_mem_take h)
    · exact List.mem_of_mem_drop (List.mem_of_mem_take h)
  · exact List.mem_of_mem_drop (List.mem_of_mem_take h)
def exB (ix : UInt8) : ByteArray := ⟨#[0x2a, 0x2b, 0xb7, 0x00, ix, 0xb1]⟩
def ExOk (ik ic : Nat) (cls : String) (ix : UInt8) : Prop := Bundle.fit cls = true ∧ Cond.classLink RX9 ik cls ∈ gw ∧ Cond.initialized cls ∈ gw ∧ (∀ w ∈ vx_atX RX9 ic cls ix.toNat (exB ix) exN, w ∈ exT) ∧ (vx_atX RX9 ic cls ix.toNat (exB ix) exN).all (fun w => goodWord w || nwk w) = true ∧ decode (exB ix) 0 = .ok (.aload_n 0, 1) ∧ decode (exB ix) 1 = .ok (.aload_n 1, 1) ∧ decode (exB ix) 2 = .ok (.invokespecial ix.toNat, 3) ∧ decode (exB ix) 5 = .ok (.return_, 1)
theorem ex_119 : ExOk 119 123 "java/util/NoSuchElementException" 13 := ⟨by decide, (gx 592 (by decide +kernel) (by decide +kernel)), (gx 106 (by decide +kernel) (by decide +kernel)), by decide +kernel, by decide +kernel, by decide +kernel, by decide +kernel, by decide +kernel, by decide +kernel⟩
theorem ex_129 : ExOk 129 133 "java/lang/IndexOutOfBoundsException" 7 := ⟨by decide, (gx 665 (by decide +kernel) (by decide +kernel)), (gx 107 (by decide +kernel) (by decide +kernel)), by decide +kernel, by decide +kernel, by decide +kernel, by decide +kernel, by decide +kernel, by decide +kernel⟩
theorem ex_137 : ExOk 137 141 "java/lang/IllegalArgumentException" 7 := ⟨by decide, (gx 682 (by decide +kernel) (by decide +kernel)), (gx 108 (by decide +kernel) (by decide +kernel)), by decide +kernel, by decide +kernel, by decide +kernel, by decide +kernel, by decide +kernel, by decide +kernel⟩
theorem ex_145 : ExOk 145 149 "java/lang/IllegalStateException" 7 := ⟨by decide, (gx 699 (by decide +kernel) (by decide +kernel)), (gx 109 (by decide +kernel) (by decide +kernel)), by decide +kernel, by decide +kernel, by decide +kernel, by decide +kernel, by decide +kernel, by decide +kernel⟩
theorem ex_341 : ExOk 341 343 "java/lang/ArithmeticException" 7 := ⟨by decide, (gx 1177 (by decide +kernel) (by decide +kernel)), (gx 112 (by decide +kernel) (by decide +kernel)), by decide +kernel, by decide +kernel, by decide +kernel, by decide +kernel, by decide +kernel, by decide +kernel⟩
