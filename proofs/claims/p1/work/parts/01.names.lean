def tb : List Cond := lw_tbl.filter goodWord
theorem tb_good (w : Cond) (h : w ∈ tb) : (w.onTables && w.keeps) = true ∨ ∃ ty, w = .arrayClass ty := good_of_word (List.mem_filter.mp h).2
theorem mt {w : Cond} (i : Nat) (h : lw_tbl[i]? = some w) (hg : goodWord w = true) : w ∈ tb := List.mem_filter.mpr ⟨List.mem_of_getElem? h, hg⟩
theorem gi_t {c : Cond} (hc : c ∈ tb) : GoodIn tb (c :: tb) := by
  intro w hw
  rcases List.mem_cons.mp hw with rfl | h
  · exact ⟨hc, tb_good _ hc⟩
  · exact ⟨h, tb_good _ h⟩
theorem mk_s {R : Room} {s : State} {args : Array Value} {own : String} {index maxL mc ms : Nat} {y : MethodName} {bytes : ByteArray} {ret : Option FieldType} {rm : Room} (n : Nat) (hk : ∀ w ∈ tb, w.before args s = true) (hc : Cond.code y bytes maxL ret ∈ tb) (hl : Cond.methodLink own index y ∈ tb) (hs : Cond.static y ∈ tb) (hi : Cond.initialized y.cls ∈ tb) (hrc : rm.cells = mc) (hrs : rm.slots = ms)
    (hd : y.cls ≠ "java/lang/invoke/MethodHandle" ∧ y.cls ≠ "java/lang/invoke/VarHandle" ∧ (parseMethodDescriptor y.desc).map (fun d => d.parameters.length) = some n) (hR : rm.frames + 1 ≤ R.frames ∧ 8 + (maxL + 11) + rm.locals ≤ R.locals) :
    CallB R s args own index y bytes maxL ret (Cond.code y bytes maxL ret :: tb) rm mc ms n ∧ (Cond.static y).before args s = true := ⟨callB_of n hk (gi_t hc) rfl hrc hrs (hk _ hi) (hk _ hl) hd hR, hk _ hs⟩
theorem mk_v {R : Room} {s : State} {args : Array Value} {own C : String} {index maxL mc ms : Nat} {y : MethodName} {bytes : ByteArray} {ret : Option FieldType} {rm : Room} (n : Nat) (hk : ∀ w ∈ tb, w.before args s = true) (hc : Cond.code y bytes maxL ret ∈ tb) (hl : Cond.methodLink own index y ∈ tb) (hs : Cond.instanceMethod y ∈ tb) (hse : Cond.selects C y y ∈ tb) (hi : Cond.initialized y.cls ∈ tb) (hrc : rm.cells = mc) (hrs : rm.slots = ms)
    (hd : y.cls ≠ "java/lang/invoke/MethodHandle" ∧ y.cls ≠ "java/lang/invoke/VarHandle" ∧ (parseMethodDescriptor y.desc).map (fun d => d.parameters.length) = some n) (hR : rm.frames + 1 ≤ R.frames ∧ 8 + (maxL + 11) + rm.locals ≤ R.locals) :
    CallW R s args own C index y bytes maxL ret (Cond.code y bytes maxL ret :: tb) rm mc ms n := ⟨callB_of n hk (gi_t hc) rfl hrc hrs (hk _ hi) (hk _ hl) hd hR, hk _ hs, hk _ hse⟩
/-- a truth as the machine's int -/
def bI (b : Bool) : Int32 := if b = true then 1 else 0
theorem nar_bI (b : Bool) : narrow .boolean (.int (bI b)) = .int (bI b) := by cases b <;> rfl
theorem fit_bI (b : Bool) : fits .boolean (.int (bI b)) = true := by cases b <;> rfl
theorem bI_0 {b : Bool} : bI b = 0 ↔ b = false := by cases b <;> simp [bI]
theorem bI_n {b : Bool} : ¬ bI b = 0 ↔ b = true := by cases b <;> simp [bI]
abbrev b_W_isWord : ByteArray := prog_9_method_2_code
abbrev y_W_isWord : MethodName := ⟨"SignMachine$Word", "isWord", "(II)Z"⟩
theorem h_W_isWord : (y_W_isWord).cls ≠ "java/lang/invoke/MethodHandle" ∧ (y_W_isWord).cls ≠ "java/lang/invoke/VarHandle" ∧ (parseMethodDescriptor (y_W_isWord).desc).map (fun d => d.parameters.length) = some 2 := by decide +kernel
theorem d_W_isWord_0 : decode b_W_isWord 0 = .ok (.iload_n 0, 1) := by decide +kernel
theorem d_W_isWord_1 : decode b_W_isWord 1 = .ok (.ifCond .eq 8, 3) := by decide +kernel
theorem d_W_isWord_4 : decode b_W_isWord 4 = .ok (.iload_n 0, 1) := by decide +kernel
theorem d_W_isWord_5 : decode b_W_isWord 5 = .ok (.iconst 1, 1) := by decide +kernel
theorem d_W_isWord_6 : decode b_W_isWord 6 = .ok (.if_icmp .ne 17, 3) := by decide +kernel
theorem d_W_isWord_9 : decode b_W_isWord 9 = .ok (.iload_n 1, 1) := by decide +kernel
theorem d_W_isWord_10 : decode b_W_isWord 10 = .ok (.ifCond .lt 13, 3) := by decide +kernel
theorem d_W_isWord_13 : decode b_W_isWord 13 = .ok (.iload_n 1, 1) := by decide +kernel
theorem d_W_isWord_14 : decode b_W_isWord 14 = .ok (.ldc 9, 2) := by decide +kernel
theorem d_W_isWord_16 : decode b_W_isWord 16 = .ok (.if_icmp .gt 7, 3) := by decide +kernel
theorem d_W_isWord_19 : decode b_W_isWord 19 = .ok (.iconst 1, 1) := by decide +kernel
theorem d_W_isWord_20 : decode b_W_isWord 20 = .ok (.goto 4, 3) := by decide +kernel
theorem d_W_isWord_23 : decode b_W_isWord 23 = .ok (.iconst 0, 1) := by decide +kernel
theorem d_W_isWord_24 : decode b_W_isWord 24 = .ok (.ireturn, 1) := by decide +kernel
abbrev b_W_make : ByteArray := prog_9_method_3_code
abbrev y_W_make : MethodName := ⟨"SignMachine$Word", "make", "(II)I"⟩
theorem h_W_make : (y_W_make).cls ≠ "java/lang/invoke/MethodHandle" ∧ (y_W_make).cls ≠ "java/lang/invoke/VarHandle" ∧ (parseMethodDescriptor (y_W_make).desc).map (fun d => d.parameters.length) = some 2 := by decide +kernel
theorem d_W_make_0 : decode b_W_make 0 = .ok (.iload_n 0, 1) := by decide +kernel
theorem d_W_make_1 : decode b_W_make 1 = .ok (.ifCond .ne 7, 3) := by decide +kernel
theorem d_W_make_4 : decode b_W_make 4 = .ok (.iload_n 1, 1) := by decide +kernel
theorem d_W_make_5 : decode b_W_make 5 = .ok (.goto 7, 3) := by decide +kernel
theorem d_W_make_8 : decode b_W_make 8 = .ok (.iload_n 1, 1) := by decide +kernel
theorem d_W_make_9 : decode b_W_make 9 = .ok (.ldc 10, 2) := by decide +kernel
theorem d_W_make_11 : decode b_W_make 11 = .ok (.ior, 1) := by decide +kernel
theorem d_W_make_12 : decode b_W_make 12 = .ok (.ireturn, 1) := by decide +kernel
abbrev b_W_sign : ByteArray := prog_9_method_4_code
abbrev y_W_sign : MethodName := ⟨"SignMachine$Word", "sign", "(I)I"⟩
theorem h_W_sign : (y_W_sign).cls ≠ "java/lang/invoke/MethodHandle" ∧ (y_W_sign).cls ≠ "java/lang/invoke/VarHandle" ∧ (parseMethodDescriptor (y_W_sign).desc).map (fun d => d.parameters.length) = some 1 := by decide +kernel
theorem d_W_sign_0 : decode b_W_sign 0 = .ok (.iload_n 0, 1) := by decide +kernel
theorem d_W_sign_1 : decode b_W_sign 1 = .ok (.ldc 10, 2) := by decide +kernel
theorem d_W_sign_3 : decode b_W_sign 3 = .ok (.iand, 1) := by decide +kernel
theorem d_W_sign_4 : decode b_W_sign 4 = .ok (.ifCond .ne 7, 3) := by decide +kernel
theorem d_W_sign_7 : decode b_W_sign 7 = .ok (.iconst 0, 1) := by decide +kernel
theorem d_W_sign_8 : decode b_W_sign 8 = .ok (.goto 4, 3) := by decide +kernel
theorem d_W_sign_11 : decode b_W_sign 11 = .ok (.iconst 1, 1) := by decide +kernel
theorem d_W_sign_12 : decode b_W_sign 12 = .ok (.ireturn, 1) := by decide +kernel
abbrev b_W_size : ByteArray := prog_9_method_5_code
abbrev y_W_size : MethodName := ⟨"SignMachine$Word", "size", "(I)I"⟩
theorem h_W_size : (y_W_size).cls ≠ "java/lang/invoke/MethodHandle" ∧ (y_W_size).cls ≠ "java/lang/invoke/VarHandle" ∧ (parseMethodDescriptor (y_W_size).desc).map (fun d => d.parameters.length) = some 1 := by decide +kernel
theorem d_W_size_0 : decode b_W_size 0 = .ok (.iload_n 0, 1) := by decide +kernel
theorem d_W_size_1 : decode b_W_size 1 = .ok (.ldc 9, 2) := by decide +kernel
theorem d_W_size_3 : decode b_W_size 3 = .ok (.iand, 1) := by decide +kernel
theorem d_W_size_4 : decode b_W_size 4 = .ok (.ireturn, 1) := by decide +kernel
abbrev b_W_number : ByteArray := prog_9_method_6_code
abbrev y_W_number : MethodName := ⟨"SignMachine$Word", "number", "(I)I"⟩
theorem h_W_number : (y_W_number).cls ≠ "java/lang/invoke/MethodHandle" ∧ (y_W_number).cls ≠ "java/lang/invoke/VarHandle" ∧ (parseMethodDescriptor (y_W_number).desc).map (fun d => d.parameters.length) = some 1 := by decide +kernel
theorem d_W_number_0 : decode b_W_number 0 = .ok (.iload_n 0, 1) := by decide +kernel
theorem d_W_number_1 : decode b_W_number 1 = .ok (.ldc 10, 2) := by decide +kernel
theorem d_W_number_3 : decode b_W_number 3 = .ok (.iand, 1) := by decide +kernel
theorem d_W_number_4 : decode b_W_number 4 = .ok (.ifCond .ne 10, 3) := by decide +kernel
theorem d_W_number_7 : decode b_W_number 7 = .ok (.iload_n 0, 1) := by decide +kernel
theorem d_W_number_8 : decode b_W_number 8 = .ok (.ldc 9, 2) := by decide +kernel
theorem d_W_number_10 : decode b_W_number 10 = .ok (.iand, 1) := by decide +kernel
theorem d_W_number_11 : decode b_W_number 11 = .ok (.goto 8, 3) := by decide +kernel
theorem d_W_number_14 : decode b_W_number 14 = .ok (.iload_n 0, 1) := by decide +kernel
theorem d_W_number_15 : decode b_W_number 15 = .ok (.ldc 9, 2) := by decide +kernel
theorem d_W_number_17 : decode b_W_number 17 = .ok (.iand, 1) := by decide +kernel
theorem d_W_number_18 : decode b_W_number 18 = .ok (.ineg, 1) := by decide +kernel
theorem d_W_number_19 : decode b_W_number 19 = .ok (.ireturn, 1) := by decide +kernel
abbrev b_W_opposite : ByteArray := prog_9_method_7_code
abbrev y_W_opposite : MethodName := ⟨"SignMachine$Word", "opposite", "(I)I"⟩
theorem h_W_opposite : (y_W_opposite).cls ≠ "java/lang/invoke/MethodHandle" ∧ (y_W_opposite).cls ≠ "java/lang/invoke/VarHandle" ∧ (parseMethodDescriptor (y_W_opposite).desc).map (fun d => d.parameters.length) = some 1 := by decide +kernel
theorem d_W_opposite_0 : decode b_W_opposite 0 = .ok (.iload_n 0, 1) := by decide +kernel
theorem d_W_opposite_1 : decode b_W_opposite 1 = .ok (.ldc 10, 2) := by decide +kernel
theorem d_W_opposite_3 : decode b_W_opposite 3 = .ok (.ixor, 1) := by decide +kernel
theorem d_W_opposite_4 : decode b_W_opposite 4 = .ok (.ireturn, 1) := by decide +kernel
abbrev b_W_of : ByteArray := prog_9_method_8_code
abbrev y_W_of : MethodName := ⟨"SignMachine$Word", "of", "(II)I"⟩
theorem h_W_of : (y_W_of).cls ≠ "java/lang/invoke/MethodHandle" ∧ (y_W_of).cls ≠ "java/lang/invoke/VarHandle" ∧ (parseMethodDescriptor (y_W_of).desc).map (fun d => d.parameters.length) = some 2 := by decide +kernel
theorem d_W_of_0 : decode b_W_of 0 = .ok (.iload_n 0, 1) := by decide +kernel
theorem d_W_of_1 : decode b_W_of 1 = .ok (.ifCond .ne 9, 3) := by decide +kernel
theorem d_W_of_4 : decode b_W_of 4 = .ok (.iload_n 1, 1) := by decide +kernel
theorem d_W_of_5 : decode b_W_of 5 = .ok (.iconst 0, 1) := by decide +kernel
theorem d_W_of_6 : decode b_W_of 6 = .ok (.invokestatic 11, 3) := by decide +kernel
theorem d_W_of_9 : decode b_W_of 9 = .ok (.ireturn, 1) := by decide +kernel
theorem d_W_of_10 : decode b_W_of 10 = .ok (.iload_n 0, 1) := by decide +kernel
theorem d_W_of_11 : decode b_W_of 11 = .ok (.ifCond .le 7, 3) := by decide +kernel
theorem d_W_of_14 : decode b_W_of 14 = .ok (.iload_n 0, 1) := by decide +kernel
theorem d_W_of_15 : decode b_W_of 15 = .ok (.goto 9, 3) := by decide +kernel
theorem d_W_of_18 : decode b_W_of 18 = .ok (.iconst 1, 1) := by decide +kernel
theorem d_W_of_19 : decode b_W_of 19 = .ok (.iload_n 0, 1) := by decide +kernel
theorem d_W_of_20 : decode b_W_of 20 = .ok (.ineg, 1) := by decide +kernel
theorem d_W_of_21 : decode b_W_of 21 = .ok (.invokestatic 11, 3) := by decide +kernel
theorem d_W_of_24 : decode b_W_of 24 = .ok (.ireturn, 1) := by decide +kernel
abbrev b_W_isField : ByteArray := prog_9_method_9_code
abbrev y_W_isField : MethodName := ⟨"SignMachine$Word", "isField", "(I)Z"⟩
theorem h_W_isField : (y_W_isField).cls ≠ "java/lang/invoke/MethodHandle" ∧ (y_W_isField).cls ≠ "java/lang/invoke/VarHandle" ∧ (parseMethodDescriptor (y_W_isField).desc).map (fun d => d.parameters.length) = some 1 := by decide +kernel
theorem d_W_isField_0 : decode b_W_isField 0 = .ok (.iload_n 0, 1) := by decide +kernel
theorem d_W_isField_1 : decode b_W_isField 1 = .ok (.iconst 3, 1) := by decide +kernel
theorem d_W_isField_2 : decode b_W_isField 2 = .ok (.ishr, 1) := by decide +kernel
theorem d_W_isField_3 : decode b_W_isField 3 = .ok (.istore_n 1, 1) := by decide +kernel
theorem d_W_isField_4 : decode b_W_isField 4 = .ok (.iload_n 0, 1) := by decide +kernel
theorem d_W_isField_5 : decode b_W_isField 5 = .ok (.bipush 7, 2) := by decide +kernel
theorem d_W_isField_7 : decode b_W_isField 7 = .ok (.iand, 1) := by decide +kernel
theorem d_W_isField_8 : decode b_W_isField 8 = .ok (.istore_n 2, 1) := by decide +kernel
theorem d_W_isField_9 : decode b_W_isField 9 = .ok (.iload_n 0, 1) := by decide +kernel
theorem d_W_isField_10 : decode b_W_isField 10 = .ok (.ifCond .lt 17, 3) := by decide +kernel
theorem d_W_isField_13 : decode b_W_isField 13 = .ok (.iload_n 1, 1) := by decide +kernel
theorem d_W_isField_14 : decode b_W_isField 14 = .ok (.iload_n 2, 1) := by decide +kernel
theorem d_W_isField_15 : decode b_W_isField 15 = .ok (.if_icmp .gt 12, 3) := by decide +kernel
theorem d_W_isField_18 : decode b_W_isField 18 = .ok (.iload_n 2, 1) := by decide +kernel
theorem d_W_isField_19 : decode b_W_isField 19 = .ok (.iconst 5, 1) := by decide +kernel
theorem d_W_isField_20 : decode b_W_isField 20 = .ok (.if_icmp .gt 7, 3) := by decide +kernel
theorem d_W_isField_23 : decode b_W_isField 23 = .ok (.iconst 1, 1) := by decide +kernel
theorem d_W_isField_24 : decode b_W_isField 24 = .ok (.goto 4, 3) := by decide +kernel
theorem d_W_isField_27 : decode b_W_isField 27 = .ok (.iconst 0, 1) := by decide +kernel
theorem d_W_isField_28 : decode b_W_isField 28 = .ok (.ireturn, 1) := by decide +kernel
abbrev b_W_maskOf : ByteArray := prog_9_method_10_code
abbrev y_W_maskOf : MethodName := ⟨"SignMachine$Word", "maskOf", "(I)I"⟩
theorem h_W_maskOf : (y_W_maskOf).cls ≠ "java/lang/invoke/MethodHandle" ∧ (y_W_maskOf).cls ≠ "java/lang/invoke/VarHandle" ∧ (parseMethodDescriptor (y_W_maskOf).desc).map (fun d => d.parameters.length) = some 1 := by decide +kernel
theorem d_W_maskOf_0 : decode b_W_maskOf 0 = .ok (.iload_n 0, 1) := by decide +kernel
theorem d_W_maskOf_1 : decode b_W_maskOf 1 = .ok (.iconst 3, 1) := by decide +kernel
theorem d_W_maskOf_2 : decode b_W_maskOf 2 = .ok (.ishr, 1) := by decide +kernel
theorem d_W_maskOf_3 : decode b_W_maskOf 3 = .ok (.istore_n 1, 1) := by decide +kernel
theorem d_W_maskOf_4 : decode b_W_maskOf 4 = .ok (.iload_n 0, 1) := by decide +kernel
theorem d_W_maskOf_5 : decode b_W_maskOf 5 = .ok (.bipush 7, 2) := by decide +kernel
theorem d_W_maskOf_7 : decode b_W_maskOf 7 = .ok (.iand, 1) := by decide +kernel
theorem d_W_maskOf_8 : decode b_W_maskOf 8 = .ok (.istore_n 2, 1) := by decide +kernel
theorem d_W_maskOf_9 : decode b_W_maskOf 9 = .ok (.iload_n 1, 1) := by decide +kernel
theorem d_W_maskOf_10 : decode b_W_maskOf 10 = .ok (.ifCond .ne 7, 3) := by decide +kernel
theorem d_W_maskOf_13 : decode b_W_maskOf 13 = .ok (.iload_n 2, 1) := by decide +kernel
theorem d_W_maskOf_14 : decode b_W_maskOf 14 = .ok (.goto 8, 3) := by decide +kernel
theorem d_W_maskOf_17 : decode b_W_maskOf 17 = .ok (.iload_n 2, 1) := by decide +kernel
theorem d_W_maskOf_18 : decode b_W_maskOf 18 = .ok (.iload_n 1, 1) := by decide +kernel
theorem d_W_maskOf_19 : decode b_W_maskOf 19 = .ok (.isub, 1) := by decide +kernel
theorem d_W_maskOf_20 : decode b_W_maskOf 20 = .ok (.iconst 1, 1) := by decide +kernel
theorem d_W_maskOf_21 : decode b_W_maskOf 21 = .ok (.iadd, 1) := by decide +kernel
theorem d_W_maskOf_22 : decode b_W_maskOf 22 = .ok (.istore_n 3, 1) := by decide +kernel
theorem d_W_maskOf_23 : decode b_W_maskOf 23 = .ok (.iconst 1, 1) := by decide +kernel
theorem d_W_maskOf_24 : decode b_W_maskOf 24 = .ok (.bipush 6, 2) := by decide +kernel
theorem d_W_maskOf_26 : decode b_W_maskOf 26 = .ok (.iload_n 3, 1) := by decide +kernel
theorem d_W_maskOf_27 : decode b_W_maskOf 27 = .ok (.imul, 1) := by decide +kernel
theorem d_W_maskOf_28 : decode b_W_maskOf 28 = .ok (.ishl, 1) := by decide +kernel
theorem d_W_maskOf_29 : decode b_W_maskOf 29 = .ok (.iconst 1, 1) := by decide +kernel
theorem d_W_maskOf_30 : decode b_W_maskOf 30 = .ok (.isub, 1) := by decide +kernel
theorem d_W_maskOf_31 : decode b_W_maskOf 31 = .ok (.ireturn, 1) := by decide +kernel
abbrev b_W_bitsBehind : ByteArray := prog_9_method_11_code
abbrev y_W_bitsBehind : MethodName := ⟨"SignMachine$Word", "bitsBehind", "(I)I"⟩
theorem h_W_bitsBehind : (y_W_bitsBehind).cls ≠ "java/lang/invoke/MethodHandle" ∧ (y_W_bitsBehind).cls ≠ "java/lang/invoke/VarHandle" ∧ (parseMethodDescriptor (y_W_bitsBehind).desc).map (fun d => d.parameters.length) = some 1 := by decide +kernel
theorem d_W_bitsBehind_0 : decode b_W_bitsBehind 0 = .ok (.bipush 6, 2) := by decide +kernel
theorem d_W_bitsBehind_2 : decode b_W_bitsBehind 2 = .ok (.iconst 5, 1) := by decide +kernel
theorem d_W_bitsBehind_3 : decode b_W_bitsBehind 3 = .ok (.iload_n 0, 1) := by decide +kernel
theorem d_W_bitsBehind_4 : decode b_W_bitsBehind 4 = .ok (.bipush 7, 2) := by decide +kernel
theorem d_W_bitsBehind_6 : decode b_W_bitsBehind 6 = .ok (.iand, 1) := by decide +kernel
theorem d_W_bitsBehind_7 : decode b_W_bitsBehind 7 = .ok (.isub, 1) := by decide +kernel
theorem d_W_bitsBehind_8 : decode b_W_bitsBehind 8 = .ok (.imul, 1) := by decide +kernel
theorem d_W_bitsBehind_9 : decode b_W_bitsBehind 9 = .ok (.ireturn, 1) := by decide +kernel
abbrev b_W_field : ByteArray := prog_9_method_12_code
abbrev y_W_field : MethodName := ⟨"SignMachine$Word", "field", "(II)I"⟩
theorem h_W_field : (y_W_field).cls ≠ "java/lang/invoke/MethodHandle" ∧ (y_W_field).cls ≠ "java/lang/invoke/VarHandle" ∧ (parseMethodDescriptor (y_W_field).desc).map (fun d => d.parameters.length) = some 2 := by decide +kernel
theorem d_W_field_0 : decode b_W_field 0 = .ok (.iload_n 0, 1) := by decide +kernel
theorem d_W_field_1 : decode b_W_field 1 = .ok (.invokestatic 15, 3) := by decide +kernel
theorem d_W_field_4 : decode b_W_field 4 = .ok (.iload_n 1, 1) := by decide +kernel
theorem d_W_field_5 : decode b_W_field 5 = .ok (.invokestatic 19, 3) := by decide +kernel
theorem d_W_field_8 : decode b_W_field 8 = .ok (.ishr, 1) := by decide +kernel
theorem d_W_field_9 : decode b_W_field 9 = .ok (.iload_n 1, 1) := by decide +kernel
theorem d_W_field_10 : decode b_W_field 10 = .ok (.invokestatic 22, 3) := by decide +kernel
theorem d_W_field_13 : decode b_W_field 13 = .ok (.iand, 1) := by decide +kernel
theorem d_W_field_14 : decode b_W_field 14 = .ok (.istore_n 2, 1) := by decide +kernel
theorem d_W_field_15 : decode b_W_field 15 = .ok (.iload_n 1, 1) := by decide +kernel
theorem d_W_field_16 : decode b_W_field 16 = .ok (.iconst 3, 1) := by decide +kernel
theorem d_W_field_17 : decode b_W_field 17 = .ok (.ishr, 1) := by decide +kernel
theorem d_W_field_18 : decode b_W_field 18 = .ok (.ifCond .ne 14, 3) := by decide +kernel
theorem d_W_field_21 : decode b_W_field 21 = .ok (.iload_n 0, 1) := by decide +kernel
theorem d_W_field_22 : decode b_W_field 22 = .ok (.invokestatic 25, 3) := by decide +kernel
theorem d_W_field_25 : decode b_W_field 25 = .ok (.iload_n 2, 1) := by decide +kernel
theorem d_W_field_26 : decode b_W_field 26 = .ok (.invokestatic 11, 3) := by decide +kernel
theorem d_W_field_29 : decode b_W_field 29 = .ok (.goto 4, 3) := by decide +kernel
theorem d_W_field_32 : decode b_W_field 32 = .ok (.iload_n 2, 1) := by decide +kernel
theorem d_W_field_33 : decode b_W_field 33 = .ok (.ireturn, 1) := by decide +kernel
abbrev b_W_store : ByteArray := prog_9_method_13_code
abbrev y_W_store : MethodName := ⟨"SignMachine$Word", "store", "(III)I"⟩
theorem h_W_store : (y_W_store).cls ≠ "java/lang/invoke/MethodHandle" ∧ (y_W_store).cls ≠ "java/lang/invoke/VarHandle" ∧ (parseMethodDescriptor (y_W_store).desc).map (fun d => d.parameters.length) = some 3 := by decide +kernel
theorem d_W_store_0 : decode b_W_store 0 = .ok (.iload_n 2, 1) := by decide +kernel
theorem d_W_store_1 : decode b_W_store 1 = .ok (.invokestatic 22, 3) := by decide +kernel
theorem d_W_store_4 : decode b_W_store 4 = .ok (.istore_n 3, 1) := by decide +kernel
theorem d_W_store_5 : decode b_W_store 5 = .ok (.iload_n 2, 1) := by decide +kernel
theorem d_W_store_6 : decode b_W_store 6 = .ok (.invokestatic 19, 3) := by decide +kernel
theorem d_W_store_9 : decode b_W_store 9 = .ok (.istore 4, 2) := by decide +kernel
theorem d_W_store_11 : decode b_W_store 11 = .ok (.iload_n 0, 1) := by decide +kernel
theorem d_W_store_12 : decode b_W_store 12 = .ok (.invokestatic 15, 3) := by decide +kernel
theorem d_W_store_15 : decode b_W_store 15 = .ok (.iload_n 3, 1) := by decide +kernel
theorem d_W_store_16 : decode b_W_store 16 = .ok (.iload 4, 2) := by decide +kernel
theorem d_W_store_18 : decode b_W_store 18 = .ok (.ishl, 1) := by decide +kernel
theorem d_W_store_19 : decode b_W_store 19 = .ok (.iconst (-1), 1) := by decide +kernel
theorem d_W_store_20 : decode b_W_store 20 = .ok (.ixor, 1) := by decide +kernel
theorem d_W_store_21 : decode b_W_store 21 = .ok (.iand, 1) := by decide +kernel
theorem d_W_store_22 : decode b_W_store 22 = .ok (.iload_n 1, 1) := by decide +kernel
theorem d_W_store_23 : decode b_W_store 23 = .ok (.iload_n 3, 1) := by decide +kernel
theorem d_W_store_24 : decode b_W_store 24 = .ok (.iand, 1) := by decide +kernel
theorem d_W_store_25 : decode b_W_store 25 = .ok (.iload 4, 2) := by decide +kernel
theorem d_W_store_27 : decode b_W_store 27 = .ok (.ishl, 1) := by decide +kernel
theorem d_W_store_28 : decode b_W_store 28 = .ok (.ior, 1) := by decide +kernel
theorem d_W_store_29 : decode b_W_store 29 = .ok (.istore 5, 2) := by decide +kernel
theorem d_W_store_31 : decode b_W_store 31 = .ok (.iload_n 2, 1) := by decide +kernel
theorem d_W_store_32 : decode b_W_store 32 = .ok (.iconst 3, 1) := by decide +kernel
theorem d_W_store_33 : decode b_W_store 33 = .ok (.ishr, 1) := by decide +kernel
theorem d_W_store_34 : decode b_W_store 34 = .ok (.ifCond .ne 10, 3) := by decide +kernel
theorem d_W_store_37 : decode b_W_store 37 = .ok (.iload_n 1, 1) := by decide +kernel
theorem d_W_store_38 : decode b_W_store 38 = .ok (.invokestatic 25, 3) := by decide +kernel
theorem d_W_store_41 : decode b_W_store 41 = .ok (.goto 7, 3) := by decide +kernel
theorem d_W_store_44 : decode b_W_store 44 = .ok (.iload_n 0, 1) := by decide +kernel
theorem d_W_store_45 : decode b_W_store 45 = .ok (.invokestatic 25, 3) := by decide +kernel
theorem d_W_store_48 : decode b_W_store 48 = .ok (.iload 5, 2) := by decide +kernel
theorem d_W_store_50 : decode b_W_store 50 = .ok (.invokestatic 11, 3) := by decide +kernel
theorem d_W_store_53 : decode b_W_store 53 = .ok (.ireturn, 1) := by decide +kernel
abbrev b_M_isAddress : ByteArray := prog_3_method_2_code
abbrev y_M_isAddress : MethodName := ⟨"SignMachine$Machine", "isAddress", "(I)Z"⟩
theorem h_M_isAddress : (y_M_isAddress).cls ≠ "java/lang/invoke/MethodHandle" ∧ (y_M_isAddress).cls ≠ "java/lang/invoke/VarHandle" ∧ (parseMethodDescriptor (y_M_isAddress).desc).map (fun d => d.parameters.length) = some 1 := by decide +kernel
theorem d_M_isAddress_0 : decode b_M_isAddress 0 = .ok (.iload_n 0, 1) := by decide +kernel
theorem d_M_isAddress_1 : decode b_M_isAddress 1 = .ok (.ifCond .lt 14, 3) := by decide +kernel
theorem d_M_isAddress_4 : decode b_M_isAddress 4 = .ok (.iload_n 0, 1) := by decide +kernel
theorem d_M_isAddress_5 : decode b_M_isAddress 5 = .ok (.sipush 4000, 3) := by decide +kernel
theorem d_M_isAddress_8 : decode b_M_isAddress 8 = .ok (.if_icmp .ge 7, 3) := by decide +kernel
theorem d_M_isAddress_11 : decode b_M_isAddress 11 = .ok (.iconst 1, 1) := by decide +kernel
theorem d_M_isAddress_12 : decode b_M_isAddress 12 = .ok (.goto 4, 3) := by decide +kernel
theorem d_M_isAddress_15 : decode b_M_isAddress 15 = .ok (.iconst 0, 1) := by decide +kernel
theorem d_M_isAddress_16 : decode b_M_isAddress 16 = .ok (.ireturn, 1) := by decide +kernel
abbrev b_M_isRegister : ByteArray := prog_3_method_3_code
abbrev y_M_isRegister : MethodName := ⟨"SignMachine$Machine", "isRegister", "(I)Z"⟩
theorem h_M_isRegister : (y_M_isRegister).cls ≠ "java/lang/invoke/MethodHandle" ∧ (y_M_isRegister).cls ≠ "java/lang/invoke/VarHandle" ∧ (parseMethodDescriptor (y_M_isRegister).desc).map (fun d => d.parameters.length) = some 1 := by decide +kernel
theorem d_M_isRegister_0 : decode b_M_isRegister 0 = .ok (.iload_n 0, 1) := by decide +kernel
theorem d_M_isRegister_1 : decode b_M_isRegister 1 = .ok (.ifCond .lt 13, 3) := by decide +kernel
theorem d_M_isRegister_4 : decode b_M_isRegister 4 = .ok (.iload_n 0, 1) := by decide +kernel
theorem d_M_isRegister_5 : decode b_M_isRegister 5 = .ok (.bipush 9, 2) := by decide +kernel
theorem d_M_isRegister_7 : decode b_M_isRegister 7 = .ok (.if_icmp .ge 7, 3) := by decide +kernel
theorem d_M_isRegister_10 : decode b_M_isRegister 10 = .ok (.iconst 1, 1) := by decide +kernel
theorem d_M_isRegister_11 : decode b_M_isRegister 11 = .ok (.goto 4, 3) := by decide +kernel
theorem d_M_isRegister_14 : decode b_M_isRegister 14 = .ok (.iconst 0, 1) := by decide +kernel
theorem d_M_isRegister_15 : decode b_M_isRegister 15 = .ok (.ireturn, 1) := by decide +kernel
abbrev b_M_isIndex : ByteArray := prog_3_method_4_code
abbrev y_M_isIndex : MethodName := ⟨"SignMachine$Machine", "isIndex", "(I)Z"⟩
theorem h_M_isIndex : (y_M_isIndex).cls ≠ "java/lang/invoke/MethodHandle" ∧ (y_M_isIndex).cls ≠ "java/lang/invoke/VarHandle" ∧ (parseMethodDescriptor (y_M_isIndex).desc).map (fun d => d.parameters.length) = some 1 := by decide +kernel
theorem d_M_isIndex_0 : decode b_M_isIndex 0 = .ok (.iload_n 0, 1) := by decide +kernel
theorem d_M_isIndex_1 : decode b_M_isIndex 1 = .ok (.iconst 1, 1) := by decide +kernel
theorem d_M_isIndex_2 : decode b_M_isIndex 2 = .ok (.if_icmp .lt 13, 3) := by decide +kernel
theorem d_M_isIndex_5 : decode b_M_isIndex 5 = .ok (.iload_n 0, 1) := by decide +kernel
theorem d_M_isIndex_6 : decode b_M_isIndex 6 = .ok (.bipush 6, 2) := by decide +kernel
theorem d_M_isIndex_8 : decode b_M_isIndex 8 = .ok (.if_icmp .gt 7, 3) := by decide +kernel
theorem d_M_isIndex_11 : decode b_M_isIndex 11 = .ok (.iconst 1, 1) := by decide +kernel
theorem d_M_isIndex_12 : decode b_M_isIndex 12 = .ok (.goto 4, 3) := by decide +kernel
theorem d_M_isIndex_15 : decode b_M_isIndex 15 = .ok (.iconst 0, 1) := by decide +kernel
theorem d_M_isIndex_16 : decode b_M_isIndex 16 = .ok (.ireturn, 1) := by decide +kernel
abbrev b_M_isShort : ByteArray := prog_3_method_5_code
abbrev y_M_isShort : MethodName := ⟨"SignMachine$Machine", "isShort", "(I)Z"⟩
theorem h_M_isShort : (y_M_isShort).cls ≠ "java/lang/invoke/MethodHandle" ∧ (y_M_isShort).cls ≠ "java/lang/invoke/VarHandle" ∧ (parseMethodDescriptor (y_M_isShort).desc).map (fun d => d.parameters.length) = some 1 := by decide +kernel
theorem d_M_isShort_0 : decode b_M_isShort 0 = .ok (.iload_n 0, 1) := by decide +kernel
theorem d_M_isShort_1 : decode b_M_isShort 1 = .ok (.invokestatic 28, 3) := by decide +kernel
theorem d_M_isShort_4 : decode b_M_isShort 4 = .ok (.ifCond .ne 9, 3) := by decide +kernel
theorem d_M_isShort_7 : decode b_M_isShort 7 = .ok (.iload_n 0, 1) := by decide +kernel
theorem d_M_isShort_8 : decode b_M_isShort 8 = .ok (.bipush 8, 2) := by decide +kernel
theorem d_M_isShort_10 : decode b_M_isShort 10 = .ok (.if_icmp .ne 7, 3) := by decide +kernel
theorem d_M_isShort_13 : decode b_M_isShort 13 = .ok (.iconst 1, 1) := by decide +kernel
theorem d_M_isShort_14 : decode b_M_isShort 14 = .ok (.goto 4, 3) := by decide +kernel
theorem d_M_isShort_17 : decode b_M_isShort 17 = .ok (.iconst 0, 1) := by decide +kernel
theorem d_M_isShort_18 : decode b_M_isShort 18 = .ok (.ireturn, 1) := by decide +kernel
abbrev b_M_hasWords : ByteArray := prog_3_method_18_code
abbrev y_M_hasWords : MethodName := ⟨"SignMachine$Machine", "hasWords", "(II)Z"⟩
theorem h_M_hasWords : (y_M_hasWords).cls ≠ "java/lang/invoke/MethodHandle" ∧ (y_M_hasWords).cls ≠ "java/lang/invoke/VarHandle" ∧ (parseMethodDescriptor (y_M_hasWords).desc).map (fun d => d.parameters.length) = some 2 := by decide +kernel
theorem d_M_hasWords_0 : decode b_M_hasWords 0 = .ok (.iload_n 0, 1) := by decide +kernel
theorem d_M_hasWords_1 : decode b_M_hasWords 1 = .ok (.ifCond .lt 16, 3) := by decide +kernel
theorem d_M_hasWords_4 : decode b_M_hasWords 4 = .ok (.iload_n 0, 1) := by decide +kernel
theorem d_M_hasWords_5 : decode b_M_hasWords 5 = .ok (.iload_n 1, 1) := by decide +kernel
theorem d_M_hasWords_6 : decode b_M_hasWords 6 = .ok (.iadd, 1) := by decide +kernel
theorem d_M_hasWords_7 : decode b_M_hasWords 7 = .ok (.sipush 4000, 3) := by decide +kernel
theorem d_M_hasWords_10 : decode b_M_hasWords 10 = .ok (.if_icmp .gt 7, 3) := by decide +kernel
theorem d_M_hasWords_13 : decode b_M_hasWords 13 = .ok (.iconst 1, 1) := by decide +kernel
theorem d_M_hasWords_14 : decode b_M_hasWords 14 = .ok (.goto 4, 3) := by decide +kernel
theorem d_M_hasWords_17 : decode b_M_hasWords 17 = .ok (.iconst 0, 1) := by decide +kernel
theorem d_M_hasWords_18 : decode b_M_hasWords 18 = .ok (.ireturn, 1) := by decide +kernel
abbrev b_T_isWord : ByteArray := prog_8_method_2_code
abbrev y_T_isWord : MethodName := ⟨"SignMachine$Tape", "isWord", "(II)Z"⟩
theorem h_T_isWord : (y_T_isWord).cls ≠ "java/lang/invoke/MethodHandle" ∧ (y_T_isWord).cls ≠ "java/lang/invoke/VarHandle" ∧ (parseMethodDescriptor (y_T_isWord).desc).map (fun d => d.parameters.length) = some 2 := by decide +kernel
theorem d_T_isWord_0 : decode b_T_isWord 0 = .ok (.iload_n 0, 1) := by decide +kernel
theorem d_T_isWord_1 : decode b_T_isWord 1 = .ok (.ifCond .lt 23, 3) := by decide +kernel
theorem d_T_isWord_4 : decode b_T_isWord 4 = .ok (.iload_n 0, 1) := by decide +kernel
theorem d_T_isWord_5 : decode b_T_isWord 5 = .ok (.bipush 40, 2) := by decide +kernel
theorem d_T_isWord_7 : decode b_T_isWord 7 = .ok (.if_icmp .ge 17, 3) := by decide +kernel
theorem d_T_isWord_10 : decode b_T_isWord 10 = .ok (.iload_n 1, 1) := by decide +kernel
theorem d_T_isWord_11 : decode b_T_isWord 11 = .ok (.ifCond .lt 13, 3) := by decide +kernel
theorem d_T_isWord_14 : decode b_T_isWord 14 = .ok (.iload_n 1, 1) := by decide +kernel
theorem d_T_isWord_15 : decode b_T_isWord 15 = .ok (.bipush 100, 2) := by decide +kernel
theorem d_T_isWord_17 : decode b_T_isWord 17 = .ok (.if_icmp .ge 7, 3) := by decide +kernel
theorem d_T_isWord_20 : decode b_T_isWord 20 = .ok (.iconst 1, 1) := by decide +kernel
theorem d_T_isWord_21 : decode b_T_isWord 21 = .ok (.goto 4, 3) := by decide +kernel
theorem d_T_isWord_24 : decode b_T_isWord 24 = .ok (.iconst 0, 1) := by decide +kernel
theorem d_T_isWord_25 : decode b_T_isWord 25 = .ok (.ireturn, 1) := by decide +kernel
abbrev b_N_codeOf : ByteArray := prog_4_method_2_code
abbrev y_N_codeOf : MethodName := ⟨"SignMachine$Names", "codeOf", "(I)I"⟩
theorem h_N_codeOf : (y_N_codeOf).cls ≠ "java/lang/invoke/MethodHandle" ∧ (y_N_codeOf).cls ≠ "java/lang/invoke/VarHandle" ∧ (parseMethodDescriptor (y_N_codeOf).desc).map (fun d => d.parameters.length) = some 1 := by decide +kernel
theorem d_N_codeOf_0 : decode b_N_codeOf 0 = .ok (.iload_n 0, 1) := by decide +kernel
theorem d_N_codeOf_1 : decode b_N_codeOf 1 = .ok (.bipush 65, 2) := by decide +kernel
theorem d_N_codeOf_3 : decode b_N_codeOf 3 = .ok (.if_icmp .lt 16, 3) := by decide +kernel
theorem d_N_codeOf_6 : decode b_N_codeOf 6 = .ok (.iload_n 0, 1) := by decide +kernel
theorem d_N_codeOf_7 : decode b_N_codeOf 7 = .ok (.bipush 90, 2) := by decide +kernel
theorem d_N_codeOf_9 : decode b_N_codeOf 9 = .ok (.if_icmp .gt 10, 3) := by decide +kernel
theorem d_N_codeOf_12 : decode b_N_codeOf 12 = .ok (.iload_n 0, 1) := by decide +kernel
theorem d_N_codeOf_13 : decode b_N_codeOf 13 = .ok (.bipush 65, 2) := by decide +kernel
theorem d_N_codeOf_15 : decode b_N_codeOf 15 = .ok (.isub, 1) := by decide +kernel
theorem d_N_codeOf_16 : decode b_N_codeOf 16 = .ok (.iconst 1, 1) := by decide +kernel
theorem d_N_codeOf_17 : decode b_N_codeOf 17 = .ok (.iadd, 1) := by decide +kernel
theorem d_N_codeOf_18 : decode b_N_codeOf 18 = .ok (.ireturn, 1) := by decide +kernel
theorem d_N_codeOf_19 : decode b_N_codeOf 19 = .ok (.iload_n 0, 1) := by decide +kernel
theorem d_N_codeOf_20 : decode b_N_codeOf 20 = .ok (.bipush 48, 2) := by decide +kernel
theorem d_N_codeOf_22 : decode b_N_codeOf 22 = .ok (.if_icmp .lt 19, 3) := by decide +kernel
theorem d_N_codeOf_25 : decode b_N_codeOf 25 = .ok (.iload_n 0, 1) := by decide +kernel
theorem d_N_codeOf_26 : decode b_N_codeOf 26 = .ok (.bipush 57, 2) := by decide +kernel
theorem d_N_codeOf_28 : decode b_N_codeOf 28 = .ok (.if_icmp .gt 13, 3) := by decide +kernel
theorem d_N_codeOf_31 : decode b_N_codeOf 31 = .ok (.iload_n 0, 1) := by decide +kernel
theorem d_N_codeOf_32 : decode b_N_codeOf 32 = .ok (.bipush 48, 2) := by decide +kernel
theorem d_N_codeOf_34 : decode b_N_codeOf 34 = .ok (.isub, 1) := by decide +kernel
theorem d_N_codeOf_35 : decode b_N_codeOf 35 = .ok (.bipush 27, 2) := by decide +kernel
theorem d_N_codeOf_37 : decode b_N_codeOf 37 = .ok (.iadd, 1) := by decide +kernel
theorem d_N_codeOf_38 : decode b_N_codeOf 38 = .ok (.goto 4, 3) := by decide +kernel
theorem d_N_codeOf_41 : decode b_N_codeOf 41 = .ok (.iconst 0, 1) := by decide +kernel
theorem d_N_codeOf_42 : decode b_N_codeOf 42 = .ok (.ireturn, 1) := by decide +kernel
abbrev b_N_isLetter : ByteArray := prog_4_method_3_code
abbrev y_N_isLetter : MethodName := ⟨"SignMachine$Names", "isLetter", "(I)Z"⟩
theorem h_N_isLetter : (y_N_isLetter).cls ≠ "java/lang/invoke/MethodHandle" ∧ (y_N_isLetter).cls ≠ "java/lang/invoke/VarHandle" ∧ (parseMethodDescriptor (y_N_isLetter).desc).map (fun d => d.parameters.length) = some 1 := by decide +kernel
theorem d_N_isLetter_0 : decode b_N_isLetter 0 = .ok (.iload_n 0, 1) := by decide +kernel
theorem d_N_isLetter_1 : decode b_N_isLetter 1 = .ok (.ifCond .le 13, 3) := by decide +kernel
theorem d_N_isLetter_4 : decode b_N_isLetter 4 = .ok (.iload_n 0, 1) := by decide +kernel
theorem d_N_isLetter_5 : decode b_N_isLetter 5 = .ok (.bipush 27, 2) := by decide +kernel
theorem d_N_isLetter_7 : decode b_N_isLetter 7 = .ok (.if_icmp .ge 7, 3) := by decide +kernel
theorem d_N_isLetter_10 : decode b_N_isLetter 10 = .ok (.iconst 1, 1) := by decide +kernel
theorem d_N_isLetter_11 : decode b_N_isLetter 11 = .ok (.goto 4, 3) := by decide +kernel
theorem d_N_isLetter_14 : decode b_N_isLetter 14 = .ok (.iconst 0, 1) := by decide +kernel
theorem d_N_isLetter_15 : decode b_N_isLetter 15 = .ok (.ireturn, 1) := by decide +kernel
abbrev b_N_digitOf : ByteArray := prog_4_method_4_code
abbrev y_N_digitOf : MethodName := ⟨"SignMachine$Names", "digitOf", "(I)I"⟩
theorem h_N_digitOf : (y_N_digitOf).cls ≠ "java/lang/invoke/MethodHandle" ∧ (y_N_digitOf).cls ≠ "java/lang/invoke/VarHandle" ∧ (parseMethodDescriptor (y_N_digitOf).desc).map (fun d => d.parameters.length) = some 1 := by decide +kernel
theorem d_N_digitOf_0 : decode b_N_digitOf 0 = .ok (.iload_n 0, 1) := by decide +kernel
theorem d_N_digitOf_1 : decode b_N_digitOf 1 = .ok (.bipush 27, 2) := by decide +kernel
theorem d_N_digitOf_3 : decode b_N_digitOf 3 = .ok (.isub, 1) := by decide +kernel
theorem d_N_digitOf_4 : decode b_N_digitOf 4 = .ok (.ireturn, 1) := by decide +kernel
abbrev b_N_localDigit : ByteArray := prog_4_method_5_code
abbrev y_N_localDigit : MethodName := ⟨"SignMachine$Names", "localDigit", "(JI)I"⟩
theorem h_N_localDigit : (y_N_localDigit).cls ≠ "java/lang/invoke/MethodHandle" ∧ (y_N_localDigit).cls ≠ "java/lang/invoke/VarHandle" ∧ (parseMethodDescriptor (y_N_localDigit).desc).map (fun d => d.parameters.length) = some 2 := by decide +kernel
theorem d_N_localDigit_0 : decode b_N_localDigit 0 = .ok (.lload_n 0, 1) := by decide +kernel
theorem d_N_localDigit_1 : decode b_N_localDigit 1 = .ok (.bipush 6, 2) := by decide +kernel
theorem d_N_localDigit_3 : decode b_N_localDigit 3 = .ok (.lshr, 1) := by decide +kernel
theorem d_N_localDigit_4 : decode b_N_localDigit 4 = .ok (.ldc2_w 29, 3) := by decide +kernel
theorem d_N_localDigit_7 : decode b_N_localDigit 7 = .ok (.lsub, 1) := by decide +kernel
theorem d_N_localDigit_8 : decode b_N_localDigit 8 = .ok (.lstore_n 3, 1) := by decide +kernel
theorem d_N_localDigit_9 : decode b_N_localDigit 9 = .ok (.lload_n 0, 1) := by decide +kernel
theorem d_N_localDigit_10 : decode b_N_localDigit 10 = .ok (.ldc2_w 31, 3) := by decide +kernel
theorem d_N_localDigit_13 : decode b_N_localDigit 13 = .ok (.land, 1) := by decide +kernel
theorem d_N_localDigit_14 : decode b_N_localDigit 14 = .ok (.iload_n 2, 1) := by decide +kernel
theorem d_N_localDigit_15 : decode b_N_localDigit 15 = .ok (.i2l, 1) := by decide +kernel
theorem d_N_localDigit_16 : decode b_N_localDigit 16 = .ok (.lcmp, 1) := by decide +kernel
theorem d_N_localDigit_17 : decode b_N_localDigit 17 = .ok (.ifCond .ne 21, 3) := by decide +kernel
theorem d_N_localDigit_20 : decode b_N_localDigit 20 = .ok (.lload_n 3, 1) := by decide +kernel
theorem d_N_localDigit_21 : decode b_N_localDigit 21 = .ok (.lconst 0, 1) := by decide +kernel
theorem d_N_localDigit_22 : decode b_N_localDigit 22 = .ok (.lcmp, 1) := by decide +kernel
theorem d_N_localDigit_23 : decode b_N_localDigit 23 = .ok (.ifCond .lt 15, 3) := by decide +kernel
theorem d_N_localDigit_26 : decode b_N_localDigit 26 = .ok (.lload_n 3, 1) := by decide +kernel
theorem d_N_localDigit_27 : decode b_N_localDigit 27 = .ok (.ldc2_w 33, 3) := by decide +kernel
theorem d_N_localDigit_30 : decode b_N_localDigit 30 = .ok (.lcmp, 1) := by decide +kernel
theorem d_N_localDigit_31 : decode b_N_localDigit 31 = .ok (.ifCond .ge 7, 3) := by decide +kernel
theorem d_N_localDigit_34 : decode b_N_localDigit 34 = .ok (.iconst 1, 1) := by decide +kernel
theorem d_N_localDigit_35 : decode b_N_localDigit 35 = .ok (.goto 4, 3) := by decide +kernel
theorem d_N_localDigit_38 : decode b_N_localDigit 38 = .ok (.iconst 0, 1) := by decide +kernel
theorem d_N_localDigit_39 : decode b_N_localDigit 39 = .ok (.istore 5, 2) := by decide +kernel
theorem d_N_localDigit_41 : decode b_N_localDigit 41 = .ok (.iload 5, 2) := by decide +kernel
theorem d_N_localDigit_43 : decode b_N_localDigit 43 = .ok (.ifCond .eq 8, 3) := by decide +kernel
theorem d_N_localDigit_46 : decode b_N_localDigit 46 = .ok (.lload_n 3, 1) := by decide +kernel
theorem d_N_localDigit_47 : decode b_N_localDigit 47 = .ok (.l2i, 1) := by decide +kernel
theorem d_N_localDigit_48 : decode b_N_localDigit 48 = .ok (.goto 5, 3) := by decide +kernel
theorem d_N_localDigit_51 : decode b_N_localDigit 51 = .ok (.bipush (-2), 2) := by decide +kernel
theorem d_N_localDigit_53 : decode b_N_localDigit 53 = .ok (.ireturn, 1) := by decide +kernel
abbrev b_O_isWord : ByteArray := prog_6_method_5_code
abbrev y_O_isWord : MethodName := ⟨"SignMachine$Output", "isWord", "(I)Z"⟩
theorem h_O_isWord : (y_O_isWord).cls ≠ "java/lang/invoke/MethodHandle" ∧ (y_O_isWord).cls ≠ "java/lang/invoke/VarHandle" ∧ (parseMethodDescriptor (y_O_isWord).desc).map (fun d => d.parameters.length) = some 1 := by decide +kernel
theorem d_O_isWord_0 : decode b_O_isWord 0 = .ok (.iload_n 0, 1) := by decide +kernel
theorem d_O_isWord_1 : decode b_O_isWord 1 = .ok (.ifCond .lt 14, 3) := by decide +kernel
theorem d_O_isWord_4 : decode b_O_isWord 4 = .ok (.iload_n 0, 1) := by decide +kernel
theorem d_O_isWord_5 : decode b_O_isWord 5 = .ok (.sipush 1101, 3) := by decide +kernel
theorem d_O_isWord_8 : decode b_O_isWord 8 = .ok (.if_icmp .ge 7, 3) := by decide +kernel
theorem d_O_isWord_11 : decode b_O_isWord 11 = .ok (.iconst 1, 1) := by decide +kernel
theorem d_O_isWord_12 : decode b_O_isWord 12 = .ok (.goto 4, 3) := by decide +kernel
theorem d_O_isWord_15 : decode b_O_isWord 15 = .ok (.iconst 0, 1) := by decide +kernel
theorem d_O_isWord_16 : decode b_O_isWord 16 = .ok (.ireturn, 1) := by decide +kernel
abbrev b_A_addressPart : ByteArray := prog_2_method_9_code
abbrev y_A_addressPart : MethodName := ⟨"SignMachine$Assembler", "addressPart", "(I)I"⟩
theorem h_A_addressPart : (y_A_addressPart).cls ≠ "java/lang/invoke/MethodHandle" ∧ (y_A_addressPart).cls ≠ "java/lang/invoke/VarHandle" ∧ (parseMethodDescriptor (y_A_addressPart).desc).map (fun d => d.parameters.length) = some 1 := by decide +kernel
theorem d_A_addressPart_0 : decode b_A_addressPart 0 = .ok (.iload_n 0, 1) := by decide +kernel
theorem d_A_addressPart_1 : decode b_A_addressPart 1 = .ok (.ifCond .ge 7, 3) := by decide +kernel
theorem d_A_addressPart_4 : decode b_A_addressPart 4 = .ok (.iconst 1, 1) := by decide +kernel
theorem d_A_addressPart_5 : decode b_A_addressPart 5 = .ok (.goto 4, 3) := by decide +kernel
theorem d_A_addressPart_8 : decode b_A_addressPart 8 = .ok (.iconst 0, 1) := by decide +kernel
theorem d_A_addressPart_9 : decode b_A_addressPart 9 = .ok (.iload_n 0, 1) := by decide +kernel
theorem d_A_addressPart_10 : decode b_A_addressPart 10 = .ok (.invokestatic 167, 3) := by decide +kernel
theorem d_A_addressPart_13 : decode b_A_addressPart 13 = .ok (.sipush 4095, 3) := by decide +kernel
theorem d_A_addressPart_16 : decode b_A_addressPart 16 = .ok (.iand, 1) := by decide +kernel
theorem d_A_addressPart_17 : decode b_A_addressPart 17 = .ok (.bipush 18, 2) := by decide +kernel
theorem d_A_addressPart_19 : decode b_A_addressPart 19 = .ok (.ishl, 1) := by decide +kernel
theorem d_A_addressPart_20 : decode b_A_addressPart 20 = .ok (.invokestatic 175, 3) := by decide +kernel
theorem d_A_addressPart_23 : decode b_A_addressPart 23 = .ok (.ireturn, 1) := by decide +kernel
abbrev b_A_isOperator : ByteArray := prog_2_method_30_code
abbrev y_A_isOperator : MethodName := ⟨"SignMachine$Assembler", "isOperator", "(I)Z"⟩
theorem h_A_isOperator : (y_A_isOperator).cls ≠ "java/lang/invoke/MethodHandle" ∧ (y_A_isOperator).cls ≠ "java/lang/invoke/VarHandle" ∧ (parseMethodDescriptor (y_A_isOperator).desc).map (fun d => d.parameters.length) = some 1 := by decide +kernel
theorem d_A_isOperator_0 : decode b_A_isOperator 0 = .ok (.iload_n 0, 1) := by decide +kernel
theorem d_A_isOperator_1 : decode b_A_isOperator 1 = .ok (.bipush 43, 2) := by decide +kernel
theorem d_A_isOperator_3 : decode b_A_isOperator 3 = .ok (.if_icmp .eq 27, 3) := by decide +kernel
theorem d_A_isOperator_6 : decode b_A_isOperator 6 = .ok (.iload_n 0, 1) := by decide +kernel
theorem d_A_isOperator_7 : decode b_A_isOperator 7 = .ok (.bipush 45, 2) := by decide +kernel
theorem d_A_isOperator_9 : decode b_A_isOperator 9 = .ok (.if_icmp .eq 21, 3) := by decide +kernel
theorem d_A_isOperator_12 : decode b_A_isOperator 12 = .ok (.iload_n 0, 1) := by decide +kernel
theorem d_A_isOperator_13 : decode b_A_isOperator 13 = .ok (.bipush 42, 2) := by decide +kernel
theorem d_A_isOperator_15 : decode b_A_isOperator 15 = .ok (.if_icmp .eq 15, 3) := by decide +kernel
theorem d_A_isOperator_18 : decode b_A_isOperator 18 = .ok (.iload_n 0, 1) := by decide +kernel
theorem d_A_isOperator_19 : decode b_A_isOperator 19 = .ok (.bipush 47, 2) := by decide +kernel
theorem d_A_isOperator_21 : decode b_A_isOperator 21 = .ok (.if_icmp .eq 9, 3) := by decide +kernel
theorem d_A_isOperator_24 : decode b_A_isOperator 24 = .ok (.iload_n 0, 1) := by decide +kernel
theorem d_A_isOperator_25 : decode b_A_isOperator 25 = .ok (.bipush 58, 2) := by decide +kernel
theorem d_A_isOperator_27 : decode b_A_isOperator 27 = .ok (.if_icmp .ne 7, 3) := by decide +kernel
theorem d_A_isOperator_30 : decode b_A_isOperator 30 = .ok (.iconst 1, 1) := by decide +kernel
theorem d_A_isOperator_31 : decode b_A_isOperator 31 = .ok (.goto 4, 3) := by decide +kernel
theorem d_A_isOperator_34 : decode b_A_isOperator 34 = .ok (.iconst 0, 1) := by decide +kernel
theorem d_A_isOperator_35 : decode b_A_isOperator 35 = .ok (.ireturn, 1) := by decide +kernel
theorem k_117 : ((Jvm.Cond.initialized "SignMachine$Machine")) ∈ tb := mt 117 (by decide +kernel) rfl
theorem k_118 : ((Jvm.Cond.initialized "SignMachine$Tape")) ∈ tb := mt 118 (by decide +kernel) rfl
theorem k_120 : ((Jvm.Cond.initialized "SignMachine$Word")) ∈ tb := mt 120 (by decide +kernel) rfl
theorem k_121 : ((Jvm.Cond.initialized "java/lang/Math")) ∈ tb := mt 121 (by decide +kernel) rfl
theorem k_123 : ((Jvm.Cond.initialized "SignMachine$Assembler")) ∈ tb := mt 123 (by decide +kernel) rfl
theorem k_125 : ((Jvm.Cond.initialized "SignMachine$Names")) ∈ tb := mt 125 (by decide +kernel) rfl
theorem k_126 : ((Jvm.Cond.initialized "SignMachine$Output")) ∈ tb := mt 126 (by decide +kernel) rfl
theorem k_222 : ((Jvm.Cond.static ({ cls := "SignMachine$Machine", name := "isAddress", desc := "(I)Z" } : Jvm.MethodName))) ∈ tb := mt 222 (by decide +kernel) rfl
theorem k_223 : ((Jvm.Cond.code ({ cls := "SignMachine$Machine", name := "isAddress", desc := "(I)Z" } : Jvm.MethodName) prog_3_method_2_code (1 : Nat) (Option.some Jvm.ClassFile.FieldType.boolean))) ∈ tb := mt 223 (by decide +kernel) rfl
theorem k_225 : ((Jvm.Cond.static ({ cls := "SignMachine$Word", name := "isWord", desc := "(II)Z" } : Jvm.MethodName))) ∈ tb := mt 225 (by decide +kernel) rfl
theorem k_226 : ((Jvm.Cond.code ({ cls := "SignMachine$Word", name := "isWord", desc := "(II)Z" } : Jvm.MethodName) prog_9_method_2_code (2 : Nat) (Option.some Jvm.ClassFile.FieldType.boolean))) ∈ tb := mt 226 (by decide +kernel) rfl
theorem k_227 : ((Jvm.Cond.constant "SignMachine$Word" (9 : Nat) (1073741823 : Int32))) ∈ tb := mt 227 (by decide +kernel) rfl
theorem k_229 : ((Jvm.Cond.static ({ cls := "SignMachine$Word", name := "make", desc := "(II)I" } : Jvm.MethodName))) ∈ tb := mt 229 (by decide +kernel) rfl
theorem k_230 : ((Jvm.Cond.code ({ cls := "SignMachine$Word", name := "make", desc := "(II)I" } : Jvm.MethodName) prog_9_method_3_code (2 : Nat) (Option.some Jvm.ClassFile.FieldType.int))) ∈ tb := mt 230 (by decide +kernel) rfl
theorem k_231 : ((Jvm.Cond.constant "SignMachine$Word" (10 : Nat) (1073741824 : Int32))) ∈ tb := mt 231 (by decide +kernel) rfl
theorem k_245 : ((Jvm.Cond.static ({ cls := "SignMachine$Word", name := "sign", desc := "(I)I" } : Jvm.MethodName))) ∈ tb := mt 245 (by decide +kernel) rfl
theorem k_246 : ((Jvm.Cond.code ({ cls := "SignMachine$Word", name := "sign", desc := "(I)I" } : Jvm.MethodName) prog_9_method_4_code (1 : Nat) (Option.some Jvm.ClassFile.FieldType.int))) ∈ tb := mt 246 (by decide +kernel) rfl
theorem k_252 : ((Jvm.Cond.static ({ cls := "SignMachine$Word", name := "size", desc := "(I)I" } : Jvm.MethodName))) ∈ tb := mt 252 (by decide +kernel) rfl
theorem k_253 : ((Jvm.Cond.code ({ cls := "SignMachine$Word", name := "size", desc := "(I)I" } : Jvm.MethodName) prog_9_method_5_code (1 : Nat) (Option.some Jvm.ClassFile.FieldType.int))) ∈ tb := mt 253 (by decide +kernel) rfl
theorem k_270 : ((Jvm.Cond.methodLink "SignMachine$Machine" (28 : Nat) ({ cls := "SignMachine$Machine", name := "isIndex", desc := "(I)Z" } : Jvm.MethodName))) ∈ tb := mt 270 (by decide +kernel) rfl
theorem k_271 : ((Jvm.Cond.static ({ cls := "SignMachine$Machine", name := "isIndex", desc := "(I)Z" } : Jvm.MethodName))) ∈ tb := mt 271 (by decide +kernel) rfl
theorem k_272 : ((Jvm.Cond.code ({ cls := "SignMachine$Machine", name := "isIndex", desc := "(I)Z" } : Jvm.MethodName) prog_3_method_4_code (1 : Nat) (Option.some Jvm.ClassFile.FieldType.boolean))) ∈ tb := mt 272 (by decide +kernel) rfl
theorem k_278 : ((Jvm.Cond.static ({ cls := "SignMachine$Word", name := "number", desc := "(I)I" } : Jvm.MethodName))) ∈ tb := mt 278 (by decide +kernel) rfl
theorem k_279 : ((Jvm.Cond.code ({ cls := "SignMachine$Word", name := "number", desc := "(I)I" } : Jvm.MethodName) prog_9_method_6_code (1 : Nat) (Option.some Jvm.ClassFile.FieldType.int))) ∈ tb := mt 279 (by decide +kernel) rfl
theorem k_293 : ((Jvm.Cond.static ({ cls := "SignMachine$Word", name := "isField", desc := "(I)Z" } : Jvm.MethodName))) ∈ tb := mt 293 (by decide +kernel) rfl
theorem k_294 : ((Jvm.Cond.code ({ cls := "SignMachine$Word", name := "isField", desc := "(I)Z" } : Jvm.MethodName) prog_9_method_9_code (3 : Nat) (Option.some Jvm.ClassFile.FieldType.boolean))) ∈ tb := mt 294 (by decide +kernel) rfl
theorem k_304 : ((Jvm.Cond.static ({ cls := "SignMachine$Machine", name := "hasWords", desc := "(II)Z" } : Jvm.MethodName))) ∈ tb := mt 304 (by decide +kernel) rfl
theorem k_305 : ((Jvm.Cond.code ({ cls := "SignMachine$Machine", name := "hasWords", desc := "(II)Z" } : Jvm.MethodName) prog_3_method_18_code (2 : Nat) (Option.some Jvm.ClassFile.FieldType.boolean))) ∈ tb := mt 305 (by decide +kernel) rfl
theorem k_315 : ((Jvm.Cond.static ({ cls := "SignMachine$Word", name := "field", desc := "(II)I" } : Jvm.MethodName))) ∈ tb := mt 315 (by decide +kernel) rfl
theorem k_316 : ((Jvm.Cond.code ({ cls := "SignMachine$Word", name := "field", desc := "(II)I" } : Jvm.MethodName) prog_9_method_12_code (3 : Nat) (Option.some Jvm.ClassFile.FieldType.int))) ∈ tb := mt 316 (by decide +kernel) rfl
theorem k_317 : ((Jvm.Cond.methodLink "SignMachine$Word" (15 : Nat) ({ cls := "SignMachine$Word", name := "size", desc := "(I)I" } : Jvm.MethodName))) ∈ tb := mt 317 (by decide +kernel) rfl
theorem k_318 : ((Jvm.Cond.methodLink "SignMachine$Word" (19 : Nat) ({ cls := "SignMachine$Word", name := "bitsBehind", desc := "(I)I" } : Jvm.MethodName))) ∈ tb := mt 318 (by decide +kernel) rfl
theorem k_319 : ((Jvm.Cond.static ({ cls := "SignMachine$Word", name := "bitsBehind", desc := "(I)I" } : Jvm.MethodName))) ∈ tb := mt 319 (by decide +kernel) rfl
theorem k_320 : ((Jvm.Cond.code ({ cls := "SignMachine$Word", name := "bitsBehind", desc := "(I)I" } : Jvm.MethodName) prog_9_method_11_code (1 : Nat) (Option.some Jvm.ClassFile.FieldType.int))) ∈ tb := mt 320 (by decide +kernel) rfl
theorem k_321 : ((Jvm.Cond.methodLink "SignMachine$Word" (22 : Nat) ({ cls := "SignMachine$Word", name := "maskOf", desc := "(I)I" } : Jvm.MethodName))) ∈ tb := mt 321 (by decide +kernel) rfl
theorem k_322 : ((Jvm.Cond.static ({ cls := "SignMachine$Word", name := "maskOf", desc := "(I)I" } : Jvm.MethodName))) ∈ tb := mt 322 (by decide +kernel) rfl
theorem k_323 : ((Jvm.Cond.code ({ cls := "SignMachine$Word", name := "maskOf", desc := "(I)I" } : Jvm.MethodName) prog_9_method_10_code (4 : Nat) (Option.some Jvm.ClassFile.FieldType.int))) ∈ tb := mt 323 (by decide +kernel) rfl
theorem k_324 : ((Jvm.Cond.methodLink "SignMachine$Word" (25 : Nat) ({ cls := "SignMachine$Word", name := "sign", desc := "(I)I" } : Jvm.MethodName))) ∈ tb := mt 324 (by decide +kernel) rfl
theorem k_325 : ((Jvm.Cond.methodLink "SignMachine$Word" (11 : Nat) ({ cls := "SignMachine$Word", name := "make", desc := "(II)I" } : Jvm.MethodName))) ∈ tb := mt 325 (by decide +kernel) rfl
theorem k_331 : ((Jvm.Cond.static ({ cls := "java/lang/Math", name := "abs", desc := "(I)I" } : Jvm.MethodName))) ∈ tb := mt 331 (by decide +kernel) rfl
theorem k_360 : ((Jvm.Cond.static ({ cls := "SignMachine$Word", name := "of", desc := "(II)I" } : Jvm.MethodName))) ∈ tb := mt 360 (by decide +kernel) rfl
theorem k_361 : ((Jvm.Cond.code ({ cls := "SignMachine$Word", name := "of", desc := "(II)I" } : Jvm.MethodName) prog_9_method_8_code (2 : Nat) (Option.some Jvm.ClassFile.FieldType.int))) ∈ tb := mt 361 (by decide +kernel) rfl
theorem k_412 : ((Jvm.Cond.static ({ cls := "SignMachine$Word", name := "opposite", desc := "(I)I" } : Jvm.MethodName))) ∈ tb := mt 412 (by decide +kernel) rfl
theorem k_413 : ((Jvm.Cond.code ({ cls := "SignMachine$Word", name := "opposite", desc := "(I)I" } : Jvm.MethodName) prog_9_method_7_code (1 : Nat) (Option.some Jvm.ClassFile.FieldType.int))) ∈ tb := mt 413 (by decide +kernel) rfl
theorem k_419 : ((Jvm.Cond.static ({ cls := "SignMachine$Word", name := "store", desc := "(III)I" } : Jvm.MethodName))) ∈ tb := mt 419 (by decide +kernel) rfl
theorem k_420 : ((Jvm.Cond.code ({ cls := "SignMachine$Word", name := "store", desc := "(III)I" } : Jvm.MethodName) prog_9_method_13_code (6 : Nat) (Option.some Jvm.ClassFile.FieldType.int))) ∈ tb := mt 420 (by decide +kernel) rfl
theorem k_438 : ((Jvm.Cond.static ({ cls := "SignMachine$Tape", name := "isWord", desc := "(II)Z" } : Jvm.MethodName))) ∈ tb := mt 438 (by decide +kernel) rfl
theorem k_439 : ((Jvm.Cond.code ({ cls := "SignMachine$Tape", name := "isWord", desc := "(II)Z" } : Jvm.MethodName) prog_8_method_2_code (2 : Nat) (Option.some Jvm.ClassFile.FieldType.boolean))) ∈ tb := mt 439 (by decide +kernel) rfl
theorem k_480 : ((Jvm.Cond.static ({ cls := "SignMachine$Machine", name := "isRegister", desc := "(I)Z" } : Jvm.MethodName))) ∈ tb := mt 480 (by decide +kernel) rfl
theorem k_481 : ((Jvm.Cond.code ({ cls := "SignMachine$Machine", name := "isRegister", desc := "(I)Z" } : Jvm.MethodName) prog_3_method_3_code (1 : Nat) (Option.some Jvm.ClassFile.FieldType.boolean))) ∈ tb := mt 481 (by decide +kernel) rfl
theorem k_492 : ((Jvm.Cond.static ({ cls := "SignMachine$Machine", name := "isShort", desc := "(I)Z" } : Jvm.MethodName))) ∈ tb := mt 492 (by decide +kernel) rfl
theorem k_493 : ((Jvm.Cond.code ({ cls := "SignMachine$Machine", name := "isShort", desc := "(I)Z" } : Jvm.MethodName) prog_3_method_5_code (1 : Nat) (Option.some Jvm.ClassFile.FieldType.boolean))) ∈ tb := mt 493 (by decide +kernel) rfl
theorem k_757 : ((Jvm.Cond.static ({ cls := "SignMachine$Names", name := "codeOf", desc := "(I)I" } : Jvm.MethodName))) ∈ tb := mt 757 (by decide +kernel) rfl
theorem k_758 : ((Jvm.Cond.code ({ cls := "SignMachine$Names", name := "codeOf", desc := "(I)I" } : Jvm.MethodName) prog_4_method_2_code (1 : Nat) (Option.some Jvm.ClassFile.FieldType.int))) ∈ tb := mt 758 (by decide +kernel) rfl
theorem k_760 : ((Jvm.Cond.static ({ cls := "SignMachine$Names", name := "isLetter", desc := "(I)Z" } : Jvm.MethodName))) ∈ tb := mt 760 (by decide +kernel) rfl
theorem k_761 : ((Jvm.Cond.code ({ cls := "SignMachine$Names", name := "isLetter", desc := "(I)Z" } : Jvm.MethodName) prog_4_method_3_code (1 : Nat) (Option.some Jvm.ClassFile.FieldType.boolean))) ∈ tb := mt 761 (by decide +kernel) rfl
theorem k_764 : ((Jvm.Cond.static ({ cls := "SignMachine$Names", name := "digitOf", desc := "(I)I" } : Jvm.MethodName))) ∈ tb := mt 764 (by decide +kernel) rfl
theorem k_765 : ((Jvm.Cond.code ({ cls := "SignMachine$Names", name := "digitOf", desc := "(I)I" } : Jvm.MethodName) prog_4_method_4_code (1 : Nat) (Option.some Jvm.ClassFile.FieldType.int))) ∈ tb := mt 765 (by decide +kernel) rfl
theorem k_772 : ((Jvm.Cond.static ({ cls := "SignMachine$Names", name := "localDigit", desc := "(JI)I" } : Jvm.MethodName))) ∈ tb := mt 772 (by decide +kernel) rfl
theorem k_773 : ((Jvm.Cond.code ({ cls := "SignMachine$Names", name := "localDigit", desc := "(JI)I" } : Jvm.MethodName) prog_4_method_5_code (6 : Nat) (Option.some Jvm.ClassFile.FieldType.int))) ∈ tb := mt 773 (by decide +kernel) rfl
theorem k_774 : ((Jvm.Cond.constantLong "SignMachine$Names" (29 : Nat) (27 : Int64))) ∈ tb := mt 774 (by decide +kernel) rfl
theorem k_775 : ((Jvm.Cond.constantLong "SignMachine$Names" (31 : Nat) (63 : Int64))) ∈ tb := mt 775 (by decide +kernel) rfl
theorem k_776 : ((Jvm.Cond.constantLong "SignMachine$Names" (33 : Nat) (10 : Int64))) ∈ tb := mt 776 (by decide +kernel) rfl
theorem k_918 : ((Jvm.Cond.static ({ cls := "SignMachine$Output", name := "isWord", desc := "(I)Z" } : Jvm.MethodName))) ∈ tb := mt 918 (by decide +kernel) rfl
theorem k_919 : ((Jvm.Cond.code ({ cls := "SignMachine$Output", name := "isWord", desc := "(I)Z" } : Jvm.MethodName) prog_6_method_5_code (1 : Nat) (Option.some Jvm.ClassFile.FieldType.boolean))) ∈ tb := mt 919 (by decide +kernel) rfl
theorem k_1019 : ((Jvm.Cond.static ({ cls := "SignMachine$Assembler", name := "isOperator", desc := "(I)Z" } : Jvm.MethodName))) ∈ tb := mt 1019 (by decide +kernel) rfl
theorem k_1020 : ((Jvm.Cond.code ({ cls := "SignMachine$Assembler", name := "isOperator", desc := "(I)Z" } : Jvm.MethodName) prog_2_method_30_code (1 : Nat) (Option.some Jvm.ClassFile.FieldType.boolean))) ∈ tb := mt 1020 (by decide +kernel) rfl
theorem k_1048 : ((Jvm.Cond.methodLink "SignMachine$Assembler" (167 : Nat) ({ cls := "java/lang/Math", name := "abs", desc := "(I)I" } : Jvm.MethodName))) ∈ tb := mt 1048 (by decide +kernel) rfl
theorem k_1050 : ((Jvm.Cond.static ({ cls := "SignMachine$Assembler", name := "addressPart", desc := "(I)I" } : Jvm.MethodName))) ∈ tb := mt 1050 (by decide +kernel) rfl
theorem k_1051 : ((Jvm.Cond.code ({ cls := "SignMachine$Assembler", name := "addressPart", desc := "(I)I" } : Jvm.MethodName) prog_2_method_9_code (1 : Nat) (Option.some Jvm.ClassFile.FieldType.int))) ∈ tb := mt 1051 (by decide +kernel) rfl
theorem k_1052 : ((Jvm.Cond.methodLink "SignMachine$Assembler" (175 : Nat) ({ cls := "SignMachine$Word", name := "make", desc := "(II)I" } : Jvm.MethodName))) ∈ tb := mt 1052 (by decide +kernel) rfl
theorem k_absc : (Cond.code Lib.Math.abs.name Lib.Math.abs.code 1 (some .int)) ∈ tb := mt 332 (by decide +kernel) rfl
