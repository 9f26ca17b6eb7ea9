abbrev b_O_isWord : ByteArray := prog_6_method_5_code
abbrev y_O_isWord : MethodName := ⟨"SignMachine$Output", "isWord", "(I)Z"⟩
theorem h_O_isWord : (y_O_isWord).cls ≠ "java/lang/invoke/MethodHandle" ∧ (y_O_isWord).cls ≠ "java/lang/invoke/VarHandle" ∧ (parseMethodDescriptor (y_O_isWord).desc).map (fun d => d.parameters.length) = some 1 := by decide +kernel
theorem d_O_isWord_0 : decode b_O_isWord 0 = .ok (.iload_n 0, 1) := by decide +kernel
theorem d_O_isWord_1 : decode b_O_isWord 1 = .ok (.ifCond .lt 14, 3) := by decide +kernel
theorem d_O_isWord_4 : decode b_O_isWord 4 = .ok (.iload_n 0, 1) := by decide +kernel
theorem d_O_isWord_5 : decode b_O_isWord 5 = .ok (.sipush 1101, 3) := by decide +kernel
theorem d_O_isWord_8 : decode b_O_isWord 8 = .ok (.if_icmp .ge 7, 3) := by decide +kernel
theorem d_O_isWord_11 : decode b_O_isWord 11 = .ok (.iconst 1, 1) := by decide +kernel
theorem d_O_isWord_12 : decode b_O_isWord 12 = .ok (.goto 4, 3) := by decide +kernel
theorem d_O_isWord_15 : decode b_O_isWord 15 = .ok (.iconst 0, 1) := by decide +kernel
theorem d_O_isWord_16 : decode b_O_isWord 16 = .ok (.ireturn, 1) := by decide +kernel
abbrev b_T_isWord : ByteArray := prog_8_method_2_code
abbrev y_T_isWord : MethodName := ⟨"SignMachine$Tape", "isWord", "(II)Z"⟩
theorem h_T_isWord : (y_T_isWord).cls ≠ "java/lang/invoke/MethodHandle" ∧ (y_T_isWord).cls ≠ "java/lang/invoke/VarHandle" ∧ (parseMethodDescriptor (y_T_isWord).desc).map (fun d => d.parameters.length) = some 2 := by decide +kernel
theorem d_T_isWord_0 : decode b_T_isWord 0 = .ok (.iload_n 0, 1) := by decide +kernel
theorem d_T_isWord_1 : decode b_T_isWord 1 = .ok (.ifCond .lt 23, 3) := by decide +kernel
theorem d_T_isWord_4 : decode b_T_isWord 4 = .ok (.iload_n 0, 1) := by decide +kernel
theorem d_T_isWord_5 : decode b_T_isWord 5 = .ok (.bipush 40, 2) := by decide +kernel
theorem d_T_isWord_7 : decode b_T_isWord 7 = .ok (.if_icmp .ge 17, 3) := by decide +kernel
theorem d_T_isWord_10 : decode b_T_isWord 10 = .ok (.iload_n 1, 1) := by decide +kernel
theorem d_T_isWord_11 : decode b_T_isWord 11 = .ok (.ifCond .lt 13, 3) := by decide +kernel
theorem d_T_isWord_14 : decode b_T_isWord 14 = .ok (.iload_n 1, 1) := by decide +kernel
theorem d_T_isWord_15 : decode b_T_isWord 15 = .ok (.bipush 100, 2) := by decide +kernel
theorem d_T_isWord_17 : decode b_T_isWord 17 = .ok (.if_icmp .ge 7, 3) := by decide +kernel
theorem d_T_isWord_20 : decode b_T_isWord 20 = .ok (.iconst 1, 1) := by decide +kernel
theorem d_T_isWord_21 : decode b_T_isWord 21 = .ok (.goto 4, 3) := by decide +kernel
theorem d_T_isWord_24 : decode b_T_isWord 24 = .ok (.iconst 0, 1) := by decide +kernel
theorem d_T_isWord_25 : decode b_T_isWord 25 = .ok (.ireturn, 1) := by decide +kernel
abbrev b_M_isAddress : ByteArray := prog_3_method_2_code
abbrev y_M_isAddress : MethodName := ⟨"SignMachine$Machine", "isAddress", "(I)Z"⟩
theorem h_M_isAddress : (y_M_isAddress).cls ≠ "java/lang/invoke/MethodHandle" ∧ (y_M_isAddress).cls ≠ "java/lang/invoke/VarHandle" ∧ (parseMethodDescriptor (y_M_isAddress).desc).map (fun d => d.parameters.length) = some 1 := by decide +kernel
theorem d_M_isAddress_0 : decode b_M_isAddress 0 = .ok (.iload_n 0, 1) := by decide +kernel
theorem d_M_isAddress_1 : decode b_M_isAddress 1 = .ok (.ifCond .lt 14, 3) := by decide +kernel
theorem d_M_isAddress_4 : decode b_M_isAddress 4 = .ok (.iload_n 0, 1) := by decide +kernel
theorem d_M_isAddress_5 : decode b_M_isAddress 5 = .ok (.sipush 4000, 3) := by decide +kernel
theorem d_M_isAddress_8 : decode b_M_isAddress 8 = .ok (.if_icmp .ge 7, 3) := by decide +kernel
theorem d_M_isAddress_11 : decode b_M_isAddress 11 = .ok (.iconst 1, 1) := by decide +kernel
theorem d_M_isAddress_12 : decode b_M_isAddress 12 = .ok (.goto 4, 3) := by decide +kernel
theorem d_M_isAddress_15 : decode b_M_isAddress 15 = .ok (.iconst 0, 1) := by decide +kernel
theorem d_M_isAddress_16 : decode b_M_isAddress 16 = .ok (.ireturn, 1) := by decide +kernel
abbrev b_I_compare : ByteArray := prog_14_method_40_code
abbrev y_I_compare : MethodName := ⟨"java/lang/Integer", "compare", "(II)I"⟩
theorem h_I_compare : (y_I_compare).cls ≠ "java/lang/invoke/MethodHandle" ∧ (y_I_compare).cls ≠ "java/lang/invoke/VarHandle" ∧ (parseMethodDescriptor (y_I_compare).desc).map (fun d => d.parameters.length) = some 2 := by decide +kernel
theorem d_I_compare_0 : decode b_I_compare 0 = .ok (.iload_n 0, 1) := by decide +kernel
theorem d_I_compare_1 : decode b_I_compare 1 = .ok (.iload_n 1, 1) := by decide +kernel
theorem d_I_compare_2 : decode b_I_compare 2 = .ok (.if_icmp .ge 7, 3) := by decide +kernel
theorem d_I_compare_5 : decode b_I_compare 5 = .ok (.iconst (-1), 1) := by decide +kernel
theorem d_I_compare_6 : decode b_I_compare 6 = .ok (.goto 13, 3) := by decide +kernel
theorem d_I_compare_9 : decode b_I_compare 9 = .ok (.iload_n 0, 1) := by decide +kernel
theorem d_I_compare_10 : decode b_I_compare 10 = .ok (.iload_n 1, 1) := by decide +kernel
theorem d_I_compare_11 : decode b_I_compare 11 = .ok (.if_icmp .ne 7, 3) := by decide +kernel
theorem d_I_compare_14 : decode b_I_compare 14 = .ok (.iconst 0, 1) := by decide +kernel
theorem d_I_compare_15 : decode b_I_compare 15 = .ok (.goto 4, 3) := by decide +kernel
theorem d_I_compare_18 : decode b_I_compare 18 = .ok (.iconst 1, 1) := by decide +kernel
theorem d_I_compare_19 : decode b_I_compare 19 = .ok (.ireturn, 1) := by decide +kernel
abbrev b_S_poke : ByteArray := prog_1_method_2_code
abbrev y_S_poke : MethodName := ⟨"SignMachine", "poke", "(III)Z"⟩
theorem h_S_poke : (y_S_poke).cls ≠ "java/lang/invoke/MethodHandle" ∧ (y_S_poke).cls ≠ "java/lang/invoke/VarHandle" ∧ (parseMethodDescriptor (y_S_poke).desc).map (fun d => d.parameters.length) = some 3 := by decide +kernel
theorem d_S_poke_0 : decode b_S_poke 0 = .ok (.iload_n 1, 1) := by decide +kernel
theorem d_S_poke_1 : decode b_S_poke 1 = .ok (.invokestatic 16, 3) := by decide +kernel
theorem d_S_poke_4 : decode b_S_poke 4 = .ok (.ifCond .eq 11, 3) := by decide +kernel
theorem d_S_poke_7 : decode b_S_poke 7 = .ok (.iload_n 2, 1) := by decide +kernel
theorem d_S_poke_8 : decode b_S_poke 8 = .ok (.iload_n 3, 1) := by decide +kernel
theorem d_S_poke_9 : decode b_S_poke 9 = .ok (.invokestatic 20, 3) := by decide +kernel
theorem d_S_poke_12 : decode b_S_poke 12 = .ok (.ifCond .ne 5, 3) := by decide +kernel
theorem d_S_poke_15 : decode b_S_poke 15 = .ok (.iconst 0, 1) := by decide +kernel
theorem d_S_poke_16 : decode b_S_poke 16 = .ok (.ireturn, 1) := by decide +kernel
theorem d_S_poke_17 : decode b_S_poke 17 = .ok (.aload_n 0, 1) := by decide +kernel
theorem d_S_poke_18 : decode b_S_poke 18 = .ok (.getfield 10, 3) := by decide +kernel
theorem d_S_poke_21 : decode b_S_poke 21 = .ok (.iload_n 1, 1) := by decide +kernel
theorem d_S_poke_22 : decode b_S_poke 22 = .ok (.iload_n 2, 1) := by decide +kernel
theorem d_S_poke_23 : decode b_S_poke 23 = .ok (.iload_n 3, 1) := by decide +kernel
theorem d_S_poke_24 : decode b_S_poke 24 = .ok (.invokestatic 26, 3) := by decide +kernel
theorem d_S_poke_27 : decode b_S_poke 27 = .ok (.invokevirtual 30, 3) := by decide +kernel
theorem d_S_poke_30 : decode b_S_poke 30 = .ok (.iconst 1, 1) := by decide +kernel
theorem d_S_poke_31 : decode b_S_poke 31 = .ok (.ireturn, 1) := by decide +kernel
abbrev b_W_isWord : ByteArray := prog_9_method_2_code
abbrev y_W_isWord : MethodName := ⟨"SignMachine$Word", "isWord", "(II)Z"⟩
theorem h_W_isWord : (y_W_isWord).cls ≠ "java/lang/invoke/MethodHandle" ∧ (y_W_isWord).cls ≠ "java/lang/invoke/VarHandle" ∧ (parseMethodDescriptor (y_W_isWord).desc).map (fun d => d.parameters.length) = some 2 := by decide +kernel
theorem d_W_isWord_0 : decode b_W_isWord 0 = .ok (.iload_n 0, 1) := by decide +kernel
theorem d_W_isWord_1 : decode b_W_isWord 1 = .ok (.ifCond .eq 8, 3) := by decide +kernel
theorem d_W_isWord_4 : decode b_W_isWord 4 = .ok (.iload_n 0, 1) := by decide +kernel
theorem d_W_isWord_5 : decode b_W_isWord 5 = .ok (.iconst 1, 1) := by decide +kernel
theorem d_W_isWord_6 : decode b_W_isWord 6 = .ok (.if_icmp .ne 17, 3) := by decide +kernel
theorem d_W_isWord_9 : decode b_W_isWord 9 = .ok (.iload_n 1, 1) := by decide +kernel
theorem d_W_isWord_10 : decode b_W_isWord 10 = .ok (.ifCond .lt 13, 3) := by decide +kernel
theorem d_W_isWord_13 : decode b_W_isWord 13 = .ok (.iload_n 1, 1) := by decide +kernel
theorem d_W_isWord_14 : decode b_W_isWord 14 = .ok (.ldc 9, 2) := by decide +kernel
theorem d_W_isWord_16 : decode b_W_isWord 16 = .ok (.if_icmp .gt 7, 3) := by decide +kernel
theorem d_W_isWord_19 : decode b_W_isWord 19 = .ok (.iconst 1, 1) := by decide +kernel
theorem d_W_isWord_20 : decode b_W_isWord 20 = .ok (.goto 4, 3) := by decide +kernel
theorem d_W_isWord_23 : decode b_W_isWord 23 = .ok (.iconst 0, 1) := by decide +kernel
theorem d_W_isWord_24 : decode b_W_isWord 24 = .ok (.ireturn, 1) := by decide +kernel
abbrev b_W_make : ByteArray := prog_9_method_3_code
abbrev y_W_make : MethodName := ⟨"SignMachine$Word", "make", "(II)I"⟩
theorem h_W_make : (y_W_make).cls ≠ "java/lang/invoke/MethodHandle" ∧ (y_W_make).cls ≠ "java/lang/invoke/VarHandle" ∧ (parseMethodDescriptor (y_W_make).desc).map (fun d => d.parameters.length) = some 2 := by decide +kernel
theorem d_W_make_0 : decode b_W_make 0 = .ok (.iload_n 0, 1) := by decide +kernel
theorem d_W_make_1 : decode b_W_make 1 = .ok (.ifCond .ne 7, 3) := by decide +kernel
theorem d_W_make_4 : decode b_W_make 4 = .ok (.iload_n 1, 1) := by decide +kernel
theorem d_W_make_5 : decode b_W_make 5 = .ok (.goto 7, 3) := by decide +kernel
theorem d_W_make_8 : decode b_W_make 8 = .ok (.iload_n 1, 1) := by decide +kernel
theorem d_W_make_9 : decode b_W_make 9 = .ok (.ldc 10, 2) := by decide +kernel
theorem d_W_make_11 : decode b_W_make 11 = .ok (.ior, 1) := by decide +kernel
theorem d_W_make_12 : decode b_W_make 12 = .ok (.ireturn, 1) := by decide +kernel
abbrev b_M_putWord : ByteArray := prog_3_method_7_code
abbrev y_M_putWord : MethodName := ⟨"SignMachine$Machine", "putWord", "(II)V"⟩
theorem h_M_putWord : (y_M_putWord).cls ≠ "java/lang/invoke/MethodHandle" ∧ (y_M_putWord).cls ≠ "java/lang/invoke/VarHandle" ∧ (parseMethodDescriptor (y_M_putWord).desc).map (fun d => d.parameters.length) = some 2 := by decide +kernel
theorem d_M_putWord_0 : decode b_M_putWord 0 = .ok (.iload_n 1, 1) := by decide +kernel
theorem d_M_putWord_1 : decode b_M_putWord 1 = .ok (.ifCond .lt 17, 3) := by decide +kernel
theorem d_M_putWord_4 : decode b_M_putWord 4 = .ok (.iload_n 1, 1) := by decide +kernel
theorem d_M_putWord_5 : decode b_M_putWord 5 = .ok (.sipush 4000, 3) := by decide +kernel
theorem d_M_putWord_8 : decode b_M_putWord 8 = .ok (.if_icmp .ge 10, 3) := by decide +kernel
theorem d_M_putWord_11 : decode b_M_putWord 11 = .ok (.aload_n 0, 1) := by decide +kernel
theorem d_M_putWord_12 : decode b_M_putWord 12 = .ok (.getfield 9, 3) := by decide +kernel
theorem d_M_putWord_15 : decode b_M_putWord 15 = .ok (.iload_n 1, 1) := by decide +kernel
theorem d_M_putWord_16 : decode b_M_putWord 16 = .ok (.iload_n 2, 1) := by decide +kernel
theorem d_M_putWord_17 : decode b_M_putWord 17 = .ok (.iastore, 1) := by decide +kernel
theorem d_M_putWord_18 : decode b_M_putWord 18 = .ok (.return_, 1) := by decide +kernel
abbrev b_S_peekSign : ByteArray := prog_1_method_3_code
abbrev y_S_peekSign : MethodName := ⟨"SignMachine", "peekSign", "(I)I"⟩
theorem h_S_peekSign : (y_S_peekSign).cls ≠ "java/lang/invoke/MethodHandle" ∧ (y_S_peekSign).cls ≠ "java/lang/invoke/VarHandle" ∧ (parseMethodDescriptor (y_S_peekSign).desc).map (fun d => d.parameters.length) = some 1 := by decide +kernel
theorem d_S_peekSign_0 : decode b_S_peekSign 0 = .ok (.iload_n 1, 1) := by decide +kernel
theorem d_S_peekSign_1 : decode b_S_peekSign 1 = .ok (.invokestatic 16, 3) := by decide +kernel
theorem d_S_peekSign_4 : decode b_S_peekSign 4 = .ok (.ifCond .eq 17, 3) := by decide +kernel
theorem d_S_peekSign_7 : decode b_S_peekSign 7 = .ok (.aload_n 0, 1) := by decide +kernel
theorem d_S_peekSign_8 : decode b_S_peekSign 8 = .ok (.getfield 10, 3) := by decide +kernel
theorem d_S_peekSign_11 : decode b_S_peekSign 11 = .ok (.iload_n 1, 1) := by decide +kernel
theorem d_S_peekSign_12 : decode b_S_peekSign 12 = .ok (.invokevirtual 34, 3) := by decide +kernel
theorem d_S_peekSign_15 : decode b_S_peekSign 15 = .ok (.invokestatic 38, 3) := by decide +kernel
theorem d_S_peekSign_18 : decode b_S_peekSign 18 = .ok (.goto 4, 3) := by decide +kernel
theorem d_S_peekSign_21 : decode b_S_peekSign 21 = .ok (.iconst (-1), 1) := by decide +kernel
theorem d_S_peekSign_22 : decode b_S_peekSign 22 = .ok (.ireturn, 1) := by decide +kernel
abbrev b_M_wordAt : ByteArray := prog_3_method_6_code
abbrev y_M_wordAt : MethodName := ⟨"SignMachine$Machine", "wordAt", "(I)I"⟩
theorem h_M_wordAt : (y_M_wordAt).cls ≠ "java/lang/invoke/MethodHandle" ∧ (y_M_wordAt).cls ≠ "java/lang/invoke/VarHandle" ∧ (parseMethodDescriptor (y_M_wordAt).desc).map (fun d => d.parameters.length) = some 1 := by decide +kernel
theorem d_M_wordAt_0 : decode b_M_wordAt 0 = .ok (.iload_n 1, 1) := by decide +kernel
theorem d_M_wordAt_1 : decode b_M_wordAt 1 = .ok (.ifCond .lt 19, 3) := by decide +kernel
theorem d_M_wordAt_4 : decode b_M_wordAt 4 = .ok (.iload_n 1, 1) := by decide +kernel
theorem d_M_wordAt_5 : decode b_M_wordAt 5 = .ok (.sipush 4000, 3) := by decide +kernel
theorem d_M_wordAt_8 : decode b_M_wordAt 8 = .ok (.if_icmp .ge 12, 3) := by decide +kernel
theorem d_M_wordAt_11 : decode b_M_wordAt 11 = .ok (.aload_n 0, 1) := by decide +kernel
theorem d_M_wordAt_12 : decode b_M_wordAt 12 = .ok (.getfield 9, 3) := by decide +kernel
theorem d_M_wordAt_15 : decode b_M_wordAt 15 = .ok (.iload_n 1, 1) := by decide +kernel
theorem d_M_wordAt_16 : decode b_M_wordAt 16 = .ok (.iaload, 1) := by decide +kernel
theorem d_M_wordAt_17 : decode b_M_wordAt 17 = .ok (.goto 4, 3) := by decide +kernel
theorem d_M_wordAt_20 : decode b_M_wordAt 20 = .ok (.iconst 0, 1) := by decide +kernel
theorem d_M_wordAt_21 : decode b_M_wordAt 21 = .ok (.ireturn, 1) := by decide +kernel
abbrev b_W_sign : ByteArray := prog_9_method_4_code
abbrev y_W_sign : MethodName := ⟨"SignMachine$Word", "sign", "(I)I"⟩
theorem h_W_sign : (y_W_sign).cls ≠ "java/lang/invoke/MethodHandle" ∧ (y_W_sign).cls ≠ "java/lang/invoke/VarHandle" ∧ (parseMethodDescriptor (y_W_sign).desc).map (fun d => d.parameters.length) = some 1 := by decide +kernel
theorem d_W_sign_0 : decode b_W_sign 0 = .ok (.iload_n 0, 1) := by decide +kernel
theorem d_W_sign_1 : decode b_W_sign 1 = .ok (.ldc 10, 2) := by decide +kernel
theorem d_W_sign_3 : decode b_W_sign 3 = .ok (.iand, 1) := by decide +kernel
theorem d_W_sign_4 : decode b_W_sign 4 = .ok (.ifCond .ne 7, 3) := by decide +kernel
theorem d_W_sign_7 : decode b_W_sign 7 = .ok (.iconst 0, 1) := by decide +kernel
theorem d_W_sign_8 : decode b_W_sign 8 = .ok (.goto 4, 3) := by decide +kernel
theorem d_W_sign_11 : decode b_W_sign 11 = .ok (.iconst 1, 1) := by decide +kernel
theorem d_W_sign_12 : decode b_W_sign 12 = .ok (.ireturn, 1) := by decide +kernel
abbrev b_S_peekSize : ByteArray := prog_1_method_4_code
abbrev y_S_peekSize : MethodName := ⟨"SignMachine", "peekSize", "(I)I"⟩
theorem h_S_peekSize : (y_S_peekSize).cls ≠ "java/lang/invoke/MethodHandle" ∧ (y_S_peekSize).cls ≠ "java/lang/invoke/VarHandle" ∧ (parseMethodDescriptor (y_S_peekSize).desc).map (fun d => d.parameters.length) = some 1 := by decide +kernel
theorem d_S_peekSize_0 : decode b_S_peekSize 0 = .ok (.iload_n 1, 1) := by decide +kernel
theorem d_S_peekSize_1 : decode b_S_peekSize 1 = .ok (.invokestatic 16, 3) := by decide +kernel
theorem d_S_peekSize_4 : decode b_S_peekSize 4 = .ok (.ifCond .eq 17, 3) := by decide +kernel
theorem d_S_peekSize_7 : decode b_S_peekSize 7 = .ok (.aload_n 0, 1) := by decide +kernel
theorem d_S_peekSize_8 : decode b_S_peekSize 8 = .ok (.getfield 10, 3) := by decide +kernel
theorem d_S_peekSize_11 : decode b_S_peekSize 11 = .ok (.iload_n 1, 1) := by decide +kernel
theorem d_S_peekSize_12 : decode b_S_peekSize 12 = .ok (.invokevirtual 34, 3) := by decide +kernel
theorem d_S_peekSize_15 : decode b_S_peekSize 15 = .ok (.invokestatic 41, 3) := by decide +kernel
theorem d_S_peekSize_18 : decode b_S_peekSize 18 = .ok (.goto 4, 3) := by decide +kernel
theorem d_S_peekSize_21 : decode b_S_peekSize 21 = .ok (.iconst (-1), 1) := by decide +kernel
theorem d_S_peekSize_22 : decode b_S_peekSize 22 = .ok (.ireturn, 1) := by decide +kernel
abbrev b_W_size : ByteArray := prog_9_method_5_code
abbrev y_W_size : MethodName := ⟨"SignMachine$Word", "size", "(I)I"⟩
theorem h_W_size : (y_W_size).cls ≠ "java/lang/invoke/MethodHandle" ∧ (y_W_size).cls ≠ "java/lang/invoke/VarHandle" ∧ (parseMethodDescriptor (y_W_size).desc).map (fun d => d.parameters.length) = some 1 := by decide +kernel
theorem d_W_size_0 : decode b_W_size 0 = .ok (.iload_n 0, 1) := by decide +kernel
theorem d_W_size_1 : decode b_W_size 1 = .ok (.ldc 9, 2) := by decide +kernel
theorem d_W_size_3 : decode b_W_size 3 = .ok (.iand, 1) := by decide +kernel
theorem d_W_size_4 : decode b_W_size 4 = .ok (.ireturn, 1) := by decide +kernel
abbrev b_S_registerSign : ByteArray := prog_1_method_7_code
abbrev y_S_registerSign : MethodName := ⟨"SignMachine", "registerSign", "(I)I"⟩
theorem h_S_registerSign : (y_S_registerSign).cls ≠ "java/lang/invoke/MethodHandle" ∧ (y_S_registerSign).cls ≠ "java/lang/invoke/VarHandle" ∧ (parseMethodDescriptor (y_S_registerSign).desc).map (fun d => d.parameters.length) = some 1 := by decide +kernel
theorem d_S_registerSign_0 : decode b_S_registerSign 0 = .ok (.iload_n 1, 1) := by decide +kernel
theorem d_S_registerSign_1 : decode b_S_registerSign 1 = .ok (.invokestatic 52, 3) := by decide +kernel
theorem d_S_registerSign_4 : decode b_S_registerSign 4 = .ok (.ifCond .eq 17, 3) := by decide +kernel
theorem d_S_registerSign_7 : decode b_S_registerSign 7 = .ok (.aload_n 0, 1) := by decide +kernel
theorem d_S_registerSign_8 : decode b_S_registerSign 8 = .ok (.getfield 10, 3) := by decide +kernel
theorem d_S_registerSign_11 : decode b_S_registerSign 11 = .ok (.iload_n 1, 1) := by decide +kernel
theorem d_S_registerSign_12 : decode b_S_registerSign 12 = .ok (.invokevirtual 55, 3) := by decide +kernel
theorem d_S_registerSign_15 : decode b_S_registerSign 15 = .ok (.invokestatic 38, 3) := by decide +kernel
theorem d_S_registerSign_18 : decode b_S_registerSign 18 = .ok (.goto 4, 3) := by decide +kernel
theorem d_S_registerSign_21 : decode b_S_registerSign 21 = .ok (.iconst (-1), 1) := by decide +kernel
theorem d_S_registerSign_22 : decode b_S_registerSign 22 = .ok (.ireturn, 1) := by decide +kernel
abbrev b_M_isRegister : ByteArray := prog_3_method_3_code
abbrev y_M_isRegister : MethodName := ⟨"SignMachine$Machine", "isRegister", "(I)Z"⟩
theorem h_M_isRegister : (y_M_isRegister).cls ≠ "java/lang/invoke/MethodHandle" ∧ (y_M_isRegister).cls ≠ "java/lang/invoke/VarHandle" ∧ (parseMethodDescriptor (y_M_isRegister).desc).map (fun d => d.parameters.length) = some 1 := by decide +kernel
theorem d_M_isRegister_0 : decode b_M_isRegister 0 = .ok (.iload_n 0, 1) := by decide +kernel
theorem d_M_isRegister_1 : decode b_M_isRegister 1 = .ok (.ifCond .lt 13, 3) := by decide +kernel
theorem d_M_isRegister_4 : decode b_M_isRegister 4 = .ok (.iload_n 0, 1) := by decide +kernel
theorem d_M_isRegister_5 : decode b_M_isRegister 5 = .ok (.bipush 9, 2) := by decide +kernel
theorem d_M_isRegister_7 : decode b_M_isRegister 7 = .ok (.if_icmp .ge 7, 3) := by decide +kernel
theorem d_M_isRegister_10 : decode b_M_isRegister 10 = .ok (.iconst 1, 1) := by decide +kernel
theorem d_M_isRegister_11 : decode b_M_isRegister 11 = .ok (.goto 4, 3) := by decide +kernel
theorem d_M_isRegister_14 : decode b_M_isRegister 14 = .ok (.iconst 0, 1) := by decide +kernel
theorem d_M_isRegister_15 : decode b_M_isRegister 15 = .ok (.ireturn, 1) := by decide +kernel
abbrev b_M_register : ByteArray := prog_3_method_8_code
abbrev y_M_register : MethodName := ⟨"SignMachine$Machine", "register", "(I)I"⟩
theorem h_M_register : (y_M_register).cls ≠ "java/lang/invoke/MethodHandle" ∧ (y_M_register).cls ≠ "java/lang/invoke/VarHandle" ∧ (parseMethodDescriptor (y_M_register).desc).map (fun d => d.parameters.length) = some 1 := by decide +kernel
theorem d_M_register_0 : decode b_M_register 0 = .ok (.iload_n 1, 1) := by decide +kernel
theorem d_M_register_1 : decode b_M_register 1 = .ok (.ifCond .lt 18, 3) := by decide +kernel
theorem d_M_register_4 : decode b_M_register 4 = .ok (.iload_n 1, 1) := by decide +kernel
theorem d_M_register_5 : decode b_M_register 5 = .ok (.bipush 9, 2) := by decide +kernel
theorem d_M_register_7 : decode b_M_register 7 = .ok (.if_icmp .ge 12, 3) := by decide +kernel
theorem d_M_register_10 : decode b_M_register 10 = .ok (.aload_n 0, 1) := by decide +kernel
theorem d_M_register_11 : decode b_M_register 11 = .ok (.getfield 15, 3) := by decide +kernel
theorem d_M_register_14 : decode b_M_register 14 = .ok (.iload_n 1, 1) := by decide +kernel
theorem d_M_register_15 : decode b_M_register 15 = .ok (.iaload, 1) := by decide +kernel
theorem d_M_register_16 : decode b_M_register 16 = .ok (.goto 4, 3) := by decide +kernel
theorem d_M_register_19 : decode b_M_register 19 = .ok (.iconst 0, 1) := by decide +kernel
theorem d_M_register_20 : decode b_M_register 20 = .ok (.ireturn, 1) := by decide +kernel
abbrev b_S_registerSize : ByteArray := prog_1_method_8_code
abbrev y_S_registerSize : MethodName := ⟨"SignMachine", "registerSize", "(I)I"⟩
theorem h_S_registerSize : (y_S_registerSize).cls ≠ "java/lang/invoke/MethodHandle" ∧ (y_S_registerSize).cls ≠ "java/lang/invoke/VarHandle" ∧ (parseMethodDescriptor (y_S_registerSize).desc).map (fun d => d.parameters.length) = some 1 := by decide +kernel
theorem d_S_registerSize_0 : decode b_S_registerSize 0 = .ok (.iload_n 1, 1) := by decide +kernel
theorem d_S_registerSize_1 : decode b_S_registerSize 1 = .ok (.invokestatic 52, 3) := by decide +kernel
theorem d_S_registerSize_4 : decode b_S_registerSize 4 = .ok (.ifCond .eq 17, 3) := by decide +kernel
theorem d_S_registerSize_7 : decode b_S_registerSize 7 = .ok (.aload_n 0, 1) := by decide +kernel
theorem d_S_registerSize_8 : decode b_S_registerSize 8 = .ok (.getfield 10, 3) := by decide +kernel
theorem d_S_registerSize_11 : decode b_S_registerSize 11 = .ok (.iload_n 1, 1) := by decide +kernel
theorem d_S_registerSize_12 : decode b_S_registerSize 12 = .ok (.invokevirtual 55, 3) := by decide +kernel
theorem d_S_registerSize_15 : decode b_S_registerSize 15 = .ok (.invokestatic 41, 3) := by decide +kernel
theorem d_S_registerSize_18 : decode b_S_registerSize 18 = .ok (.goto 4, 3) := by decide +kernel
theorem d_S_registerSize_21 : decode b_S_registerSize 21 = .ok (.iconst (-1), 1) := by decide +kernel
theorem d_S_registerSize_22 : decode b_S_registerSize 22 = .ok (.ireturn, 1) := by decide +kernel
abbrev b_S_set : ByteArray := prog_1_method_9_code
abbrev y_S_set : MethodName := ⟨"SignMachine", "set", "(III)Z"⟩
theorem h_S_set : (y_S_set).cls ≠ "java/lang/invoke/MethodHandle" ∧ (y_S_set).cls ≠ "java/lang/invoke/VarHandle" ∧ (parseMethodDescriptor (y_S_set).desc).map (fun d => d.parameters.length) = some 3 := by decide +kernel
theorem d_S_set_0 : decode b_S_set 0 = .ok (.iload_n 1, 1) := by decide +kernel
theorem d_S_set_1 : decode b_S_set 1 = .ok (.invokestatic 52, 3) := by decide +kernel
theorem d_S_set_4 : decode b_S_set 4 = .ok (.ifCond .eq 11, 3) := by decide +kernel
theorem d_S_set_7 : decode b_S_set 7 = .ok (.iload_n 2, 1) := by decide +kernel
theorem d_S_set_8 : decode b_S_set 8 = .ok (.iload_n 3, 1) := by decide +kernel
theorem d_S_set_9 : decode b_S_set 9 = .ok (.invokestatic 20, 3) := by decide +kernel
theorem d_S_set_12 : decode b_S_set 12 = .ok (.ifCond .ne 5, 3) := by decide +kernel
theorem d_S_set_15 : decode b_S_set 15 = .ok (.iconst 0, 1) := by decide +kernel
theorem d_S_set_16 : decode b_S_set 16 = .ok (.ireturn, 1) := by decide +kernel
theorem d_S_set_17 : decode b_S_set 17 = .ok (.iload_n 1, 1) := by decide +kernel
theorem d_S_set_18 : decode b_S_set 18 = .ok (.invokestatic 58, 3) := by decide +kernel
theorem d_S_set_21 : decode b_S_set 21 = .ok (.ifCond .eq 12, 3) := by decide +kernel
theorem d_S_set_24 : decode b_S_set 24 = .ok (.iload_n 3, 1) := by decide +kernel
theorem d_S_set_25 : decode b_S_set 25 = .ok (.sipush 4095, 3) := by decide +kernel
theorem d_S_set_28 : decode b_S_set 28 = .ok (.if_icmp .le 5, 3) := by decide +kernel
theorem d_S_set_31 : decode b_S_set 31 = .ok (.iconst 0, 1) := by decide +kernel
theorem d_S_set_32 : decode b_S_set 32 = .ok (.ireturn, 1) := by decide +kernel
theorem d_S_set_33 : decode b_S_set 33 = .ok (.iload_n 1, 1) := by decide +kernel
theorem d_S_set_34 : decode b_S_set 34 = .ok (.bipush 8, 2) := by decide +kernel
theorem d_S_set_36 : decode b_S_set 36 = .ok (.if_icmp .ne 9, 3) := by decide +kernel
theorem d_S_set_39 : decode b_S_set 39 = .ok (.iload_n 2, 1) := by decide +kernel
theorem d_S_set_40 : decode b_S_set 40 = .ok (.ifCond .eq 5, 3) := by decide +kernel
theorem d_S_set_43 : decode b_S_set 43 = .ok (.iconst 0, 1) := by decide +kernel
theorem d_S_set_44 : decode b_S_set 44 = .ok (.ireturn, 1) := by decide +kernel
theorem d_S_set_45 : decode b_S_set 45 = .ok (.aload_n 0, 1) := by decide +kernel
theorem d_S_set_46 : decode b_S_set 46 = .ok (.getfield 10, 3) := by decide +kernel
theorem d_S_set_49 : decode b_S_set 49 = .ok (.iload_n 1, 1) := by decide +kernel
theorem d_S_set_50 : decode b_S_set 50 = .ok (.iload_n 2, 1) := by decide +kernel
theorem d_S_set_51 : decode b_S_set 51 = .ok (.iload_n 3, 1) := by decide +kernel
theorem d_S_set_52 : decode b_S_set 52 = .ok (.invokestatic 26, 3) := by decide +kernel
theorem d_S_set_55 : decode b_S_set 55 = .ok (.invokevirtual 61, 3) := by decide +kernel
theorem d_S_set_58 : decode b_S_set 58 = .ok (.iconst 1, 1) := by decide +kernel
theorem d_S_set_59 : decode b_S_set 59 = .ok (.ireturn, 1) := by decide +kernel
abbrev b_M_isIndex : ByteArray := prog_3_method_4_code
abbrev y_M_isIndex : MethodName := ⟨"SignMachine$Machine", "isIndex", "(I)Z"⟩
theorem h_M_isIndex : (y_M_isIndex).cls ≠ "java/lang/invoke/MethodHandle" ∧ (y_M_isIndex).cls ≠ "java/lang/invoke/VarHandle" ∧ (parseMethodDescriptor (y_M_isIndex).desc).map (fun d => d.parameters.length) = some 1 := by decide +kernel
theorem d_M_isIndex_0 : decode b_M_isIndex 0 = .ok (.iload_n 0, 1) := by decide +kernel
theorem d_M_isIndex_1 : decode b_M_isIndex 1 = .ok (.iconst 1, 1) := by decide +kernel
theorem d_M_isIndex_2 : decode b_M_isIndex 2 = .ok (.if_icmp .lt 13, 3) := by decide +kernel
theorem d_M_isIndex_5 : decode b_M_isIndex 5 = .ok (.iload_n 0, 1) := by decide +kernel
theorem d_M_isIndex_6 : decode b_M_isIndex 6 = .ok (.bipush 6, 2) := by decide +kernel
theorem d_M_isIndex_8 : decode b_M_isIndex 8 = .ok (.if_icmp .gt 7, 3) := by decide +kernel
theorem d_M_isIndex_11 : decode b_M_isIndex 11 = .ok (.iconst 1, 1) := by decide +kernel
theorem d_M_isIndex_12 : decode b_M_isIndex 12 = .ok (.goto 4, 3) := by decide +kernel
theorem d_M_isIndex_15 : decode b_M_isIndex 15 = .ok (.iconst 0, 1) := by decide +kernel
theorem d_M_isIndex_16 : decode b_M_isIndex 16 = .ok (.ireturn, 1) := by decide +kernel
abbrev b_M_isShort : ByteArray := prog_3_method_5_code
abbrev y_M_isShort : MethodName := ⟨"SignMachine$Machine", "isShort", "(I)Z"⟩
theorem h_M_isShort : (y_M_isShort).cls ≠ "java/lang/invoke/MethodHandle" ∧ (y_M_isShort).cls ≠ "java/lang/invoke/VarHandle" ∧ (parseMethodDescriptor (y_M_isShort).desc).map (fun d => d.parameters.length) = some 1 := by decide +kernel
theorem d_M_isShort_0 : decode b_M_isShort 0 = .ok (.iload_n 0, 1) := by decide +kernel
theorem d_M_isShort_1 : decode b_M_isShort 1 = .ok (.invokestatic 28, 3) := by decide +kernel
theorem d_M_isShort_4 : decode b_M_isShort 4 = .ok (.ifCond .ne 9, 3) := by decide +kernel
theorem d_M_isShort_7 : decode b_M_isShort 7 = .ok (.iload_n 0, 1) := by decide +kernel
theorem d_M_isShort_8 : decode b_M_isShort 8 = .ok (.bipush 8, 2) := by decide +kernel
theorem d_M_isShort_10 : decode b_M_isShort 10 = .ok (.if_icmp .ne 7, 3) := by decide +kernel
theorem d_M_isShort_13 : decode b_M_isShort 13 = .ok (.iconst 1, 1) := by decide +kernel
theorem d_M_isShort_14 : decode b_M_isShort 14 = .ok (.goto 4, 3) := by decide +kernel
theorem d_M_isShort_17 : decode b_M_isShort 17 = .ok (.iconst 0, 1) := by decide +kernel
theorem d_M_isShort_18 : decode b_M_isShort 18 = .ok (.ireturn, 1) := by decide +kernel
abbrev b_M_putRegister : ByteArray := prog_3_method_9_code
abbrev y_M_putRegister : MethodName := ⟨"SignMachine$Machine", "putRegister", "(II)V"⟩
theorem h_M_putRegister : (y_M_putRegister).cls ≠ "java/lang/invoke/MethodHandle" ∧ (y_M_putRegister).cls ≠ "java/lang/invoke/VarHandle" ∧ (parseMethodDescriptor (y_M_putRegister).desc).map (fun d => d.parameters.length) = some 2 := by decide +kernel
theorem d_M_putRegister_0 : decode b_M_putRegister 0 = .ok (.iload_n 1, 1) := by decide +kernel
theorem d_M_putRegister_1 : decode b_M_putRegister 1 = .ok (.ifCond .lt 16, 3) := by decide +kernel
theorem d_M_putRegister_4 : decode b_M_putRegister 4 = .ok (.iload_n 1, 1) := by decide +kernel
theorem d_M_putRegister_5 : decode b_M_putRegister 5 = .ok (.bipush 9, 2) := by decide +kernel
theorem d_M_putRegister_7 : decode b_M_putRegister 7 = .ok (.if_icmp .ge 10, 3) := by decide +kernel
theorem d_M_putRegister_10 : decode b_M_putRegister 10 = .ok (.aload_n 0, 1) := by decide +kernel
theorem d_M_putRegister_11 : decode b_M_putRegister 11 = .ok (.getfield 15, 3) := by decide +kernel
theorem d_M_putRegister_14 : decode b_M_putRegister 14 = .ok (.iload_n 1, 1) := by decide +kernel
theorem d_M_putRegister_15 : decode b_M_putRegister 15 = .ok (.iload_n 2, 1) := by decide +kernel
theorem d_M_putRegister_16 : decode b_M_putRegister 16 = .ok (.iastore, 1) := by decide +kernel
theorem d_M_putRegister_17 : decode b_M_putRegister 17 = .ok (.return_, 1) := by decide +kernel
abbrev b_S_state : ByteArray := prog_1_method_10_code
abbrev y_S_state : MethodName := ⟨"SignMachine", "state", "(I)I"⟩
theorem h_S_state : (y_S_state).cls ≠ "java/lang/invoke/MethodHandle" ∧ (y_S_state).cls ≠ "java/lang/invoke/VarHandle" ∧ (parseMethodDescriptor (y_S_state).desc).map (fun d => d.parameters.length) = some 1 := by decide +kernel
theorem d_S_state_0 : decode b_S_state 0 = .ok (.iload_n 1, 1) := by decide +kernel
theorem d_S_state_1 : decode b_S_state 1 = .ok (.tableswitch 115 0 6 #[43, 51, 67, 75, 83, 95, 107], 43) := by decide +kernel
theorem d_S_state_44 : decode b_S_state 44 = .ok (.aload_n 0, 1) := by decide +kernel
theorem d_S_state_45 : decode b_S_state 45 = .ok (.getfield 10, 3) := by decide +kernel
theorem d_S_state_48 : decode b_S_state 48 = .ok (.getfield 64, 3) := by decide +kernel
theorem d_S_state_51 : decode b_S_state 51 = .ok (.ireturn, 1) := by decide +kernel
theorem d_S_state_52 : decode b_S_state 52 = .ok (.aload_n 0, 1) := by decide +kernel
theorem d_S_state_53 : decode b_S_state 53 = .ok (.getfield 10, 3) := by decide +kernel
theorem d_S_state_56 : decode b_S_state 56 = .ok (.getfield 67, 3) := by decide +kernel
theorem d_S_state_59 : decode b_S_state 59 = .ok (.ifCond .eq 7, 3) := by decide +kernel
theorem d_S_state_62 : decode b_S_state 62 = .ok (.iconst 1, 1) := by decide +kernel
theorem d_S_state_63 : decode b_S_state 63 = .ok (.goto 4, 3) := by decide +kernel
theorem d_S_state_66 : decode b_S_state 66 = .ok (.iconst 0, 1) := by decide +kernel
theorem d_S_state_67 : decode b_S_state 67 = .ok (.ireturn, 1) := by decide +kernel
theorem d_S_state_68 : decode b_S_state 68 = .ok (.aload_n 0, 1) := by decide +kernel
theorem d_S_state_69 : decode b_S_state 69 = .ok (.getfield 10, 3) := by decide +kernel
theorem d_S_state_72 : decode b_S_state 72 = .ok (.getfield 71, 3) := by decide +kernel
theorem d_S_state_75 : decode b_S_state 75 = .ok (.ireturn, 1) := by decide +kernel
theorem d_S_state_76 : decode b_S_state 76 = .ok (.aload_n 0, 1) := by decide +kernel
theorem d_S_state_77 : decode b_S_state 77 = .ok (.getfield 10, 3) := by decide +kernel
theorem d_S_state_80 : decode b_S_state 80 = .ok (.getfield 74, 3) := by decide +kernel
theorem d_S_state_83 : decode b_S_state 83 = .ok (.ireturn, 1) := by decide +kernel
theorem d_S_state_84 : decode b_S_state 84 = .ok (.aload_n 0, 1) := by decide +kernel
theorem d_S_state_85 : decode b_S_state 85 = .ok (.getfield 10, 3) := by decide +kernel
theorem d_S_state_88 : decode b_S_state 88 = .ok (.iconst 0, 1) := by decide +kernel
theorem d_S_state_89 : decode b_S_state 89 = .ok (.invokevirtual 77, 3) := by decide +kernel
theorem d_S_state_92 : decode b_S_state 92 = .ok (.getfield 81, 3) := by decide +kernel
theorem d_S_state_95 : decode b_S_state 95 = .ok (.ireturn, 1) := by decide +kernel
theorem d_S_state_96 : decode b_S_state 96 = .ok (.aload_n 0, 1) := by decide +kernel
theorem d_S_state_97 : decode b_S_state 97 = .ok (.getfield 10, 3) := by decide +kernel
theorem d_S_state_100 : decode b_S_state 100 = .ok (.iconst 1, 1) := by decide +kernel
theorem d_S_state_101 : decode b_S_state 101 = .ok (.invokevirtual 77, 3) := by decide +kernel
theorem d_S_state_104 : decode b_S_state 104 = .ok (.getfield 81, 3) := by decide +kernel
theorem d_S_state_107 : decode b_S_state 107 = .ok (.ireturn, 1) := by decide +kernel
theorem d_S_state_108 : decode b_S_state 108 = .ok (.aload_n 0, 1) := by decide +kernel
theorem d_S_state_109 : decode b_S_state 109 = .ok (.getfield 10, 3) := by decide +kernel
theorem d_S_state_112 : decode b_S_state 112 = .ok (.getfield 48, 3) := by decide +kernel
theorem d_S_state_115 : decode b_S_state 115 = .ok (.ireturn, 1) := by decide +kernel
theorem d_S_state_116 : decode b_S_state 116 = .ok (.bipush (-2), 2) := by decide +kernel
theorem d_S_state_118 : decode b_S_state 118 = .ok (.ireturn, 1) := by decide +kernel
abbrev b_M_unit : ByteArray := prog_3_method_10_code
abbrev y_M_unit : MethodName := ⟨"SignMachine$Machine", "unit", "(I)LSignMachine$Tape;"⟩
theorem h_M_unit : (y_M_unit).cls ≠ "java/lang/invoke/MethodHandle" ∧ (y_M_unit).cls ≠ "java/lang/invoke/VarHandle" ∧ (parseMethodDescriptor (y_M_unit).desc).map (fun d => d.parameters.length) = some 1 := by decide +kernel
theorem d_M_unit_0 : decode b_M_unit 0 = .ok (.iload_n 1, 1) := by decide +kernel
theorem d_M_unit_1 : decode b_M_unit 1 = .ok (.ifCond .ne 10, 3) := by decide +kernel
theorem d_M_unit_4 : decode b_M_unit 4 = .ok (.aload_n 0, 1) := by decide +kernel
theorem d_M_unit_5 : decode b_M_unit 5 = .ok (.getfield 21, 3) := by decide +kernel
theorem d_M_unit_8 : decode b_M_unit 8 = .ok (.goto 7, 3) := by decide +kernel
theorem d_M_unit_11 : decode b_M_unit 11 = .ok (.aload_n 0, 1) := by decide +kernel
theorem d_M_unit_12 : decode b_M_unit 12 = .ok (.getfield 25, 3) := by decide +kernel
theorem d_M_unit_15 : decode b_M_unit 15 = .ok (.areturn, 1) := by decide +kernel
abbrev b_S_go : ByteArray := prog_1_method_11_code
abbrev y_S_go : MethodName := ⟨"SignMachine", "go", "(I)Z"⟩
theorem h_S_go : (y_S_go).cls ≠ "java/lang/invoke/MethodHandle" ∧ (y_S_go).cls ≠ "java/lang/invoke/VarHandle" ∧ (parseMethodDescriptor (y_S_go).desc).map (fun d => d.parameters.length) = some 1 := by decide +kernel
theorem d_S_go_0 : decode b_S_go 0 = .ok (.iload_n 1, 1) := by decide +kernel
theorem d_S_go_1 : decode b_S_go 1 = .ok (.invokestatic 16, 3) := by decide +kernel
theorem d_S_go_4 : decode b_S_go 4 = .ok (.ifCond .ne 5, 3) := by decide +kernel
theorem d_S_go_7 : decode b_S_go 7 = .ok (.iconst 0, 1) := by decide +kernel
theorem d_S_go_8 : decode b_S_go 8 = .ok (.ireturn, 1) := by decide +kernel
theorem d_S_go_9 : decode b_S_go 9 = .ok (.aload_n 0, 1) := by decide +kernel
theorem d_S_go_10 : decode b_S_go 10 = .ok (.getfield 10, 3) := by decide +kernel
theorem d_S_go_13 : decode b_S_go 13 = .ok (.iload_n 1, 1) := by decide +kernel
theorem d_S_go_14 : decode b_S_go 14 = .ok (.putfield 64, 3) := by decide +kernel
theorem d_S_go_17 : decode b_S_go 17 = .ok (.iconst 1, 1) := by decide +kernel
theorem d_S_go_18 : decode b_S_go 18 = .ok (.ireturn, 1) := by decide +kernel
abbrev b_S_tape : ByteArray := prog_1_method_12_code
abbrev y_S_tape : MethodName := ⟨"SignMachine", "tape", "(III)I"⟩
theorem h_S_tape : (y_S_tape).cls ≠ "java/lang/invoke/MethodHandle" ∧ (y_S_tape).cls ≠ "java/lang/invoke/VarHandle" ∧ (parseMethodDescriptor (y_S_tape).desc).map (fun d => d.parameters.length) = some 3 := by decide +kernel
theorem d_S_tape_0 : decode b_S_tape 0 = .ok (.iload_n 1, 1) := by decide +kernel
theorem d_S_tape_1 : decode b_S_tape 1 = .ok (.ifCond .lt 16, 3) := by decide +kernel
theorem d_S_tape_4 : decode b_S_tape 4 = .ok (.iload_n 1, 1) := by decide +kernel
theorem d_S_tape_5 : decode b_S_tape 5 = .ok (.iconst 1, 1) := by decide +kernel
theorem d_S_tape_6 : decode b_S_tape 6 = .ok (.if_icmp .gt 11, 3) := by decide +kernel
theorem d_S_tape_9 : decode b_S_tape 9 = .ok (.iload_n 2, 1) := by decide +kernel
theorem d_S_tape_10 : decode b_S_tape 10 = .ok (.iload_n 3, 1) := by decide +kernel
theorem d_S_tape_11 : decode b_S_tape 11 = .ok (.invokestatic 86, 3) := by decide +kernel
theorem d_S_tape_14 : decode b_S_tape 14 = .ok (.ifCond .ne 6, 3) := by decide +kernel
theorem d_S_tape_17 : decode b_S_tape 17 = .ok (.ldc 87, 2) := by decide +kernel
theorem d_S_tape_19 : decode b_S_tape 19 = .ok (.ireturn, 1) := by decide +kernel
theorem d_S_tape_20 : decode b_S_tape 20 = .ok (.aload_n 0, 1) := by decide +kernel
theorem d_S_tape_21 : decode b_S_tape 21 = .ok (.getfield 10, 3) := by decide +kernel
theorem d_S_tape_24 : decode b_S_tape 24 = .ok (.iload_n 1, 1) := by decide +kernel
theorem d_S_tape_25 : decode b_S_tape 25 = .ok (.invokevirtual 77, 3) := by decide +kernel
theorem d_S_tape_28 : decode b_S_tape 28 = .ok (.iload_n 2, 1) := by decide +kernel
theorem d_S_tape_29 : decode b_S_tape 29 = .ok (.iload_n 3, 1) := by decide +kernel
theorem d_S_tape_30 : decode b_S_tape 30 = .ok (.invokevirtual 88, 3) := by decide +kernel
theorem d_S_tape_33 : decode b_S_tape 33 = .ok (.istore 4, 2) := by decide +kernel
theorem d_S_tape_35 : decode b_S_tape 35 = .ok (.iload 4, 2) := by decide +kernel
theorem d_S_tape_37 : decode b_S_tape 37 = .ok (.ldc 90, 2) := by decide +kernel
theorem d_S_tape_39 : decode b_S_tape 39 = .ok (.if_icmp .ne 8, 3) := by decide +kernel
theorem d_S_tape_42 : decode b_S_tape 42 = .ok (.ldc 91, 2) := by decide +kernel
theorem d_S_tape_44 : decode b_S_tape 44 = .ok (.goto 8, 3) := by decide +kernel
theorem d_S_tape_47 : decode b_S_tape 47 = .ok (.iload 4, 2) := by decide +kernel
theorem d_S_tape_49 : decode b_S_tape 49 = .ok (.invokestatic 92, 3) := by decide +kernel
theorem d_S_tape_52 : decode b_S_tape 52 = .ok (.ireturn, 1) := by decide +kernel
abbrev b_T_wordAt : ByteArray := prog_8_method_3_code
abbrev y_T_wordAt : MethodName := ⟨"SignMachine$Tape", "wordAt", "(II)I"⟩
theorem h_T_wordAt : (y_T_wordAt).cls ≠ "java/lang/invoke/MethodHandle" ∧ (y_T_wordAt).cls ≠ "java/lang/invoke/VarHandle" ∧ (parseMethodDescriptor (y_T_wordAt).desc).map (fun d => d.parameters.length) = some 2 := by decide +kernel
theorem d_T_wordAt_0 : decode b_T_wordAt 0 = .ok (.aload_n 0, 1) := by decide +kernel
theorem d_T_wordAt_1 : decode b_T_wordAt 1 = .ok (.getfield 9, 3) := by decide +kernel
theorem d_T_wordAt_4 : decode b_T_wordAt 4 = .ok (.ifnull 25, 3) := by decide +kernel
theorem d_T_wordAt_7 : decode b_T_wordAt 7 = .ok (.iload_n 1, 1) := by decide +kernel
theorem d_T_wordAt_8 : decode b_T_wordAt 8 = .ok (.iload_n 2, 1) := by decide +kernel
theorem d_T_wordAt_9 : decode b_T_wordAt 9 = .ok (.invokestatic 13, 3) := by decide +kernel
theorem d_T_wordAt_12 : decode b_T_wordAt 12 = .ok (.ifCond .eq 17, 3) := by decide +kernel
theorem d_T_wordAt_15 : decode b_T_wordAt 15 = .ok (.aload_n 0, 1) := by decide +kernel
theorem d_T_wordAt_16 : decode b_T_wordAt 16 = .ok (.getfield 9, 3) := by decide +kernel
theorem d_T_wordAt_19 : decode b_T_wordAt 19 = .ok (.iload_n 1, 1) := by decide +kernel
theorem d_T_wordAt_20 : decode b_T_wordAt 20 = .ok (.bipush 100, 2) := by decide +kernel
theorem d_T_wordAt_22 : decode b_T_wordAt 22 = .ok (.imul, 1) := by decide +kernel
theorem d_T_wordAt_23 : decode b_T_wordAt 23 = .ok (.iload_n 2, 1) := by decide +kernel
theorem d_T_wordAt_24 : decode b_T_wordAt 24 = .ok (.iadd, 1) := by decide +kernel
theorem d_T_wordAt_25 : decode b_T_wordAt 25 = .ok (.iaload, 1) := by decide +kernel
theorem d_T_wordAt_26 : decode b_T_wordAt 26 = .ok (.goto 4, 3) := by decide +kernel
theorem d_T_wordAt_29 : decode b_T_wordAt 29 = .ok (.iconst 0, 1) := by decide +kernel
theorem d_T_wordAt_30 : decode b_T_wordAt 30 = .ok (.ireturn, 1) := by decide +kernel
abbrev b_W_number : ByteArray := prog_9_method_6_code
abbrev y_W_number : MethodName := ⟨"SignMachine$Word", "number", "(I)I"⟩
theorem h_W_number : (y_W_number).cls ≠ "java/lang/invoke/MethodHandle" ∧ (y_W_number).cls ≠ "java/lang/invoke/VarHandle" ∧ (parseMethodDescriptor (y_W_number).desc).map (fun d => d.parameters.length) = some 1 := by decide +kernel
theorem d_W_number_0 : decode b_W_number 0 = .ok (.iload_n 0, 1) := by decide +kernel
theorem d_W_number_1 : decode b_W_number 1 = .ok (.ldc 10, 2) := by decide +kernel
theorem d_W_number_3 : decode b_W_number 3 = .ok (.iand, 1) := by decide +kernel
theorem d_W_number_4 : decode b_W_number 4 = .ok (.ifCond .ne 10, 3) := by decide +kernel
theorem d_W_number_7 : decode b_W_number 7 = .ok (.iload_n 0, 1) := by decide +kernel
theorem d_W_number_8 : decode b_W_number 8 = .ok (.ldc 9, 2) := by decide +kernel
theorem d_W_number_10 : decode b_W_number 10 = .ok (.iand, 1) := by decide +kernel
theorem d_W_number_11 : decode b_W_number 11 = .ok (.goto 8, 3) := by decide +kernel
theorem d_W_number_14 : decode b_W_number 14 = .ok (.iload_n 0, 1) := by decide +kernel
theorem d_W_number_15 : decode b_W_number 15 = .ok (.ldc 9, 2) := by decide +kernel
theorem d_W_number_17 : decode b_W_number 17 = .ok (.iand, 1) := by decide +kernel
theorem d_W_number_18 : decode b_W_number 18 = .ok (.ineg, 1) := by decide +kernel
theorem d_W_number_19 : decode b_W_number 19 = .ok (.ireturn, 1) := by decide +kernel
abbrev b_S_step : ByteArray := prog_1_method_5_code
abbrev y_S_step : MethodName := ⟨"SignMachine", "step", "()I"⟩
theorem h_S_step : (y_S_step).cls ≠ "java/lang/invoke/MethodHandle" ∧ (y_S_step).cls ≠ "java/lang/invoke/VarHandle" ∧ (parseMethodDescriptor (y_S_step).desc).map (fun d => d.parameters.length) = some 0 := by decide +kernel
theorem d_S_step_0 : decode b_S_step 0 = .ok (.aload_n 0, 1) := by decide +kernel
theorem d_S_step_1 : decode b_S_step 1 = .ok (.getfield 10, 3) := by decide +kernel
theorem d_S_step_4 : decode b_S_step 4 = .ok (.aload_n 0, 1) := by decide +kernel
theorem d_S_step_5 : decode b_S_step 5 = .ok (.getfield 10, 3) := by decide +kernel
theorem d_S_step_8 : decode b_S_step 8 = .ok (.invokevirtual 44, 3) := by decide +kernel
theorem d_S_step_11 : decode b_S_step 11 = .ok (.putfield 48, 3) := by decide +kernel
theorem d_S_step_14 : decode b_S_step 14 = .ok (.aload_n 0, 1) := by decide +kernel
theorem d_S_step_15 : decode b_S_step 15 = .ok (.getfield 10, 3) := by decide +kernel
theorem d_S_step_18 : decode b_S_step 18 = .ok (.getfield 48, 3) := by decide +kernel
theorem d_S_step_21 : decode b_S_step 21 = .ok (.ireturn, 1) := by decide +kernel
abbrev b_M_execute : ByteArray := prog_3_method_11_code
abbrev y_M_execute : MethodName := ⟨"SignMachine$Machine", "execute", "()I"⟩
theorem h_M_execute : (y_M_execute).cls ≠ "java/lang/invoke/MethodHandle" ∧ (y_M_execute).cls ≠ "java/lang/invoke/VarHandle" ∧ (parseMethodDescriptor (y_M_execute).desc).map (fun d => d.parameters.length) = some 0 := by decide +kernel
theorem d_M_execute_0 : decode b_M_execute 0 = .ok (.aload_n 0, 1) := by decide +kernel
theorem d_M_execute_1 : decode b_M_execute 1 = .ok (.getfield 32, 3) := by decide +kernel
theorem d_M_execute_4 : decode b_M_execute 4 = .ok (.invokestatic 36, 3) := by decide +kernel
theorem d_M_execute_7 : decode b_M_execute 7 = .ok (.ifCond .ne 5, 3) := by decide +kernel
theorem d_M_execute_10 : decode b_M_execute 10 = .ok (.iconst 3, 1) := by decide +kernel
theorem d_M_execute_11 : decode b_M_execute 11 = .ok (.ireturn, 1) := by decide +kernel
theorem d_M_execute_12 : decode b_M_execute 12 = .ok (.aload_n 0, 1) := by decide +kernel
theorem d_M_execute_13 : decode b_M_execute 13 = .ok (.aload_n 0, 1) := by decide +kernel
theorem d_M_execute_14 : decode b_M_execute 14 = .ok (.aload_n 0, 1) := by decide +kernel
theorem d_M_execute_15 : decode b_M_execute 15 = .ok (.getfield 32, 3) := by decide +kernel
theorem d_M_execute_18 : decode b_M_execute 18 = .ok (.invokevirtual 39, 3) := by decide +kernel
theorem d_M_execute_21 : decode b_M_execute 21 = .ok (.invokevirtual 43, 3) := by decide +kernel
theorem d_M_execute_24 : decode b_M_execute 24 = .ok (.aload_n 0, 1) := by decide +kernel
theorem d_M_execute_25 : decode b_M_execute 25 = .ok (.invokevirtual 47, 3) := by decide +kernel
theorem d_M_execute_28 : decode b_M_execute 28 = .ok (.istore_n 1, 1) := by decide +kernel
theorem d_M_execute_29 : decode b_M_execute 29 = .ok (.iload_n 1, 1) := by decide +kernel
theorem d_M_execute_30 : decode b_M_execute 30 = .ok (.ifCond .eq 5, 3) := by decide +kernel
theorem d_M_execute_33 : decode b_M_execute 33 = .ok (.iload_n 1, 1) := by decide +kernel
theorem d_M_execute_34 : decode b_M_execute 34 = .ok (.ireturn, 1) := by decide +kernel
theorem d_M_execute_35 : decode b_M_execute 35 = .ok (.aload_n 0, 1) := by decide +kernel
theorem d_M_execute_36 : decode b_M_execute 36 = .ok (.aload_n 0, 1) := by decide +kernel
theorem d_M_execute_37 : decode b_M_execute 37 = .ok (.getfield 51, 3) := by decide +kernel
theorem d_M_execute_40 : decode b_M_execute 40 = .ok (.aload_n 0, 1) := by decide +kernel
theorem d_M_execute_41 : decode b_M_execute 41 = .ok (.invokevirtual 54, 3) := by decide +kernel
theorem d_M_execute_44 : decode b_M_execute 44 = .ok (.iadd, 1) := by decide +kernel
theorem d_M_execute_45 : decode b_M_execute 45 = .ok (.ldc 57, 2) := by decide +kernel
theorem d_M_execute_47 : decode b_M_execute 47 = .ok (.iand, 1) := by decide +kernel
theorem d_M_execute_48 : decode b_M_execute 48 = .ok (.putfield 51, 3) := by decide +kernel
theorem d_M_execute_51 : decode b_M_execute 51 = .ok (.aload_n 0, 1) := by decide +kernel
theorem d_M_execute_52 : decode b_M_execute 52 = .ok (.dup, 1) := by decide +kernel
theorem d_M_execute_53 : decode b_M_execute 53 = .ok (.getfield 32, 3) := by decide +kernel
theorem d_M_execute_56 : decode b_M_execute 56 = .ok (.iconst 1, 1) := by decide +kernel
theorem d_M_execute_57 : decode b_M_execute 57 = .ok (.iadd, 1) := by decide +kernel
theorem d_M_execute_58 : decode b_M_execute 58 = .ok (.putfield 32, 3) := by decide +kernel
theorem d_M_execute_61 : decode b_M_execute 61 = .ok (.aload_n 0, 1) := by decide +kernel
theorem d_M_execute_62 : decode b_M_execute 62 = .ok (.invokevirtual 58, 3) := by decide +kernel
theorem d_M_execute_65 : decode b_M_execute 65 = .ok (.aload_n 0, 1) := by decide +kernel
theorem d_M_execute_66 : decode b_M_execute 66 = .ok (.getfield 61, 3) := by decide +kernel
theorem d_M_execute_69 : decode b_M_execute 69 = .ok (.iconst 5, 1) := by decide +kernel
theorem d_M_execute_70 : decode b_M_execute 70 = .ok (.if_icmp .ne 15, 3) := by decide +kernel
theorem d_M_execute_73 : decode b_M_execute 73 = .ok (.aload_n 0, 1) := by decide +kernel
theorem d_M_execute_74 : decode b_M_execute 74 = .ok (.getfield 64, 3) := by decide +kernel
theorem d_M_execute_77 : decode b_M_execute 77 = .ok (.iconst 2, 1) := by decide +kernel
theorem d_M_execute_78 : decode b_M_execute 78 = .ok (.if_icmp .ne 7, 3) := by decide +kernel
theorem d_M_execute_81 : decode b_M_execute 81 = .ok (.iconst 1, 1) := by decide +kernel
theorem d_M_execute_82 : decode b_M_execute 82 = .ok (.goto 4, 3) := by decide +kernel
theorem d_M_execute_85 : decode b_M_execute 85 = .ok (.iconst 0, 1) := by decide +kernel
theorem d_M_execute_86 : decode b_M_execute 86 = .ok (.ireturn, 1) := by decide +kernel
abbrev b_M_decode : ByteArray := prog_3_method_12_code
abbrev y_M_decode : MethodName := ⟨"SignMachine$Machine", "decode", "(I)V"⟩
theorem h_M_decode : (y_M_decode).cls ≠ "java/lang/invoke/MethodHandle" ∧ (y_M_decode).cls ≠ "java/lang/invoke/VarHandle" ∧ (parseMethodDescriptor (y_M_decode).desc).map (fun d => d.parameters.length) = some 1 := by decide +kernel
theorem d_M_decode_0 : decode b_M_decode 0 = .ok (.iload_n 1, 1) := by decide +kernel
theorem d_M_decode_1 : decode b_M_decode 1 = .ok (.invokestatic 67, 3) := by decide +kernel
theorem d_M_decode_4 : decode b_M_decode 4 = .ok (.istore_n 2, 1) := by decide +kernel
theorem d_M_decode_5 : decode b_M_decode 5 = .ok (.aload_n 0, 1) := by decide +kernel
theorem d_M_decode_6 : decode b_M_decode 6 = .ok (.iload_n 2, 1) := by decide +kernel
theorem d_M_decode_7 : decode b_M_decode 7 = .ok (.bipush 63, 2) := by decide +kernel
theorem d_M_decode_9 : decode b_M_decode 9 = .ok (.iand, 1) := by decide +kernel
theorem d_M_decode_10 : decode b_M_decode 10 = .ok (.putfield 61, 3) := by decide +kernel
theorem d_M_decode_13 : decode b_M_decode 13 = .ok (.aload_n 0, 1) := by decide +kernel
theorem d_M_decode_14 : decode b_M_decode 14 = .ok (.iload_n 2, 1) := by decide +kernel
theorem d_M_decode_15 : decode b_M_decode 15 = .ok (.bipush 6, 2) := by decide +kernel
theorem d_M_decode_17 : decode b_M_decode 17 = .ok (.ishr, 1) := by decide +kernel
theorem d_M_decode_18 : decode b_M_decode 18 = .ok (.bipush 63, 2) := by decide +kernel
theorem d_M_decode_20 : decode b_M_decode 20 = .ok (.iand, 1) := by decide +kernel
theorem d_M_decode_21 : decode b_M_decode 21 = .ok (.putfield 64, 3) := by decide +kernel
theorem d_M_decode_24 : decode b_M_decode 24 = .ok (.aload_n 0, 1) := by decide +kernel
theorem d_M_decode_25 : decode b_M_decode 25 = .ok (.iload_n 2, 1) := by decide +kernel
theorem d_M_decode_26 : decode b_M_decode 26 = .ok (.bipush 12, 2) := by decide +kernel
theorem d_M_decode_28 : decode b_M_decode 28 = .ok (.ishr, 1) := by decide +kernel
theorem d_M_decode_29 : decode b_M_decode 29 = .ok (.bipush 63, 2) := by decide +kernel
theorem d_M_decode_31 : decode b_M_decode 31 = .ok (.iand, 1) := by decide +kernel
theorem d_M_decode_32 : decode b_M_decode 32 = .ok (.putfield 72, 3) := by decide +kernel
theorem d_M_decode_35 : decode b_M_decode 35 = .ok (.aload_n 0, 1) := by decide +kernel
theorem d_M_decode_36 : decode b_M_decode 36 = .ok (.iload_n 1, 1) := by decide +kernel
theorem d_M_decode_37 : decode b_M_decode 37 = .ok (.invokestatic 75, 3) := by decide +kernel
theorem d_M_decode_40 : decode b_M_decode 40 = .ok (.putfield 78, 3) := by decide +kernel
theorem d_M_decode_43 : decode b_M_decode 43 = .ok (.iload_n 2, 1) := by decide +kernel
theorem d_M_decode_44 : decode b_M_decode 44 = .ok (.bipush 18, 2) := by decide +kernel
theorem d_M_decode_46 : decode b_M_decode 46 = .ok (.ishr, 1) := by decide +kernel
theorem d_M_decode_47 : decode b_M_decode 47 = .ok (.istore_n 3, 1) := by decide +kernel
theorem d_M_decode_48 : decode b_M_decode 48 = .ok (.aload_n 0, 1) := by decide +kernel
theorem d_M_decode_49 : decode b_M_decode 49 = .ok (.aload_n 0, 1) := by decide +kernel
theorem d_M_decode_50 : decode b_M_decode 50 = .ok (.getfield 78, 3) := by decide +kernel
theorem d_M_decode_53 : decode b_M_decode 53 = .ok (.ifCond .ne 7, 3) := by decide +kernel
theorem d_M_decode_56 : decode b_M_decode 56 = .ok (.iload_n 3, 1) := by decide +kernel
theorem d_M_decode_57 : decode b_M_decode 57 = .ok (.goto 5, 3) := by decide +kernel
theorem d_M_decode_60 : decode b_M_decode 60 = .ok (.iload_n 3, 1) := by decide +kernel
theorem d_M_decode_61 : decode b_M_decode 61 = .ok (.ineg, 1) := by decide +kernel
theorem d_M_decode_62 : decode b_M_decode 62 = .ok (.putfield 81, 3) := by decide +kernel
theorem d_M_decode_65 : decode b_M_decode 65 = .ok (.aload_n 0, 1) := by decide +kernel
theorem d_M_decode_66 : decode b_M_decode 66 = .ok (.getfield 72, 3) := by decide +kernel
theorem d_M_decode_69 : decode b_M_decode 69 = .ok (.invokestatic 28, 3) := by decide +kernel
theorem d_M_decode_72 : decode b_M_decode 72 = .ok (.ifCond .eq 23, 3) := by decide +kernel
theorem d_M_decode_75 : decode b_M_decode 75 = .ok (.aload_n 0, 1) := by decide +kernel
theorem d_M_decode_76 : decode b_M_decode 76 = .ok (.dup, 1) := by decide +kernel
theorem d_M_decode_77 : decode b_M_decode 77 = .ok (.getfield 81, 3) := by decide +kernel
theorem d_M_decode_80 : decode b_M_decode 80 = .ok (.aload_n 0, 1) := by decide +kernel
theorem d_M_decode_81 : decode b_M_decode 81 = .ok (.aload_n 0, 1) := by decide +kernel
theorem d_M_decode_82 : decode b_M_decode 82 = .ok (.getfield 72, 3) := by decide +kernel
theorem d_M_decode_85 : decode b_M_decode 85 = .ok (.invokevirtual 84, 3) := by decide +kernel
theorem d_M_decode_88 : decode b_M_decode 88 = .ok (.invokestatic 87, 3) := by decide +kernel
theorem d_M_decode_91 : decode b_M_decode 91 = .ok (.iadd, 1) := by decide +kernel
theorem d_M_decode_92 : decode b_M_decode 92 = .ok (.putfield 81, 3) := by decide +kernel
theorem d_M_decode_95 : decode b_M_decode 95 = .ok (.return_, 1) := by decide +kernel
abbrev b_M_reasonAgainst : ByteArray := prog_3_method_13_code
abbrev y_M_reasonAgainst : MethodName := ⟨"SignMachine$Machine", "reasonAgainst", "()I"⟩
theorem h_M_reasonAgainst : (y_M_reasonAgainst).cls ≠ "java/lang/invoke/MethodHandle" ∧ (y_M_reasonAgainst).cls ≠ "java/lang/invoke/VarHandle" ∧ (parseMethodDescriptor (y_M_reasonAgainst).desc).map (fun d => d.parameters.length) = some 0 := by decide +kernel
theorem d_M_reasonAgainst_0 : decode b_M_reasonAgainst 0 = .ok (.aload_n 0, 1) := by decide +kernel
theorem d_M_reasonAgainst_1 : decode b_M_reasonAgainst 1 = .ok (.invokevirtual 90, 3) := by decide +kernel
theorem d_M_reasonAgainst_4 : decode b_M_reasonAgainst 4 = .ok (.ifCond .ne 5, 3) := by decide +kernel
theorem d_M_reasonAgainst_7 : decode b_M_reasonAgainst 7 = .ok (.iconst 2, 1) := by decide +kernel
theorem d_M_reasonAgainst_8 : decode b_M_reasonAgainst 8 = .ok (.ireturn, 1) := by decide +kernel
theorem d_M_reasonAgainst_9 : decode b_M_reasonAgainst 9 = .ok (.aload_n 0, 1) := by decide +kernel
theorem d_M_reasonAgainst_10 : decode b_M_reasonAgainst 10 = .ok (.invokevirtual 94, 3) := by decide +kernel
theorem d_M_reasonAgainst_13 : decode b_M_reasonAgainst 13 = .ok (.ifCond .ne 5, 3) := by decide +kernel
theorem d_M_reasonAgainst_16 : decode b_M_reasonAgainst 16 = .ok (.iconst 3, 1) := by decide +kernel
theorem d_M_reasonAgainst_17 : decode b_M_reasonAgainst 17 = .ok (.ireturn, 1) := by decide +kernel
theorem d_M_reasonAgainst_18 : decode b_M_reasonAgainst 18 = .ok (.aload_n 0, 1) := by decide +kernel
theorem d_M_reasonAgainst_19 : decode b_M_reasonAgainst 19 = .ok (.invokevirtual 97, 3) := by decide +kernel
theorem d_M_reasonAgainst_22 : decode b_M_reasonAgainst 22 = .ok (.ifCond .ne 5, 3) := by decide +kernel
theorem d_M_reasonAgainst_25 : decode b_M_reasonAgainst 25 = .ok (.iconst 4, 1) := by decide +kernel
theorem d_M_reasonAgainst_26 : decode b_M_reasonAgainst 26 = .ok (.ireturn, 1) := by decide +kernel
theorem d_M_reasonAgainst_27 : decode b_M_reasonAgainst 27 = .ok (.aload_n 0, 1) := by decide +kernel
theorem d_M_reasonAgainst_28 : decode b_M_reasonAgainst 28 = .ok (.invokevirtual 100, 3) := by decide +kernel
theorem d_M_reasonAgainst_31 : decode b_M_reasonAgainst 31 = .ok (.ifCond .eq 7, 3) := by decide +kernel
theorem d_M_reasonAgainst_34 : decode b_M_reasonAgainst 34 = .ok (.iconst 0, 1) := by decide +kernel
theorem d_M_reasonAgainst_35 : decode b_M_reasonAgainst 35 = .ok (.goto 4, 3) := by decide +kernel
theorem d_M_reasonAgainst_38 : decode b_M_reasonAgainst 38 = .ok (.iconst 5, 1) := by decide +kernel
theorem d_M_reasonAgainst_39 : decode b_M_reasonAgainst 39 = .ok (.ireturn, 1) := by decide +kernel
abbrev b_M_shapeCanBe : ByteArray := prog_3_method_15_code
abbrev y_M_shapeCanBe : MethodName := ⟨"SignMachine$Machine", "shapeCanBe", "()Z"⟩
theorem h_M_shapeCanBe : (y_M_shapeCanBe).cls ≠ "java/lang/invoke/MethodHandle" ∧ (y_M_shapeCanBe).cls ≠ "java/lang/invoke/VarHandle" ∧ (parseMethodDescriptor (y_M_shapeCanBe).desc).map (fun d => d.parameters.length) = some 0 := by decide +kernel
theorem d_M_shapeCanBe_0 : decode b_M_shapeCanBe 0 = .ok (.aload_n 0, 1) := by decide +kernel
theorem d_M_shapeCanBe_1 : decode b_M_shapeCanBe 1 = .ok (.getfield 72, 3) := by decide +kernel
theorem d_M_shapeCanBe_4 : decode b_M_shapeCanBe 4 = .ok (.bipush 6, 2) := by decide +kernel
theorem d_M_shapeCanBe_6 : decode b_M_shapeCanBe 6 = .ok (.if_icmp .le 5, 3) := by decide +kernel
theorem d_M_shapeCanBe_9 : decode b_M_shapeCanBe 9 = .ok (.iconst 0, 1) := by decide +kernel
theorem d_M_shapeCanBe_10 : decode b_M_shapeCanBe 10 = .ok (.ireturn, 1) := by decide +kernel
theorem d_M_shapeCanBe_11 : decode b_M_shapeCanBe 11 = .ok (.aload_n 0, 1) := by decide +kernel
theorem d_M_shapeCanBe_12 : decode b_M_shapeCanBe 12 = .ok (.invokevirtual 103, 3) := by decide +kernel
theorem d_M_shapeCanBe_15 : decode b_M_shapeCanBe 15 = .ok (.ifCond .eq 11, 3) := by decide +kernel
theorem d_M_shapeCanBe_18 : decode b_M_shapeCanBe 18 = .ok (.aload_n 0, 1) := by decide +kernel
theorem d_M_shapeCanBe_19 : decode b_M_shapeCanBe 19 = .ok (.getfield 64, 3) := by decide +kernel
theorem d_M_shapeCanBe_22 : decode b_M_shapeCanBe 22 = .ok (.invokestatic 106, 3) := by decide +kernel
theorem d_M_shapeCanBe_25 : decode b_M_shapeCanBe 25 = .ok (.ireturn, 1) := by decide +kernel
theorem d_M_shapeCanBe_26 : decode b_M_shapeCanBe 26 = .ok (.aload_n 0, 1) := by decide +kernel
theorem d_M_shapeCanBe_27 : decode b_M_shapeCanBe 27 = .ok (.getfield 61, 3) := by decide +kernel
theorem d_M_shapeCanBe_30 : decode b_M_shapeCanBe 30 = .ok (.tableswitch 233 0 39 #[174, 233, 233, 233, 233, 176, 190, 174, 233, 233, 233, 233, 233, 233, 233, 233, 233, 233, 233, 233, 233, 233, 233, 233, 233, 233, 233, 233, 233, 233, 233, 233, 233, 233, 204, 204, 204, 204, 204, 218], 174) := by decide +kernel
theorem d_M_shapeCanBe_204 : decode b_M_shapeCanBe 204 = .ok (.iconst 1, 1) := by decide +kernel
theorem d_M_shapeCanBe_205 : decode b_M_shapeCanBe 205 = .ok (.ireturn, 1) := by decide +kernel
theorem d_M_shapeCanBe_206 : decode b_M_shapeCanBe 206 = .ok (.aload_n 0, 1) := by decide +kernel
theorem d_M_shapeCanBe_207 : decode b_M_shapeCanBe 207 = .ok (.getfield 64, 3) := by decide +kernel
theorem d_M_shapeCanBe_210 : decode b_M_shapeCanBe 210 = .ok (.iconst 2, 1) := by decide +kernel
theorem d_M_shapeCanBe_211 : decode b_M_shapeCanBe 211 = .ok (.if_icmp .gt 7, 3) := by decide +kernel
theorem d_M_shapeCanBe_214 : decode b_M_shapeCanBe 214 = .ok (.iconst 1, 1) := by decide +kernel
theorem d_M_shapeCanBe_215 : decode b_M_shapeCanBe 215 = .ok (.goto 4, 3) := by decide +kernel
theorem d_M_shapeCanBe_218 : decode b_M_shapeCanBe 218 = .ok (.iconst 0, 1) := by decide +kernel
theorem d_M_shapeCanBe_219 : decode b_M_shapeCanBe 219 = .ok (.ireturn, 1) := by decide +kernel
theorem d_M_shapeCanBe_220 : decode b_M_shapeCanBe 220 = .ok (.aload_n 0, 1) := by decide +kernel
theorem d_M_shapeCanBe_221 : decode b_M_shapeCanBe 221 = .ok (.getfield 64, 3) := by decide +kernel
theorem d_M_shapeCanBe_224 : decode b_M_shapeCanBe 224 = .ok (.iconst 5, 1) := by decide +kernel
theorem d_M_shapeCanBe_225 : decode b_M_shapeCanBe 225 = .ok (.if_icmp .gt 7, 3) := by decide +kernel
theorem d_M_shapeCanBe_228 : decode b_M_shapeCanBe 228 = .ok (.iconst 1, 1) := by decide +kernel
theorem d_M_shapeCanBe_229 : decode b_M_shapeCanBe 229 = .ok (.goto 4, 3) := by decide +kernel
theorem d_M_shapeCanBe_232 : decode b_M_shapeCanBe 232 = .ok (.iconst 0, 1) := by decide +kernel
theorem d_M_shapeCanBe_233 : decode b_M_shapeCanBe 233 = .ok (.ireturn, 1) := by decide +kernel
theorem d_M_shapeCanBe_234 : decode b_M_shapeCanBe 234 = .ok (.aload_n 0, 1) := by decide +kernel
theorem d_M_shapeCanBe_235 : decode b_M_shapeCanBe 235 = .ok (.getfield 64, 3) := by decide +kernel
theorem d_M_shapeCanBe_238 : decode b_M_shapeCanBe 238 = .ok (.iconst 1, 1) := by decide +kernel
theorem d_M_shapeCanBe_239 : decode b_M_shapeCanBe 239 = .ok (.if_icmp .gt 7, 3) := by decide +kernel
theorem d_M_shapeCanBe_242 : decode b_M_shapeCanBe 242 = .ok (.iconst 1, 1) := by decide +kernel
theorem d_M_shapeCanBe_243 : decode b_M_shapeCanBe 243 = .ok (.goto 4, 3) := by decide +kernel
theorem d_M_shapeCanBe_246 : decode b_M_shapeCanBe 246 = .ok (.iconst 0, 1) := by decide +kernel
theorem d_M_shapeCanBe_247 : decode b_M_shapeCanBe 247 = .ok (.ireturn, 1) := by decide +kernel
theorem d_M_shapeCanBe_248 : decode b_M_shapeCanBe 248 = .ok (.aload_n 0, 1) := by decide +kernel
theorem d_M_shapeCanBe_249 : decode b_M_shapeCanBe 249 = .ok (.getfield 64, 3) := by decide +kernel
theorem d_M_shapeCanBe_252 : decode b_M_shapeCanBe 252 = .ok (.bipush 9, 2) := by decide +kernel
theorem d_M_shapeCanBe_254 : decode b_M_shapeCanBe 254 = .ok (.if_icmp .gt 7, 3) := by decide +kernel
theorem d_M_shapeCanBe_257 : decode b_M_shapeCanBe 257 = .ok (.iconst 1, 1) := by decide +kernel
theorem d_M_shapeCanBe_258 : decode b_M_shapeCanBe 258 = .ok (.goto 4, 3) := by decide +kernel
theorem d_M_shapeCanBe_261 : decode b_M_shapeCanBe 261 = .ok (.iconst 0, 1) := by decide +kernel
theorem d_M_shapeCanBe_262 : decode b_M_shapeCanBe 262 = .ok (.ireturn, 1) := by decide +kernel
theorem d_M_shapeCanBe_263 : decode b_M_shapeCanBe 263 = .ok (.aload_n 0, 1) := by decide +kernel
theorem d_M_shapeCanBe_264 : decode b_M_shapeCanBe 264 = .ok (.getfield 64, 3) := by decide +kernel
theorem d_M_shapeCanBe_267 : decode b_M_shapeCanBe 267 = .ok (.aload_n 0, 1) := by decide +kernel
theorem d_M_shapeCanBe_268 : decode b_M_shapeCanBe 268 = .ok (.getfield 61, 3) := by decide +kernel
theorem d_M_shapeCanBe_271 : decode b_M_shapeCanBe 271 = .ok (.bipush 47, 2) := by decide +kernel
theorem d_M_shapeCanBe_273 : decode b_M_shapeCanBe 273 = .ok (.if_icmp .gt 7, 3) := by decide +kernel
theorem d_M_shapeCanBe_276 : decode b_M_shapeCanBe 276 = .ok (.iconst 5, 1) := by decide +kernel
theorem d_M_shapeCanBe_277 : decode b_M_shapeCanBe 277 = .ok (.goto 4, 3) := by decide +kernel
theorem d_M_shapeCanBe_280 : decode b_M_shapeCanBe 280 = .ok (.iconst 3, 1) := by decide +kernel
theorem d_M_shapeCanBe_281 : decode b_M_shapeCanBe 281 = .ok (.if_icmp .gt 7, 3) := by decide +kernel
theorem d_M_shapeCanBe_284 : decode b_M_shapeCanBe 284 = .ok (.iconst 1, 1) := by decide +kernel
theorem d_M_shapeCanBe_285 : decode b_M_shapeCanBe 285 = .ok (.goto 4, 3) := by decide +kernel
theorem d_M_shapeCanBe_288 : decode b_M_shapeCanBe 288 = .ok (.iconst 0, 1) := by decide +kernel
theorem d_M_shapeCanBe_289 : decode b_M_shapeCanBe 289 = .ok (.ireturn, 1) := by decide +kernel
abbrev b_M_hasFieldOfWord : ByteArray := prog_3_method_14_code
abbrev y_M_hasFieldOfWord : MethodName := ⟨"SignMachine$Machine", "hasFieldOfWord", "()Z"⟩
theorem h_M_hasFieldOfWord : (y_M_hasFieldOfWord).cls ≠ "java/lang/invoke/MethodHandle" ∧ (y_M_hasFieldOfWord).cls ≠ "java/lang/invoke/VarHandle" ∧ (parseMethodDescriptor (y_M_hasFieldOfWord).desc).map (fun d => d.parameters.length) = some 0 := by decide +kernel
theorem d_M_hasFieldOfWord_0 : decode b_M_hasFieldOfWord 0 = .ok (.aload_n 0, 1) := by decide +kernel
theorem d_M_hasFieldOfWord_1 : decode b_M_hasFieldOfWord 1 = .ok (.getfield 61, 3) := by decide +kernel
theorem d_M_hasFieldOfWord_4 : decode b_M_hasFieldOfWord 4 = .ok (.iconst 1, 1) := by decide +kernel
theorem d_M_hasFieldOfWord_5 : decode b_M_hasFieldOfWord 5 = .ok (.if_icmp .lt 11, 3) := by decide +kernel
theorem d_M_hasFieldOfWord_8 : decode b_M_hasFieldOfWord 8 = .ok (.aload_n 0, 1) := by decide +kernel
theorem d_M_hasFieldOfWord_9 : decode b_M_hasFieldOfWord 9 = .ok (.getfield 61, 3) := by decide +kernel
theorem d_M_hasFieldOfWord_12 : decode b_M_hasFieldOfWord 12 = .ok (.iconst 4, 1) := by decide +kernel
theorem d_M_hasFieldOfWord_13 : decode b_M_hasFieldOfWord 13 = .ok (.if_icmp .le 30, 3) := by decide +kernel
theorem d_M_hasFieldOfWord_16 : decode b_M_hasFieldOfWord 16 = .ok (.aload_n 0, 1) := by decide +kernel
theorem d_M_hasFieldOfWord_17 : decode b_M_hasFieldOfWord 17 = .ok (.getfield 61, 3) := by decide +kernel
theorem d_M_hasFieldOfWord_20 : decode b_M_hasFieldOfWord 20 = .ok (.bipush 8, 2) := by decide +kernel
theorem d_M_hasFieldOfWord_22 : decode b_M_hasFieldOfWord 22 = .ok (.if_icmp .lt 12, 3) := by decide +kernel
theorem d_M_hasFieldOfWord_25 : decode b_M_hasFieldOfWord 25 = .ok (.aload_n 0, 1) := by decide +kernel
theorem d_M_hasFieldOfWord_26 : decode b_M_hasFieldOfWord 26 = .ok (.getfield 61, 3) := by decide +kernel
theorem d_M_hasFieldOfWord_29 : decode b_M_hasFieldOfWord 29 = .ok (.bipush 33, 2) := by decide +kernel
theorem d_M_hasFieldOfWord_31 : decode b_M_hasFieldOfWord 31 = .ok (.if_icmp .le 12, 3) := by decide +kernel
theorem d_M_hasFieldOfWord_34 : decode b_M_hasFieldOfWord 34 = .ok (.aload_n 0, 1) := by decide +kernel
theorem d_M_hasFieldOfWord_35 : decode b_M_hasFieldOfWord 35 = .ok (.getfield 61, 3) := by decide +kernel
theorem d_M_hasFieldOfWord_38 : decode b_M_hasFieldOfWord 38 = .ok (.bipush 56, 2) := by decide +kernel
theorem d_M_hasFieldOfWord_40 : decode b_M_hasFieldOfWord 40 = .ok (.if_icmp .lt 7, 3) := by decide +kernel
theorem d_M_hasFieldOfWord_43 : decode b_M_hasFieldOfWord 43 = .ok (.iconst 1, 1) := by decide +kernel
theorem d_M_hasFieldOfWord_44 : decode b_M_hasFieldOfWord 44 = .ok (.goto 4, 3) := by decide +kernel
theorem d_M_hasFieldOfWord_47 : decode b_M_hasFieldOfWord 47 = .ok (.iconst 0, 1) := by decide +kernel
theorem d_M_hasFieldOfWord_48 : decode b_M_hasFieldOfWord 48 = .ok (.ireturn, 1) := by decide +kernel
abbrev b_W_isField : ByteArray := prog_9_method_9_code
abbrev y_W_isField : MethodName := ⟨"SignMachine$Word", "isField", "(I)Z"⟩
theorem h_W_isField : (y_W_isField).cls ≠ "java/lang/invoke/MethodHandle" ∧ (y_W_isField).cls ≠ "java/lang/invoke/VarHandle" ∧ (parseMethodDescriptor (y_W_isField).desc).map (fun d => d.parameters.length) = some 1 := by decide +kernel
theorem d_W_isField_0 : decode b_W_isField 0 = .ok (.iload_n 0, 1) := by decide +kernel
theorem d_W_isField_1 : decode b_W_isField 1 = .ok (.iconst 3, 1) := by decide +kernel
theorem d_W_isField_2 : decode b_W_isField 2 = .ok (.ishr, 1) := by decide +kernel
theorem d_W_isField_3 : decode b_W_isField 3 = .ok (.istore_n 1, 1) := by decide +kernel
theorem d_W_isField_4 : decode b_W_isField 4 = .ok (.iload_n 0, 1) := by decide +kernel
theorem d_W_isField_5 : decode b_W_isField 5 = .ok (.bipush 7, 2) := by decide +kernel
theorem d_W_isField_7 : decode b_W_isField 7 = .ok (.iand, 1) := by decide +kernel
theorem d_W_isField_8 : decode b_W_isField 8 = .ok (.istore_n 2, 1) := by decide +kernel
theorem d_W_isField_9 : decode b_W_isField 9 = .ok (.iload_n 0, 1) := by decide +kernel
theorem d_W_isField_10 : decode b_W_isField 10 = .ok (.ifCond .lt 17, 3) := by decide +kernel
theorem d_W_isField_13 : decode b_W_isField 13 = .ok (.iload_n 1, 1) := by decide +kernel
theorem d_W_isField_14 : decode b_W_isField 14 = .ok (.iload_n 2, 1) := by decide +kernel
theorem d_W_isField_15 : decode b_W_isField 15 = .ok (.if_icmp .gt 12, 3) := by decide +kernel
theorem d_W_isField_18 : decode b_W_isField 18 = .ok (.iload_n 2, 1) := by decide +kernel
theorem d_W_isField_19 : decode b_W_isField 19 = .ok (.iconst 5, 1) := by decide +kernel
theorem d_W_isField_20 : decode b_W_isField 20 = .ok (.if_icmp .gt 7, 3) := by decide +kernel
theorem d_W_isField_23 : decode b_W_isField 23 = .ok (.iconst 1, 1) := by decide +kernel
theorem d_W_isField_24 : decode b_W_isField 24 = .ok (.goto 4, 3) := by decide +kernel
theorem d_W_isField_27 : decode b_W_isField 27 = .ok (.iconst 0, 1) := by decide +kernel
theorem d_W_isField_28 : decode b_W_isField 28 = .ok (.ireturn, 1) := by decide +kernel
abbrev b_M_addressCanBe : ByteArray := prog_3_method_16_code
abbrev y_M_addressCanBe : MethodName := ⟨"SignMachine$Machine", "addressCanBe", "()Z"⟩
theorem h_M_addressCanBe : (y_M_addressCanBe).cls ≠ "java/lang/invoke/MethodHandle" ∧ (y_M_addressCanBe).cls ≠ "java/lang/invoke/VarHandle" ∧ (parseMethodDescriptor (y_M_addressCanBe).desc).map (fun d => d.parameters.length) = some 0 := by decide +kernel
theorem d_M_addressCanBe_0 : decode b_M_addressCanBe 0 = .ok (.aload_n 0, 1) := by decide +kernel
theorem d_M_addressCanBe_1 : decode b_M_addressCanBe 1 = .ok (.invokevirtual 103, 3) := by decide +kernel
theorem d_M_addressCanBe_4 : decode b_M_addressCanBe 4 = .ok (.ifCond .eq 11, 3) := by decide +kernel
theorem d_M_addressCanBe_7 : decode b_M_addressCanBe 7 = .ok (.aload_n 0, 1) := by decide +kernel
theorem d_M_addressCanBe_8 : decode b_M_addressCanBe 8 = .ok (.getfield 81, 3) := by decide +kernel
theorem d_M_addressCanBe_11 : decode b_M_addressCanBe 11 = .ok (.invokestatic 36, 3) := by decide +kernel
theorem d_M_addressCanBe_14 : decode b_M_addressCanBe 14 = .ok (.ireturn, 1) := by decide +kernel
theorem d_M_addressCanBe_15 : decode b_M_addressCanBe 15 = .ok (.aload_n 0, 1) := by decide +kernel
theorem d_M_addressCanBe_16 : decode b_M_addressCanBe 16 = .ok (.getfield 61, 3) := by decide +kernel
theorem d_M_addressCanBe_19 : decode b_M_addressCanBe 19 = .ok (.lookupswitch 95 #[(0, 65), (5, 65), (6, 67), (7, 80), (35, 65), (36, 85), (37, 85)], 65) := by decide +kernel
theorem d_M_addressCanBe_84 : decode b_M_addressCanBe 84 = .ok (.iconst 1, 1) := by decide +kernel
theorem d_M_addressCanBe_85 : decode b_M_addressCanBe 85 = .ok (.ireturn, 1) := by decide +kernel
theorem d_M_addressCanBe_86 : decode b_M_addressCanBe 86 = .ok (.aload_n 0, 1) := by decide +kernel
theorem d_M_addressCanBe_87 : decode b_M_addressCanBe 87 = .ok (.getfield 81, 3) := by decide +kernel
theorem d_M_addressCanBe_90 : decode b_M_addressCanBe 90 = .ok (.ifCond .lt 7, 3) := by decide +kernel
theorem d_M_addressCanBe_93 : decode b_M_addressCanBe 93 = .ok (.iconst 1, 1) := by decide +kernel
theorem d_M_addressCanBe_94 : decode b_M_addressCanBe 94 = .ok (.goto 4, 3) := by decide +kernel
theorem d_M_addressCanBe_97 : decode b_M_addressCanBe 97 = .ok (.iconst 0, 1) := by decide +kernel
theorem d_M_addressCanBe_98 : decode b_M_addressCanBe 98 = .ok (.ireturn, 1) := by decide +kernel
theorem d_M_addressCanBe_99 : decode b_M_addressCanBe 99 = .ok (.aload_n 0, 1) := by decide +kernel
theorem d_M_addressCanBe_100 : decode b_M_addressCanBe 100 = .ok (.invokevirtual 109, 3) := by decide +kernel
theorem d_M_addressCanBe_103 : decode b_M_addressCanBe 103 = .ok (.ireturn, 1) := by decide +kernel
theorem d_M_addressCanBe_104 : decode b_M_addressCanBe 104 = .ok (.aload_n 0, 1) := by decide +kernel
theorem d_M_addressCanBe_105 : decode b_M_addressCanBe 105 = .ok (.getfield 81, 3) := by decide +kernel
theorem d_M_addressCanBe_108 : decode b_M_addressCanBe 108 = .ok (.bipush 100, 2) := by decide +kernel
theorem d_M_addressCanBe_110 : decode b_M_addressCanBe 110 = .ok (.invokestatic 112, 3) := by decide +kernel
theorem d_M_addressCanBe_113 : decode b_M_addressCanBe 113 = .ok (.ireturn, 1) := by decide +kernel
theorem d_M_addressCanBe_114 : decode b_M_addressCanBe 114 = .ok (.aload_n 0, 1) := by decide +kernel
theorem d_M_addressCanBe_115 : decode b_M_addressCanBe 115 = .ok (.getfield 61, 3) := by decide +kernel
theorem d_M_addressCanBe_118 : decode b_M_addressCanBe 118 = .ok (.bipush 48, 2) := by decide +kernel
theorem d_M_addressCanBe_120 : decode b_M_addressCanBe 120 = .ok (.if_icmp .ge 13, 3) := by decide +kernel
theorem d_M_addressCanBe_123 : decode b_M_addressCanBe 123 = .ok (.aload_n 0, 1) := by decide +kernel
theorem d_M_addressCanBe_124 : decode b_M_addressCanBe 124 = .ok (.getfield 81, 3) := by decide +kernel
theorem d_M_addressCanBe_127 : decode b_M_addressCanBe 127 = .ok (.invokestatic 36, 3) := by decide +kernel
theorem d_M_addressCanBe_130 : decode b_M_addressCanBe 130 = .ok (.ifCond .eq 7, 3) := by decide +kernel
theorem d_M_addressCanBe_133 : decode b_M_addressCanBe 133 = .ok (.iconst 1, 1) := by decide +kernel
theorem d_M_addressCanBe_134 : decode b_M_addressCanBe 134 = .ok (.goto 4, 3) := by decide +kernel
theorem d_M_addressCanBe_137 : decode b_M_addressCanBe 137 = .ok (.iconst 0, 1) := by decide +kernel
theorem d_M_addressCanBe_138 : decode b_M_addressCanBe 138 = .ok (.ireturn, 1) := by decide +kernel
abbrev b_M_canMove : ByteArray := prog_3_method_17_code
abbrev y_M_canMove : MethodName := ⟨"SignMachine$Machine", "canMove", "()Z"⟩
theorem h_M_canMove : (y_M_canMove).cls ≠ "java/lang/invoke/MethodHandle" ∧ (y_M_canMove).cls ≠ "java/lang/invoke/VarHandle" ∧ (parseMethodDescriptor (y_M_canMove).desc).map (fun d => d.parameters.length) = some 0 := by decide +kernel
theorem d_M_canMove_0 : decode b_M_canMove 0 = .ok (.aload_n 0, 1) := by decide +kernel
theorem d_M_canMove_1 : decode b_M_canMove 1 = .ok (.getfield 64, 3) := by decide +kernel
theorem d_M_canMove_4 : decode b_M_canMove 4 = .ok (.ifCond .eq 35, 3) := by decide +kernel
theorem d_M_canMove_7 : decode b_M_canMove 7 = .ok (.aload_n 0, 1) := by decide +kernel
theorem d_M_canMove_8 : decode b_M_canMove 8 = .ok (.getfield 81, 3) := by decide +kernel
theorem d_M_canMove_11 : decode b_M_canMove 11 = .ok (.aload_n 0, 1) := by decide +kernel
theorem d_M_canMove_12 : decode b_M_canMove 12 = .ok (.getfield 64, 3) := by decide +kernel
theorem d_M_canMove_15 : decode b_M_canMove 15 = .ok (.invokestatic 112, 3) := by decide +kernel
theorem d_M_canMove_18 : decode b_M_canMove 18 = .ok (.ifCond .eq 25, 3) := by decide +kernel
theorem d_M_canMove_21 : decode b_M_canMove 21 = .ok (.aload_n 0, 1) := by decide +kernel
theorem d_M_canMove_22 : decode b_M_canMove 22 = .ok (.iconst 1, 1) := by decide +kernel
theorem d_M_canMove_23 : decode b_M_canMove 23 = .ok (.invokevirtual 84, 3) := by decide +kernel
theorem d_M_canMove_26 : decode b_M_canMove 26 = .ok (.invokestatic 87, 3) := by decide +kernel
theorem d_M_canMove_29 : decode b_M_canMove 29 = .ok (.aload_n 0, 1) := by decide +kernel
theorem d_M_canMove_30 : decode b_M_canMove 30 = .ok (.getfield 64, 3) := by decide +kernel
theorem d_M_canMove_33 : decode b_M_canMove 33 = .ok (.invokestatic 112, 3) := by decide +kernel
theorem d_M_canMove_36 : decode b_M_canMove 36 = .ok (.ifCond .eq 7, 3) := by decide +kernel
theorem d_M_canMove_39 : decode b_M_canMove 39 = .ok (.iconst 1, 1) := by decide +kernel
theorem d_M_canMove_40 : decode b_M_canMove 40 = .ok (.goto 4, 3) := by decide +kernel
theorem d_M_canMove_43 : decode b_M_canMove 43 = .ok (.iconst 0, 1) := by decide +kernel
theorem d_M_canMove_44 : decode b_M_canMove 44 = .ok (.ireturn, 1) := by decide +kernel
abbrev b_M_hasWords : ByteArray := prog_3_method_18_code
abbrev y_M_hasWords : MethodName := ⟨"SignMachine$Machine", "hasWords", "(II)Z"⟩
theorem h_M_hasWords : (y_M_hasWords).cls ≠ "java/lang/invoke/MethodHandle" ∧ (y_M_hasWords).cls ≠ "java/lang/invoke/VarHandle" ∧ (parseMethodDescriptor (y_M_hasWords).desc).map (fun d => d.parameters.length) = some 2 := by decide +kernel
theorem d_M_hasWords_0 : decode b_M_hasWords 0 = .ok (.iload_n 0, 1) := by decide +kernel
theorem d_M_hasWords_1 : decode b_M_hasWords 1 = .ok (.ifCond .lt 16, 3) := by decide +kernel
theorem d_M_hasWords_4 : decode b_M_hasWords 4 = .ok (.iload_n 0, 1) := by decide +kernel
theorem d_M_hasWords_5 : decode b_M_hasWords 5 = .ok (.iload_n 1, 1) := by decide +kernel
theorem d_M_hasWords_6 : decode b_M_hasWords 6 = .ok (.iadd, 1) := by decide +kernel
theorem d_M_hasWords_7 : decode b_M_hasWords 7 = .ok (.sipush 4000, 3) := by decide +kernel
theorem d_M_hasWords_10 : decode b_M_hasWords 10 = .ok (.if_icmp .gt 7, 3) := by decide +kernel
theorem d_M_hasWords_13 : decode b_M_hasWords 13 = .ok (.iconst 1, 1) := by decide +kernel
theorem d_M_hasWords_14 : decode b_M_hasWords 14 = .ok (.goto 4, 3) := by decide +kernel
theorem d_M_hasWords_17 : decode b_M_hasWords 17 = .ok (.iconst 0, 1) := by decide +kernel
theorem d_M_hasWords_18 : decode b_M_hasWords 18 = .ok (.ireturn, 1) := by decide +kernel
abbrev b_M_indexCanBe : ByteArray := prog_3_method_19_code
abbrev y_M_indexCanBe : MethodName := ⟨"SignMachine$Machine", "indexCanBe", "()Z"⟩
theorem h_M_indexCanBe : (y_M_indexCanBe).cls ≠ "java/lang/invoke/MethodHandle" ∧ (y_M_indexCanBe).cls ≠ "java/lang/invoke/VarHandle" ∧ (parseMethodDescriptor (y_M_indexCanBe).desc).map (fun d => d.parameters.length) = some 0 := by decide +kernel
theorem d_M_indexCanBe_0 : decode b_M_indexCanBe 0 = .ok (.aload_n 0, 1) := by decide +kernel
theorem d_M_indexCanBe_1 : decode b_M_indexCanBe 1 = .ok (.getfield 61, 3) := by decide +kernel
theorem d_M_indexCanBe_4 : decode b_M_indexCanBe 4 = .ok (.bipush 7, 2) := by decide +kernel
theorem d_M_indexCanBe_6 : decode b_M_indexCanBe 6 = .ok (.iand, 1) := by decide +kernel
theorem d_M_indexCanBe_7 : decode b_M_indexCanBe 7 = .ok (.invokestatic 28, 3) := by decide +kernel
theorem d_M_indexCanBe_10 : decode b_M_indexCanBe 10 = .ok (.ifCond .ne 5, 3) := by decide +kernel
theorem d_M_indexCanBe_13 : decode b_M_indexCanBe 13 = .ok (.iconst 1, 1) := by decide +kernel
theorem d_M_indexCanBe_14 : decode b_M_indexCanBe 14 = .ok (.ireturn, 1) := by decide +kernel
theorem d_M_indexCanBe_15 : decode b_M_indexCanBe 15 = .ok (.aload_n 0, 1) := by decide +kernel
theorem d_M_indexCanBe_16 : decode b_M_indexCanBe 16 = .ok (.getfield 61, 3) := by decide +kernel
theorem d_M_indexCanBe_19 : decode b_M_indexCanBe 19 = .ok (.iconst 3, 1) := by decide +kernel
theorem d_M_indexCanBe_20 : decode b_M_indexCanBe 20 = .ok (.ishr, 1) := by decide +kernel
theorem d_M_indexCanBe_21 : decode b_M_indexCanBe 21 = .ok (.lookupswitch 73 #[(1, 35), (2, 35), (6, 54)], 35) := by decide +kernel
theorem d_M_indexCanBe_56 : decode b_M_indexCanBe 56 = .ok (.aload_n 0, 1) := by decide +kernel
theorem d_M_indexCanBe_57 : decode b_M_indexCanBe 57 = .ok (.invokevirtual 116, 3) := by decide +kernel
theorem d_M_indexCanBe_60 : decode b_M_indexCanBe 60 = .ok (.invokestatic 67, 3) := by decide +kernel
theorem d_M_indexCanBe_63 : decode b_M_indexCanBe 63 = .ok (.sipush 4095, 3) := by decide +kernel
theorem d_M_indexCanBe_66 : decode b_M_indexCanBe 66 = .ok (.if_icmp .gt 7, 3) := by decide +kernel
theorem d_M_indexCanBe_69 : decode b_M_indexCanBe 69 = .ok (.iconst 1, 1) := by decide +kernel
theorem d_M_indexCanBe_70 : decode b_M_indexCanBe 70 = .ok (.goto 4, 3) := by decide +kernel
theorem d_M_indexCanBe_73 : decode b_M_indexCanBe 73 = .ok (.iconst 0, 1) := by decide +kernel
theorem d_M_indexCanBe_74 : decode b_M_indexCanBe 74 = .ok (.ireturn, 1) := by decide +kernel
theorem d_M_indexCanBe_75 : decode b_M_indexCanBe 75 = .ok (.aload_n 0, 1) := by decide +kernel
theorem d_M_indexCanBe_76 : decode b_M_indexCanBe 76 = .ok (.invokevirtual 119, 3) := by decide +kernel
theorem d_M_indexCanBe_79 : decode b_M_indexCanBe 79 = .ok (.invokestatic 122, 3) := by decide +kernel
theorem d_M_indexCanBe_82 : decode b_M_indexCanBe 82 = .ok (.sipush 4095, 3) := by decide +kernel
theorem d_M_indexCanBe_85 : decode b_M_indexCanBe 85 = .ok (.if_icmp .gt 7, 3) := by decide +kernel
theorem d_M_indexCanBe_88 : decode b_M_indexCanBe 88 = .ok (.iconst 1, 1) := by decide +kernel
theorem d_M_indexCanBe_89 : decode b_M_indexCanBe 89 = .ok (.goto 4, 3) := by decide +kernel
theorem d_M_indexCanBe_92 : decode b_M_indexCanBe 92 = .ok (.iconst 0, 1) := by decide +kernel
theorem d_M_indexCanBe_93 : decode b_M_indexCanBe 93 = .ok (.ireturn, 1) := by decide +kernel
theorem d_M_indexCanBe_94 : decode b_M_indexCanBe 94 = .ok (.iconst 1, 1) := by decide +kernel
theorem d_M_indexCanBe_95 : decode b_M_indexCanBe 95 = .ok (.ireturn, 1) := by decide +kernel
abbrev b_M_value : ByteArray := prog_3_method_22_code
abbrev y_M_value : MethodName := ⟨"SignMachine$Machine", "value", "()I"⟩
theorem h_M_value : (y_M_value).cls ≠ "java/lang/invoke/MethodHandle" ∧ (y_M_value).cls ≠ "java/lang/invoke/VarHandle" ∧ (parseMethodDescriptor (y_M_value).desc).map (fun d => d.parameters.length) = some 0 := by decide +kernel
theorem d_M_value_0 : decode b_M_value 0 = .ok (.aload_n 0, 1) := by decide +kernel
theorem d_M_value_1 : decode b_M_value 1 = .ok (.aload_n 0, 1) := by decide +kernel
theorem d_M_value_2 : decode b_M_value 2 = .ok (.getfield 81, 3) := by decide +kernel
theorem d_M_value_5 : decode b_M_value 5 = .ok (.invokevirtual 39, 3) := by decide +kernel
theorem d_M_value_8 : decode b_M_value 8 = .ok (.aload_n 0, 1) := by decide +kernel
theorem d_M_value_9 : decode b_M_value 9 = .ok (.getfield 64, 3) := by decide +kernel
theorem d_M_value_12 : decode b_M_value 12 = .ok (.invokestatic 134, 3) := by decide +kernel
theorem d_M_value_15 : decode b_M_value 15 = .ok (.ireturn, 1) := by decide +kernel
abbrev b_W_bitsBehind : ByteArray := prog_9_method_11_code
abbrev y_W_bitsBehind : MethodName := ⟨"SignMachine$Word", "bitsBehind", "(I)I"⟩
theorem h_W_bitsBehind : (y_W_bitsBehind).cls ≠ "java/lang/invoke/MethodHandle" ∧ (y_W_bitsBehind).cls ≠ "java/lang/invoke/VarHandle" ∧ (parseMethodDescriptor (y_W_bitsBehind).desc).map (fun d => d.parameters.length) = some 1 := by decide +kernel
theorem d_W_bitsBehind_0 : decode b_W_bitsBehind 0 = .ok (.bipush 6, 2) := by decide +kernel
theorem d_W_bitsBehind_2 : decode b_W_bitsBehind 2 = .ok (.iconst 5, 1) := by decide +kernel
theorem d_W_bitsBehind_3 : decode b_W_bitsBehind 3 = .ok (.iload_n 0, 1) := by decide +kernel
theorem d_W_bitsBehind_4 : decode b_W_bitsBehind 4 = .ok (.bipush 7, 2) := by decide +kernel
theorem d_W_bitsBehind_6 : decode b_W_bitsBehind 6 = .ok (.iand, 1) := by decide +kernel
theorem d_W_bitsBehind_7 : decode b_W_bitsBehind 7 = .ok (.isub, 1) := by decide +kernel
theorem d_W_bitsBehind_8 : decode b_W_bitsBehind 8 = .ok (.imul, 1) := by decide +kernel
theorem d_W_bitsBehind_9 : decode b_W_bitsBehind 9 = .ok (.ireturn, 1) := by decide +kernel
abbrev b_W_maskOf : ByteArray := prog_9_method_10_code
abbrev y_W_maskOf : MethodName := ⟨"SignMachine$Word", "maskOf", "(I)I"⟩
theorem h_W_maskOf : (y_W_maskOf).cls ≠ "java/lang/invoke/MethodHandle" ∧ (y_W_maskOf).cls ≠ "java/lang/invoke/VarHandle" ∧ (parseMethodDescriptor (y_W_maskOf).desc).map (fun d => d.parameters.length) = some 1 := by decide +kernel
theorem d_W_maskOf_0 : decode b_W_maskOf 0 = .ok (.iload_n 0, 1) := by decide +kernel
theorem d_W_maskOf_1 : decode b_W_maskOf 1 = .ok (.iconst 3, 1) := by decide +kernel
theorem d_W_maskOf_2 : decode b_W_maskOf 2 = .ok (.ishr, 1) := by decide +kernel
theorem d_W_maskOf_3 : decode b_W_maskOf 3 = .ok (.istore_n 1, 1) := by decide +kernel
theorem d_W_maskOf_4 : decode b_W_maskOf 4 = .ok (.iload_n 0, 1) := by decide +kernel
theorem d_W_maskOf_5 : decode b_W_maskOf 5 = .ok (.bipush 7, 2) := by decide +kernel
theorem d_W_maskOf_7 : decode b_W_maskOf 7 = .ok (.iand, 1) := by decide +kernel
theorem d_W_maskOf_8 : decode b_W_maskOf 8 = .ok (.istore_n 2, 1) := by decide +kernel
theorem d_W_maskOf_9 : decode b_W_maskOf 9 = .ok (.iload_n 1, 1) := by decide +kernel
theorem d_W_maskOf_10 : decode b_W_maskOf 10 = .ok (.ifCond .ne 7, 3) := by decide +kernel
theorem d_W_maskOf_13 : decode b_W_maskOf 13 = .ok (.iload_n 2, 1) := by decide +kernel
theorem d_W_maskOf_14 : decode b_W_maskOf 14 = .ok (.goto 8, 3) := by decide +kernel
theorem d_W_maskOf_17 : decode b_W_maskOf 17 = .ok (.iload_n 2, 1) := by decide +kernel
theorem d_W_maskOf_18 : decode b_W_maskOf 18 = .ok (.iload_n 1, 1) := by decide +kernel
theorem d_W_maskOf_19 : decode b_W_maskOf 19 = .ok (.isub, 1) := by decide +kernel
theorem d_W_maskOf_20 : decode b_W_maskOf 20 = .ok (.iconst 1, 1) := by decide +kernel
theorem d_W_maskOf_21 : decode b_W_maskOf 21 = .ok (.iadd, 1) := by decide +kernel
theorem d_W_maskOf_22 : decode b_W_maskOf 22 = .ok (.istore_n 3, 1) := by decide +kernel
theorem d_W_maskOf_23 : decode b_W_maskOf 23 = .ok (.iconst 1, 1) := by decide +kernel
theorem d_W_maskOf_24 : decode b_W_maskOf 24 = .ok (.bipush 6, 2) := by decide +kernel
theorem d_W_maskOf_26 : decode b_W_maskOf 26 = .ok (.iload_n 3, 1) := by decide +kernel
theorem d_W_maskOf_27 : decode b_W_maskOf 27 = .ok (.imul, 1) := by decide +kernel
theorem d_W_maskOf_28 : decode b_W_maskOf 28 = .ok (.ishl, 1) := by decide +kernel
theorem d_W_maskOf_29 : decode b_W_maskOf 29 = .ok (.iconst 1, 1) := by decide +kernel
theorem d_W_maskOf_30 : decode b_W_maskOf 30 = .ok (.isub, 1) := by decide +kernel
theorem d_W_maskOf_31 : decode b_W_maskOf 31 = .ok (.ireturn, 1) := by decide +kernel
abbrev b_W_field : ByteArray := prog_9_method_12_code
abbrev y_W_field : MethodName := ⟨"SignMachine$Word", "field", "(II)I"⟩
theorem h_W_field : (y_W_field).cls ≠ "java/lang/invoke/MethodHandle" ∧ (y_W_field).cls ≠ "java/lang/invoke/VarHandle" ∧ (parseMethodDescriptor (y_W_field).desc).map (fun d => d.parameters.length) = some 2 := by decide +kernel
theorem d_W_field_0 : decode b_W_field 0 = .ok (.iload_n 0, 1) := by decide +kernel
theorem d_W_field_1 : decode b_W_field 1 = .ok (.invokestatic 15, 3) := by decide +kernel
theorem d_W_field_4 : decode b_W_field 4 = .ok (.iload_n 1, 1) := by decide +kernel
theorem d_W_field_5 : decode b_W_field 5 = .ok (.invokestatic 19, 3) := by decide +kernel
theorem d_W_field_8 : decode b_W_field 8 = .ok (.ishr, 1) := by decide +kernel
theorem d_W_field_9 : decode b_W_field 9 = .ok (.iload_n 1, 1) := by decide +kernel
theorem d_W_field_10 : decode b_W_field 10 = .ok (.invokestatic 22, 3) := by decide +kernel
theorem d_W_field_13 : decode b_W_field 13 = .ok (.iand, 1) := by decide +kernel
theorem d_W_field_14 : decode b_W_field 14 = .ok (.istore_n 2, 1) := by decide +kernel
theorem d_W_field_15 : decode b_W_field 15 = .ok (.iload_n 1, 1) := by decide +kernel
theorem d_W_field_16 : decode b_W_field 16 = .ok (.iconst 3, 1) := by decide +kernel
theorem d_W_field_17 : decode b_W_field 17 = .ok (.ishr, 1) := by decide +kernel
theorem d_W_field_18 : decode b_W_field 18 = .ok (.ifCond .ne 14, 3) := by decide +kernel
theorem d_W_field_21 : decode b_W_field 21 = .ok (.iload_n 0, 1) := by decide +kernel
theorem d_W_field_22 : decode b_W_field 22 = .ok (.invokestatic 25, 3) := by decide +kernel
theorem d_W_field_25 : decode b_W_field 25 = .ok (.iload_n 2, 1) := by decide +kernel
theorem d_W_field_26 : decode b_W_field 26 = .ok (.invokestatic 11, 3) := by decide +kernel
theorem d_W_field_29 : decode b_W_field 29 = .ok (.goto 4, 3) := by decide +kernel
theorem d_W_field_32 : decode b_W_field 32 = .ok (.iload_n 2, 1) := by decide +kernel
theorem d_W_field_33 : decode b_W_field 33 = .ok (.ireturn, 1) := by decide +kernel
abbrev b_M_numberByAddress : ByteArray := prog_3_method_43_code
abbrev y_M_numberByAddress : MethodName := ⟨"SignMachine$Machine", "numberByAddress", "()I"⟩
theorem h_M_numberByAddress : (y_M_numberByAddress).cls ≠ "java/lang/invoke/MethodHandle" ∧ (y_M_numberByAddress).cls ≠ "java/lang/invoke/VarHandle" ∧ (parseMethodDescriptor (y_M_numberByAddress).desc).map (fun d => d.parameters.length) = some 0 := by decide +kernel
theorem d_M_numberByAddress_0 : decode b_M_numberByAddress 0 = .ok (.aload_n 0, 1) := by decide +kernel
theorem d_M_numberByAddress_1 : decode b_M_numberByAddress 1 = .ok (.aload_n 0, 1) := by decide +kernel
theorem d_M_numberByAddress_2 : decode b_M_numberByAddress 2 = .ok (.getfield 61, 3) := by decide +kernel
theorem d_M_numberByAddress_5 : decode b_M_numberByAddress 5 = .ok (.bipush 7, 2) := by decide +kernel
theorem d_M_numberByAddress_7 : decode b_M_numberByAddress 7 = .ok (.iand, 1) := by decide +kernel
theorem d_M_numberByAddress_8 : decode b_M_numberByAddress 8 = .ok (.invokevirtual 84, 3) := by decide +kernel
theorem d_M_numberByAddress_11 : decode b_M_numberByAddress 11 = .ok (.invokestatic 87, 3) := by decide +kernel
theorem d_M_numberByAddress_14 : decode b_M_numberByAddress 14 = .ok (.istore_n 1, 1) := by decide +kernel
theorem d_M_numberByAddress_15 : decode b_M_numberByAddress 15 = .ok (.aload_n 0, 1) := by decide +kernel
theorem d_M_numberByAddress_16 : decode b_M_numberByAddress 16 = .ok (.getfield 64, 3) := by decide +kernel
theorem d_M_numberByAddress_19 : decode b_M_numberByAddress 19 = .ok (.tableswitch 44 0 2 #[25, 32, 39], 25) := by decide +kernel
theorem d_M_numberByAddress_44 : decode b_M_numberByAddress 44 = .ok (.iload_n 1, 1) := by decide +kernel
theorem d_M_numberByAddress_45 : decode b_M_numberByAddress 45 = .ok (.aload_n 0, 1) := by decide +kernel
theorem d_M_numberByAddress_46 : decode b_M_numberByAddress 46 = .ok (.getfield 81, 3) := by decide +kernel
theorem d_M_numberByAddress_49 : decode b_M_numberByAddress 49 = .ok (.iadd, 1) := by decide +kernel
theorem d_M_numberByAddress_50 : decode b_M_numberByAddress 50 = .ok (.ireturn, 1) := by decide +kernel
theorem d_M_numberByAddress_51 : decode b_M_numberByAddress 51 = .ok (.iload_n 1, 1) := by decide +kernel
theorem d_M_numberByAddress_52 : decode b_M_numberByAddress 52 = .ok (.aload_n 0, 1) := by decide +kernel
theorem d_M_numberByAddress_53 : decode b_M_numberByAddress 53 = .ok (.getfield 81, 3) := by decide +kernel
theorem d_M_numberByAddress_56 : decode b_M_numberByAddress 56 = .ok (.isub, 1) := by decide +kernel
theorem d_M_numberByAddress_57 : decode b_M_numberByAddress 57 = .ok (.ireturn, 1) := by decide +kernel
theorem d_M_numberByAddress_58 : decode b_M_numberByAddress 58 = .ok (.aload_n 0, 1) := by decide +kernel
theorem d_M_numberByAddress_59 : decode b_M_numberByAddress 59 = .ok (.getfield 81, 3) := by decide +kernel
theorem d_M_numberByAddress_62 : decode b_M_numberByAddress 62 = .ok (.ireturn, 1) := by decide +kernel
theorem d_M_numberByAddress_63 : decode b_M_numberByAddress 63 = .ok (.aload_n 0, 1) := by decide +kernel
theorem d_M_numberByAddress_64 : decode b_M_numberByAddress 64 = .ok (.getfield 81, 3) := by decide +kernel
theorem d_M_numberByAddress_67 : decode b_M_numberByAddress 67 = .ok (.ineg, 1) := by decide +kernel
theorem d_M_numberByAddress_68 : decode b_M_numberByAddress 68 = .ok (.ireturn, 1) := by decide +kernel
abbrev b_M_blockCanBe : ByteArray := prog_3_method_20_code
abbrev y_M_blockCanBe : MethodName := ⟨"SignMachine$Machine", "blockCanBe", "()Z"⟩
theorem h_M_blockCanBe : (y_M_blockCanBe).cls ≠ "java/lang/invoke/MethodHandle" ∧ (y_M_blockCanBe).cls ≠ "java/lang/invoke/VarHandle" ∧ (parseMethodDescriptor (y_M_blockCanBe).desc).map (fun d => d.parameters.length) = some 0 := by decide +kernel
theorem d_M_blockCanBe_0 : decode b_M_blockCanBe 0 = .ok (.aload_n 0, 1) := by decide +kernel
theorem d_M_blockCanBe_1 : decode b_M_blockCanBe 1 = .ok (.getfield 61, 3) := by decide +kernel
theorem d_M_blockCanBe_4 : decode b_M_blockCanBe 4 = .ok (.bipush 35, 2) := by decide +kernel
theorem d_M_blockCanBe_6 : decode b_M_blockCanBe 6 = .ok (.if_icmp .lt 12, 3) := by decide +kernel
theorem d_M_blockCanBe_9 : decode b_M_blockCanBe 9 = .ok (.aload_n 0, 1) := by decide +kernel
theorem d_M_blockCanBe_10 : decode b_M_blockCanBe 10 = .ok (.getfield 61, 3) := by decide +kernel
theorem d_M_blockCanBe_13 : decode b_M_blockCanBe 13 = .ok (.bipush 37, 2) := by decide +kernel
theorem d_M_blockCanBe_15 : decode b_M_blockCanBe 15 = .ok (.if_icmp .le 5, 3) := by decide +kernel
theorem d_M_blockCanBe_18 : decode b_M_blockCanBe 18 = .ok (.iconst 1, 1) := by decide +kernel
theorem d_M_blockCanBe_19 : decode b_M_blockCanBe 19 = .ok (.ireturn, 1) := by decide +kernel
theorem d_M_blockCanBe_20 : decode b_M_blockCanBe 20 = .ok (.aload_n 0, 1) := by decide +kernel
theorem d_M_blockCanBe_21 : decode b_M_blockCanBe 21 = .ok (.aload_n 0, 1) := by decide +kernel
theorem d_M_blockCanBe_22 : decode b_M_blockCanBe 22 = .ok (.getfield 64, 3) := by decide +kernel
theorem d_M_blockCanBe_25 : decode b_M_blockCanBe 25 = .ok (.invokevirtual 127, 3) := by decide +kernel
theorem d_M_blockCanBe_28 : decode b_M_blockCanBe 28 = .ok (.getfield 131, 3) := by decide +kernel
theorem d_M_blockCanBe_31 : decode b_M_blockCanBe 31 = .ok (.istore_n 1, 1) := by decide +kernel
theorem d_M_blockCanBe_32 : decode b_M_blockCanBe 32 = .ok (.aload_n 0, 1) := by decide +kernel
theorem d_M_blockCanBe_33 : decode b_M_blockCanBe 33 = .ok (.getfield 61, 3) := by decide +kernel
theorem d_M_blockCanBe_36 : decode b_M_blockCanBe 36 = .ok (.bipush 35, 2) := by decide +kernel
theorem d_M_blockCanBe_38 : decode b_M_blockCanBe 38 = .ok (.if_icmp .eq 15, 3) := by decide +kernel
theorem d_M_blockCanBe_41 : decode b_M_blockCanBe 41 = .ok (.iload_n 1, 1) := by decide +kernel
theorem d_M_blockCanBe_42 : decode b_M_blockCanBe 42 = .ok (.bipush 40, 2) := by decide +kernel
theorem d_M_blockCanBe_44 : decode b_M_blockCanBe 44 = .ok (.if_icmp .ge 7, 3) := by decide +kernel
theorem d_M_blockCanBe_47 : decode b_M_blockCanBe 47 = .ok (.iconst 1, 1) := by decide +kernel
theorem d_M_blockCanBe_48 : decode b_M_blockCanBe 48 = .ok (.goto 4, 3) := by decide +kernel
theorem d_M_blockCanBe_51 : decode b_M_blockCanBe 51 = .ok (.iconst 0, 1) := by decide +kernel
theorem d_M_blockCanBe_52 : decode b_M_blockCanBe 52 = .ok (.ireturn, 1) := by decide +kernel
theorem d_M_blockCanBe_53 : decode b_M_blockCanBe 53 = .ok (.aload_n 0, 1) := by decide +kernel
theorem d_M_blockCanBe_54 : decode b_M_blockCanBe 54 = .ok (.getfield 81, 3) := by decide +kernel
theorem d_M_blockCanBe_57 : decode b_M_blockCanBe 57 = .ok (.ifCond .eq 23, 3) := by decide +kernel
theorem d_M_blockCanBe_60 : decode b_M_blockCanBe 60 = .ok (.iload_n 1, 1) := by decide +kernel
theorem d_M_blockCanBe_61 : decode b_M_blockCanBe 61 = .ok (.aload_n 0, 1) := by decide +kernel
theorem d_M_blockCanBe_62 : decode b_M_blockCanBe 62 = .ok (.getfield 81, 3) := by decide +kernel
theorem d_M_blockCanBe_65 : decode b_M_blockCanBe 65 = .ok (.iadd, 1) := by decide +kernel
theorem d_M_blockCanBe_66 : decode b_M_blockCanBe 66 = .ok (.ifCond .lt 18, 3) := by decide +kernel
theorem d_M_blockCanBe_69 : decode b_M_blockCanBe 69 = .ok (.iload_n 1, 1) := by decide +kernel
theorem d_M_blockCanBe_70 : decode b_M_blockCanBe 70 = .ok (.aload_n 0, 1) := by decide +kernel
theorem d_M_blockCanBe_71 : decode b_M_blockCanBe 71 = .ok (.getfield 81, 3) := by decide +kernel
theorem d_M_blockCanBe_74 : decode b_M_blockCanBe 74 = .ok (.iadd, 1) := by decide +kernel
theorem d_M_blockCanBe_75 : decode b_M_blockCanBe 75 = .ok (.bipush 40, 2) := by decide +kernel
theorem d_M_blockCanBe_77 : decode b_M_blockCanBe 77 = .ok (.if_icmp .gt 7, 3) := by decide +kernel
theorem d_M_blockCanBe_80 : decode b_M_blockCanBe 80 = .ok (.iconst 1, 1) := by decide +kernel
theorem d_M_blockCanBe_81 : decode b_M_blockCanBe 81 = .ok (.goto 4, 3) := by decide +kernel
theorem d_M_blockCanBe_84 : decode b_M_blockCanBe 84 = .ok (.iconst 0, 1) := by decide +kernel
theorem d_M_blockCanBe_85 : decode b_M_blockCanBe 85 = .ok (.ireturn, 1) := by decide +kernel
abbrev b_M_duration : ByteArray := prog_3_method_21_code
abbrev y_M_duration : MethodName := ⟨"SignMachine$Machine", "duration", "()I"⟩
theorem h_M_duration : (y_M_duration).cls ≠ "java/lang/invoke/MethodHandle" ∧ (y_M_duration).cls ≠ "java/lang/invoke/VarHandle" ∧ (parseMethodDescriptor (y_M_duration).desc).map (fun d => d.parameters.length) = some 0 := by decide +kernel
theorem d_M_duration_0 : decode b_M_duration 0 = .ok (.aload_n 0, 1) := by decide +kernel
theorem d_M_duration_1 : decode b_M_duration 1 = .ok (.invokevirtual 103, 3) := by decide +kernel
theorem d_M_duration_4 : decode b_M_duration 4 = .ok (.ifCond .eq 31, 3) := by decide +kernel
theorem d_M_duration_7 : decode b_M_duration 7 = .ok (.aload_n 0, 1) := by decide +kernel
theorem d_M_duration_8 : decode b_M_duration 8 = .ok (.getfield 61, 3) := by decide +kernel
theorem d_M_duration_11 : decode b_M_duration 11 = .ok (.iconst 3, 1) := by decide +kernel
theorem d_M_duration_12 : decode b_M_duration 12 = .ok (.if_icmp .ne 8, 3) := by decide +kernel
theorem d_M_duration_15 : decode b_M_duration 15 = .ok (.bipush 10, 2) := by decide +kernel
theorem d_M_duration_17 : decode b_M_duration 17 = .ok (.goto 17, 3) := by decide +kernel
theorem d_M_duration_20 : decode b_M_duration 20 = .ok (.aload_n 0, 1) := by decide +kernel
theorem d_M_duration_21 : decode b_M_duration 21 = .ok (.getfield 61, 3) := by decide +kernel
theorem d_M_duration_24 : decode b_M_duration 24 = .ok (.iconst 4, 1) := by decide +kernel
theorem d_M_duration_25 : decode b_M_duration 25 = .ok (.if_icmp .ne 8, 3) := by decide +kernel
theorem d_M_duration_28 : decode b_M_duration 28 = .ok (.bipush 12, 2) := by decide +kernel
theorem d_M_duration_30 : decode b_M_duration 30 = .ok (.goto 4, 3) := by decide +kernel
theorem d_M_duration_33 : decode b_M_duration 33 = .ok (.iconst 2, 1) := by decide +kernel
theorem d_M_duration_34 : decode b_M_duration 34 = .ok (.ireturn, 1) := by decide +kernel
theorem d_M_duration_35 : decode b_M_duration 35 = .ok (.aload_n 0, 1) := by decide +kernel
theorem d_M_duration_36 : decode b_M_duration 36 = .ok (.getfield 61, 3) := by decide +kernel
theorem d_M_duration_39 : decode b_M_duration 39 = .ok (.tableswitch 39 5 7 #[25, 28, 30], 25) := by decide +kernel
theorem d_M_duration_64 : decode b_M_duration 64 = .ok (.bipush 10, 2) := by decide +kernel
theorem d_M_duration_66 : decode b_M_duration 66 = .ok (.ireturn, 1) := by decide +kernel
theorem d_M_duration_67 : decode b_M_duration 67 = .ok (.iconst 2, 1) := by decide +kernel
theorem d_M_duration_68 : decode b_M_duration 68 = .ok (.ireturn, 1) := by decide +kernel
theorem d_M_duration_69 : decode b_M_duration 69 = .ok (.iconst 1, 1) := by decide +kernel
theorem d_M_duration_70 : decode b_M_duration 70 = .ok (.iconst 2, 1) := by decide +kernel
theorem d_M_duration_71 : decode b_M_duration 71 = .ok (.aload_n 0, 1) := by decide +kernel
theorem d_M_duration_72 : decode b_M_duration 72 = .ok (.getfield 64, 3) := by decide +kernel
theorem d_M_duration_75 : decode b_M_duration 75 = .ok (.imul, 1) := by decide +kernel
theorem d_M_duration_76 : decode b_M_duration 76 = .ok (.iadd, 1) := by decide +kernel
theorem d_M_duration_77 : decode b_M_duration 77 = .ok (.ireturn, 1) := by decide +kernel
theorem d_M_duration_78 : decode b_M_duration 78 = .ok (.iconst 1, 1) := by decide +kernel
theorem d_M_duration_79 : decode b_M_duration 79 = .ok (.ireturn, 1) := by decide +kernel
abbrev b_M_perform : ByteArray := prog_3_method_23_code
abbrev y_M_perform : MethodName := ⟨"SignMachine$Machine", "perform", "()V"⟩
theorem h_M_perform : (y_M_perform).cls ≠ "java/lang/invoke/MethodHandle" ∧ (y_M_perform).cls ≠ "java/lang/invoke/VarHandle" ∧ (parseMethodDescriptor (y_M_perform).desc).map (fun d => d.parameters.length) = some 0 := by decide +kernel
theorem d_M_perform_0 : decode b_M_perform 0 = .ok (.aload_n 0, 1) := by decide +kernel
theorem d_M_perform_1 : decode b_M_perform 1 = .ok (.getfield 61, 3) := by decide +kernel
theorem d_M_perform_4 : decode b_M_perform 4 = .ok (.iconst 3, 1) := by decide +kernel
theorem d_M_perform_5 : decode b_M_perform 5 = .ok (.ishr, 1) := by decide +kernel
theorem d_M_perform_6 : decode b_M_perform 6 = .ok (.tableswitch 152 0 6 #[42, 49, 67, 88, 106, 113, 138], 42) := by decide +kernel
theorem d_M_perform_48 : decode b_M_perform 48 = .ok (.aload_n 0, 1) := by decide +kernel
theorem d_M_perform_49 : decode b_M_perform 49 = .ok (.invokevirtual 137, 3) := by decide +kernel
theorem d_M_perform_52 : decode b_M_perform 52 = .ok (.goto 121, 3) := by decide +kernel
theorem d_M_perform_55 : decode b_M_perform 55 = .ok (.aload_n 0, 1) := by decide +kernel
theorem d_M_perform_56 : decode b_M_perform 56 = .ok (.aload_n 0, 1) := by decide +kernel
theorem d_M_perform_57 : decode b_M_perform 57 = .ok (.getfield 61, 3) := by decide +kernel
theorem d_M_perform_60 : decode b_M_perform 60 = .ok (.bipush 7, 2) := by decide +kernel
theorem d_M_perform_62 : decode b_M_perform 62 = .ok (.iand, 1) := by decide +kernel
theorem d_M_perform_63 : decode b_M_perform 63 = .ok (.aload_n 0, 1) := by decide +kernel
theorem d_M_perform_64 : decode b_M_perform 64 = .ok (.invokevirtual 116, 3) := by decide +kernel
theorem d_M_perform_67 : decode b_M_perform 67 = .ok (.invokevirtual 140, 3) := by decide +kernel
theorem d_M_perform_70 : decode b_M_perform 70 = .ok (.goto 103, 3) := by decide +kernel
theorem d_M_perform_73 : decode b_M_perform 73 = .ok (.aload_n 0, 1) := by decide +kernel
theorem d_M_perform_74 : decode b_M_perform 74 = .ok (.aload_n 0, 1) := by decide +kernel
theorem d_M_perform_75 : decode b_M_perform 75 = .ok (.getfield 61, 3) := by decide +kernel
theorem d_M_perform_78 : decode b_M_perform 78 = .ok (.bipush 7, 2) := by decide +kernel
theorem d_M_perform_80 : decode b_M_perform 80 = .ok (.iand, 1) := by decide +kernel
theorem d_M_perform_81 : decode b_M_perform 81 = .ok (.aload_n 0, 1) := by decide +kernel
theorem d_M_perform_82 : decode b_M_perform 82 = .ok (.invokevirtual 116, 3) := by decide +kernel
theorem d_M_perform_85 : decode b_M_perform 85 = .ok (.invokestatic 144, 3) := by decide +kernel
theorem d_M_perform_88 : decode b_M_perform 88 = .ok (.invokevirtual 140, 3) := by decide +kernel
theorem d_M_perform_91 : decode b_M_perform 91 = .ok (.goto 82, 3) := by decide +kernel
theorem d_M_perform_94 : decode b_M_perform 94 = .ok (.aload_n 0, 1) := by decide +kernel
theorem d_M_perform_95 : decode b_M_perform 95 = .ok (.aload_n 0, 1) := by decide +kernel
theorem d_M_perform_96 : decode b_M_perform 96 = .ok (.aload_n 0, 1) := by decide +kernel
theorem d_M_perform_97 : decode b_M_perform 97 = .ok (.getfield 61, 3) := by decide +kernel
theorem d_M_perform_100 : decode b_M_perform 100 = .ok (.bipush 7, 2) := by decide +kernel
theorem d_M_perform_102 : decode b_M_perform 102 = .ok (.iand, 1) := by decide +kernel
theorem d_M_perform_103 : decode b_M_perform 103 = .ok (.invokevirtual 84, 3) := by decide +kernel
theorem d_M_perform_106 : decode b_M_perform 106 = .ok (.invokevirtual 147, 3) := by decide +kernel
theorem d_M_perform_109 : decode b_M_perform 109 = .ok (.goto 64, 3) := by decide +kernel
theorem d_M_perform_112 : decode b_M_perform 112 = .ok (.aload_n 0, 1) := by decide +kernel
theorem d_M_perform_113 : decode b_M_perform 113 = .ok (.invokevirtual 150, 3) := by decide +kernel
theorem d_M_perform_116 : decode b_M_perform 116 = .ok (.goto 57, 3) := by decide +kernel
theorem d_M_perform_119 : decode b_M_perform 119 = .ok (.aload_n 0, 1) := by decide +kernel
theorem d_M_perform_120 : decode b_M_perform 120 = .ok (.aload_n 0, 1) := by decide +kernel
theorem d_M_perform_121 : decode b_M_perform 121 = .ok (.aload_n 0, 1) := by decide +kernel
theorem d_M_perform_122 : decode b_M_perform 122 = .ok (.aload_n 0, 1) := by decide +kernel
theorem d_M_perform_123 : decode b_M_perform 123 = .ok (.getfield 61, 3) := by decide +kernel
theorem d_M_perform_126 : decode b_M_perform 126 = .ok (.bipush 7, 2) := by decide +kernel
theorem d_M_perform_128 : decode b_M_perform 128 = .ok (.iand, 1) := by decide +kernel
theorem d_M_perform_129 : decode b_M_perform 129 = .ok (.invokevirtual 84, 3) := by decide +kernel
theorem d_M_perform_132 : decode b_M_perform 132 = .ok (.invokestatic 87, 3) := by decide +kernel
theorem d_M_perform_135 : decode b_M_perform 135 = .ok (.invokevirtual 153, 3) := by decide +kernel
theorem d_M_perform_138 : decode b_M_perform 138 = .ok (.invokevirtual 156, 3) := by decide +kernel
theorem d_M_perform_141 : decode b_M_perform 141 = .ok (.goto 32, 3) := by decide +kernel
theorem d_M_perform_144 : decode b_M_perform 144 = .ok (.aload_n 0, 1) := by decide +kernel
theorem d_M_perform_145 : decode b_M_perform 145 = .ok (.aload_n 0, 1) := by decide +kernel
theorem d_M_perform_146 : decode b_M_perform 146 = .ok (.getfield 61, 3) := by decide +kernel
theorem d_M_perform_149 : decode b_M_perform 149 = .ok (.bipush 7, 2) := by decide +kernel
theorem d_M_perform_151 : decode b_M_perform 151 = .ok (.iand, 1) := by decide +kernel
theorem d_M_perform_152 : decode b_M_perform 152 = .ok (.invokevirtual 160, 3) := by decide +kernel
theorem d_M_perform_155 : decode b_M_perform 155 = .ok (.goto 18, 3) := by decide +kernel
theorem d_M_perform_158 : decode b_M_perform 158 = .ok (.aload_n 0, 1) := by decide +kernel
theorem d_M_perform_159 : decode b_M_perform 159 = .ok (.aload_n 0, 1) := by decide +kernel
theorem d_M_perform_160 : decode b_M_perform 160 = .ok (.aload_n 0, 1) := by decide +kernel
theorem d_M_perform_161 : decode b_M_perform 161 = .ok (.getfield 61, 3) := by decide +kernel
theorem d_M_perform_164 : decode b_M_perform 164 = .ok (.bipush 7, 2) := by decide +kernel
theorem d_M_perform_166 : decode b_M_perform 166 = .ok (.iand, 1) := by decide +kernel
theorem d_M_perform_167 : decode b_M_perform 167 = .ok (.invokevirtual 84, 3) := by decide +kernel
theorem d_M_perform_170 : decode b_M_perform 170 = .ok (.invokevirtual 163, 3) := by decide +kernel
theorem d_M_perform_173 : decode b_M_perform 173 = .ok (.return_, 1) := by decide +kernel
abbrev b_M_performMiddle : ByteArray := prog_3_method_25_code
abbrev y_M_performMiddle : MethodName := ⟨"SignMachine$Machine", "performMiddle", "()V"⟩
theorem h_M_performMiddle : (y_M_performMiddle).cls ≠ "java/lang/invoke/MethodHandle" ∧ (y_M_performMiddle).cls ≠ "java/lang/invoke/VarHandle" ∧ (parseMethodDescriptor (y_M_performMiddle).desc).map (fun d => d.parameters.length) = some 0 := by decide +kernel
theorem d_M_performMiddle_0 : decode b_M_performMiddle 0 = .ok (.aload_n 0, 1) := by decide +kernel
theorem d_M_performMiddle_1 : decode b_M_performMiddle 1 = .ok (.getfield 61, 3) := by decide +kernel
theorem d_M_performMiddle_4 : decode b_M_performMiddle 4 = .ok (.tableswitch 105 32 39 #[48, 61, 105, 69, 76, 83, 90, 98], 48) := by decide +kernel
theorem d_M_performMiddle_52 : decode b_M_performMiddle 52 = .ok (.aload_n 0, 1) := by decide +kernel
theorem d_M_performMiddle_53 : decode b_M_performMiddle 53 = .ok (.aload_n 0, 1) := by decide +kernel
theorem d_M_performMiddle_54 : decode b_M_performMiddle 54 = .ok (.bipush 8, 2) := by decide +kernel
theorem d_M_performMiddle_56 : decode b_M_performMiddle 56 = .ok (.invokevirtual 84, 3) := by decide +kernel
theorem d_M_performMiddle_59 : decode b_M_performMiddle 59 = .ok (.invokevirtual 147, 3) := by decide +kernel
theorem d_M_performMiddle_62 : decode b_M_performMiddle 62 = .ok (.goto 47, 3) := by decide +kernel
theorem d_M_performMiddle_65 : decode b_M_performMiddle 65 = .ok (.aload_n 0, 1) := by decide +kernel
theorem d_M_performMiddle_66 : decode b_M_performMiddle 66 = .ok (.iconst 0, 1) := by decide +kernel
theorem d_M_performMiddle_67 : decode b_M_performMiddle 67 = .ok (.invokevirtual 147, 3) := by decide +kernel
theorem d_M_performMiddle_70 : decode b_M_performMiddle 70 = .ok (.goto 39, 3) := by decide +kernel
theorem d_M_performMiddle_73 : decode b_M_performMiddle 73 = .ok (.aload_n 0, 1) := by decide +kernel
theorem d_M_performMiddle_74 : decode b_M_performMiddle 74 = .ok (.invokevirtual 184, 3) := by decide +kernel
theorem d_M_performMiddle_77 : decode b_M_performMiddle 77 = .ok (.goto 32, 3) := by decide +kernel
theorem d_M_performMiddle_80 : decode b_M_performMiddle 80 = .ok (.aload_n 0, 1) := by decide +kernel
theorem d_M_performMiddle_81 : decode b_M_performMiddle 81 = .ok (.invokevirtual 187, 3) := by decide +kernel
theorem d_M_performMiddle_84 : decode b_M_performMiddle 84 = .ok (.goto 25, 3) := by decide +kernel
theorem d_M_performMiddle_87 : decode b_M_performMiddle 87 = .ok (.aload_n 0, 1) := by decide +kernel
theorem d_M_performMiddle_88 : decode b_M_performMiddle 88 = .ok (.invokevirtual 190, 3) := by decide +kernel
theorem d_M_performMiddle_91 : decode b_M_performMiddle 91 = .ok (.goto 18, 3) := by decide +kernel
theorem d_M_performMiddle_94 : decode b_M_performMiddle 94 = .ok (.aload_n 0, 1) := by decide +kernel
theorem d_M_performMiddle_95 : decode b_M_performMiddle 95 = .ok (.iconst 1, 1) := by decide +kernel
theorem d_M_performMiddle_96 : decode b_M_performMiddle 96 = .ok (.invokevirtual 156, 3) := by decide +kernel
theorem d_M_performMiddle_99 : decode b_M_performMiddle 99 = .ok (.goto 10, 3) := by decide +kernel
theorem d_M_performMiddle_102 : decode b_M_performMiddle 102 = .ok (.aload_n 0, 1) := by decide +kernel
theorem d_M_performMiddle_103 : decode b_M_performMiddle 103 = .ok (.invokevirtual 193, 3) := by decide +kernel
theorem d_M_performMiddle_106 : decode b_M_performMiddle 106 = .ok (.goto 3, 3) := by decide +kernel
theorem d_M_performMiddle_109 : decode b_M_performMiddle 109 = .ok (.return_, 1) := by decide +kernel
abbrev b_M_writeBlock : ByteArray := prog_3_method_39_code
abbrev y_M_writeBlock : MethodName := ⟨"SignMachine$Machine", "writeBlock", "()V"⟩
theorem h_M_writeBlock : (y_M_writeBlock).cls ≠ "java/lang/invoke/MethodHandle" ∧ (y_M_writeBlock).cls ≠ "java/lang/invoke/VarHandle" ∧ (parseMethodDescriptor (y_M_writeBlock).desc).map (fun d => d.parameters.length) = some 0 := by decide +kernel
theorem d_M_writeBlock_0 : decode b_M_writeBlock 0 = .ok (.aload_n 0, 1) := by decide +kernel
theorem d_M_writeBlock_1 : decode b_M_writeBlock 1 = .ok (.aload_n 0, 1) := by decide +kernel
theorem d_M_writeBlock_2 : decode b_M_writeBlock 2 = .ok (.getfield 64, 3) := by decide +kernel
theorem d_M_writeBlock_5 : decode b_M_writeBlock 5 = .ok (.invokevirtual 127, 3) := by decide +kernel
theorem d_M_writeBlock_8 : decode b_M_writeBlock 8 = .ok (.astore_n 1, 1) := by decide +kernel
theorem d_M_writeBlock_9 : decode b_M_writeBlock 9 = .ok (.iconst 0, 1) := by decide +kernel
theorem d_M_writeBlock_10 : decode b_M_writeBlock 10 = .ok (.istore_n 2, 1) := by decide +kernel
theorem d_M_writeBlock_11 : decode b_M_writeBlock 11 = .ok (.iload_n 2, 1) := by decide +kernel
theorem d_M_writeBlock_12 : decode b_M_writeBlock 12 = .ok (.bipush 100, 2) := by decide +kernel
theorem d_M_writeBlock_14 : decode b_M_writeBlock 14 = .ok (.if_icmp .ge 28, 3) := by decide +kernel
theorem d_M_writeBlock_17 : decode b_M_writeBlock 17 = .ok (.aload_n 1, 1) := by decide +kernel
theorem d_M_writeBlock_18 : decode b_M_writeBlock 18 = .ok (.aload_n 1, 1) := by decide +kernel
theorem d_M_writeBlock_19 : decode b_M_writeBlock 19 = .ok (.getfield 131, 3) := by decide +kernel
theorem d_M_writeBlock_22 : decode b_M_writeBlock 22 = .ok (.iload_n 2, 1) := by decide +kernel
theorem d_M_writeBlock_23 : decode b_M_writeBlock 23 = .ok (.aload_n 0, 1) := by decide +kernel
theorem d_M_writeBlock_24 : decode b_M_writeBlock 24 = .ok (.aload_n 0, 1) := by decide +kernel
theorem d_M_writeBlock_25 : decode b_M_writeBlock 25 = .ok (.getfield 81, 3) := by decide +kernel
theorem d_M_writeBlock_28 : decode b_M_writeBlock 28 = .ok (.iload_n 2, 1) := by decide +kernel
theorem d_M_writeBlock_29 : decode b_M_writeBlock 29 = .ok (.iadd, 1) := by decide +kernel
theorem d_M_writeBlock_30 : decode b_M_writeBlock 30 = .ok (.invokevirtual 39, 3) := by decide +kernel
theorem d_M_writeBlock_33 : decode b_M_writeBlock 33 = .ok (.invokevirtual 241, 3) := by decide +kernel
theorem d_M_writeBlock_36 : decode b_M_writeBlock 36 = .ok (.iinc 2 1, 3) := by decide +kernel
theorem d_M_writeBlock_39 : decode b_M_writeBlock 39 = .ok (.goto (-28), 3) := by decide +kernel
theorem d_M_writeBlock_42 : decode b_M_writeBlock 42 = .ok (.aload_n 1, 1) := by decide +kernel
theorem d_M_writeBlock_43 : decode b_M_writeBlock 43 = .ok (.dup, 1) := by decide +kernel
theorem d_M_writeBlock_44 : decode b_M_writeBlock 44 = .ok (.getfield 131, 3) := by decide +kernel
theorem d_M_writeBlock_47 : decode b_M_writeBlock 47 = .ok (.iconst 1, 1) := by decide +kernel
theorem d_M_writeBlock_48 : decode b_M_writeBlock 48 = .ok (.iadd, 1) := by decide +kernel
theorem d_M_writeBlock_49 : decode b_M_writeBlock 49 = .ok (.putfield 131, 3) := by decide +kernel
theorem d_M_writeBlock_52 : decode b_M_writeBlock 52 = .ok (.return_, 1) := by decide +kernel
abbrev b_T_putWord : ByteArray := prog_8_method_4_code
abbrev y_T_putWord : MethodName := ⟨"SignMachine$Tape", "putWord", "(III)V"⟩
theorem h_T_putWord : (y_T_putWord).cls ≠ "java/lang/invoke/MethodHandle" ∧ (y_T_putWord).cls ≠ "java/lang/invoke/VarHandle" ∧ (parseMethodDescriptor (y_T_putWord).desc).map (fun d => d.parameters.length) = some 3 := by decide +kernel
theorem d_T_putWord_0 : decode b_T_putWord 0 = .ok (.aload_n 0, 1) := by decide +kernel
theorem d_T_putWord_1 : decode b_T_putWord 1 = .ok (.getfield 9, 3) := by decide +kernel
theorem d_T_putWord_4 : decode b_T_putWord 4 = .ok (.ifnonnull 12, 3) := by decide +kernel
theorem d_T_putWord_7 : decode b_T_putWord 7 = .ok (.aload_n 0, 1) := by decide +kernel
theorem d_T_putWord_8 : decode b_T_putWord 8 = .ok (.sipush 4000, 3) := by decide +kernel
theorem d_T_putWord_11 : decode b_T_putWord 11 = .ok (.newarray .int, 2) := by decide +kernel
theorem d_T_putWord_13 : decode b_T_putWord 13 = .ok (.putfield 9, 3) := by decide +kernel
theorem d_T_putWord_16 : decode b_T_putWord 16 = .ok (.iload_n 1, 1) := by decide +kernel
theorem d_T_putWord_17 : decode b_T_putWord 17 = .ok (.iload_n 2, 1) := by decide +kernel
theorem d_T_putWord_18 : decode b_T_putWord 18 = .ok (.invokestatic 13, 3) := by decide +kernel
theorem d_T_putWord_21 : decode b_T_putWord 21 = .ok (.ifCond .eq 15, 3) := by decide +kernel
theorem d_T_putWord_24 : decode b_T_putWord 24 = .ok (.aload_n 0, 1) := by decide +kernel
theorem d_T_putWord_25 : decode b_T_putWord 25 = .ok (.getfield 9, 3) := by decide +kernel
theorem d_T_putWord_28 : decode b_T_putWord 28 = .ok (.iload_n 1, 1) := by decide +kernel
theorem d_T_putWord_29 : decode b_T_putWord 29 = .ok (.bipush 100, 2) := by decide +kernel
theorem d_T_putWord_31 : decode b_T_putWord 31 = .ok (.imul, 1) := by decide +kernel
theorem d_T_putWord_32 : decode b_T_putWord 32 = .ok (.iload_n 2, 1) := by decide +kernel
theorem d_T_putWord_33 : decode b_T_putWord 33 = .ok (.iadd, 1) := by decide +kernel
theorem d_T_putWord_34 : decode b_T_putWord 34 = .ok (.iload_n 3, 1) := by decide +kernel
theorem d_T_putWord_35 : decode b_T_putWord 35 = .ok (.iastore, 1) := by decide +kernel
theorem d_T_putWord_36 : decode b_T_putWord 36 = .ok (.return_, 1) := by decide +kernel
abbrev b_M_performLow : ByteArray := prog_3_method_24_code
abbrev y_M_performLow : MethodName := ⟨"SignMachine$Machine", "performLow", "()V"⟩
theorem h_M_performLow : (y_M_performLow).cls ≠ "java/lang/invoke/MethodHandle" ∧ (y_M_performLow).cls ≠ "java/lang/invoke/VarHandle" ∧ (parseMethodDescriptor (y_M_performLow).desc).map (fun d => d.parameters.length) = some 0 := by decide +kernel
theorem d_M_performLow_0 : decode b_M_performLow 0 = .ok (.aload_n 0, 1) := by decide +kernel
theorem d_M_performLow_1 : decode b_M_performLow 1 = .ok (.getfield 61, 3) := by decide +kernel
theorem d_M_performLow_4 : decode b_M_performLow 4 = .ok (.tableswitch 118 1 7 #[44, 59, 75, 86, 97, 104, 111], 44) := by decide +kernel
theorem d_M_performLow_48 : decode b_M_performLow 48 = .ok (.aload_n 0, 1) := by decide +kernel
theorem d_M_performLow_49 : decode b_M_performLow 49 = .ok (.iconst 0, 1) := by decide +kernel
theorem d_M_performLow_50 : decode b_M_performLow 50 = .ok (.aload_n 0, 1) := by decide +kernel
theorem d_M_performLow_51 : decode b_M_performLow 51 = .ok (.invokevirtual 116, 3) := by decide +kernel
theorem d_M_performLow_54 : decode b_M_performLow 54 = .ok (.invokestatic 87, 3) := by decide +kernel
theorem d_M_performLow_57 : decode b_M_performLow 57 = .ok (.invokevirtual 166, 3) := by decide +kernel
theorem d_M_performLow_60 : decode b_M_performLow 60 = .ok (.goto 62, 3) := by decide +kernel
theorem d_M_performLow_63 : decode b_M_performLow 63 = .ok (.aload_n 0, 1) := by decide +kernel
theorem d_M_performLow_64 : decode b_M_performLow 64 = .ok (.iconst 0, 1) := by decide +kernel
theorem d_M_performLow_65 : decode b_M_performLow 65 = .ok (.aload_n 0, 1) := by decide +kernel
theorem d_M_performLow_66 : decode b_M_performLow 66 = .ok (.invokevirtual 116, 3) := by decide +kernel
theorem d_M_performLow_69 : decode b_M_performLow 69 = .ok (.invokestatic 87, 3) := by decide +kernel
theorem d_M_performLow_72 : decode b_M_performLow 72 = .ok (.ineg, 1) := by decide +kernel
theorem d_M_performLow_73 : decode b_M_performLow 73 = .ok (.invokevirtual 166, 3) := by decide +kernel
theorem d_M_performLow_76 : decode b_M_performLow 76 = .ok (.goto 46, 3) := by decide +kernel
theorem d_M_performLow_79 : decode b_M_performLow 79 = .ok (.aload_n 0, 1) := by decide +kernel
theorem d_M_performLow_80 : decode b_M_performLow 80 = .ok (.aload_n 0, 1) := by decide +kernel
theorem d_M_performLow_81 : decode b_M_performLow 81 = .ok (.invokevirtual 116, 3) := by decide +kernel
theorem d_M_performLow_84 : decode b_M_performLow 84 = .ok (.invokevirtual 169, 3) := by decide +kernel
theorem d_M_performLow_87 : decode b_M_performLow 87 = .ok (.goto 35, 3) := by decide +kernel
theorem d_M_performLow_90 : decode b_M_performLow 90 = .ok (.aload_n 0, 1) := by decide +kernel
theorem d_M_performLow_91 : decode b_M_performLow 91 = .ok (.aload_n 0, 1) := by decide +kernel
theorem d_M_performLow_92 : decode b_M_performLow 92 = .ok (.invokevirtual 116, 3) := by decide +kernel
theorem d_M_performLow_95 : decode b_M_performLow 95 = .ok (.invokevirtual 172, 3) := by decide +kernel
theorem d_M_performLow_98 : decode b_M_performLow 98 = .ok (.goto 24, 3) := by decide +kernel
theorem d_M_performLow_101 : decode b_M_performLow 101 = .ok (.aload_n 0, 1) := by decide +kernel
theorem d_M_performLow_102 : decode b_M_performLow 102 = .ok (.invokevirtual 175, 3) := by decide +kernel
theorem d_M_performLow_105 : decode b_M_performLow 105 = .ok (.goto 17, 3) := by decide +kernel
theorem d_M_performLow_108 : decode b_M_performLow 108 = .ok (.aload_n 0, 1) := by decide +kernel
theorem d_M_performLow_109 : decode b_M_performLow 109 = .ok (.invokevirtual 178, 3) := by decide +kernel
theorem d_M_performLow_112 : decode b_M_performLow 112 = .ok (.goto 10, 3) := by decide +kernel
theorem d_M_performLow_115 : decode b_M_performLow 115 = .ok (.aload_n 0, 1) := by decide +kernel
theorem d_M_performLow_116 : decode b_M_performLow 116 = .ok (.invokevirtual 181, 3) := by decide +kernel
theorem d_M_performLow_119 : decode b_M_performLow 119 = .ok (.goto 3, 3) := by decide +kernel
theorem d_M_performLow_122 : decode b_M_performLow 122 = .ok (.return_, 1) := by decide +kernel
abbrev b_M_addTo : ByteArray := prog_3_method_26_code
abbrev y_M_addTo : MethodName := ⟨"SignMachine$Machine", "addTo", "(II)V"⟩
theorem h_M_addTo : (y_M_addTo).cls ≠ "java/lang/invoke/MethodHandle" ∧ (y_M_addTo).cls ≠ "java/lang/invoke/VarHandle" ∧ (parseMethodDescriptor (y_M_addTo).desc).map (fun d => d.parameters.length) = some 2 := by decide +kernel
theorem d_M_addTo_0 : decode b_M_addTo 0 = .ok (.aload_n 0, 1) := by decide +kernel
theorem d_M_addTo_1 : decode b_M_addTo 1 = .ok (.iload_n 1, 1) := by decide +kernel
theorem d_M_addTo_2 : decode b_M_addTo 2 = .ok (.invokevirtual 84, 3) := by decide +kernel
theorem d_M_addTo_5 : decode b_M_addTo 5 = .ok (.istore_n 3, 1) := by decide +kernel
theorem d_M_addTo_6 : decode b_M_addTo 6 = .ok (.iload_n 3, 1) := by decide +kernel
theorem d_M_addTo_7 : decode b_M_addTo 7 = .ok (.invokestatic 87, 3) := by decide +kernel
theorem d_M_addTo_10 : decode b_M_addTo 10 = .ok (.iload_n 2, 1) := by decide +kernel
theorem d_M_addTo_11 : decode b_M_addTo 11 = .ok (.iadd, 1) := by decide +kernel
theorem d_M_addTo_12 : decode b_M_addTo 12 = .ok (.istore 4, 2) := by decide +kernel
theorem d_M_addTo_14 : decode b_M_addTo 14 = .ok (.iload 4, 2) := by decide +kernel
theorem d_M_addTo_16 : decode b_M_addTo 16 = .ok (.invokestatic 122, 3) := by decide +kernel
theorem d_M_addTo_19 : decode b_M_addTo 19 = .ok (.ldc 57, 2) := by decide +kernel
theorem d_M_addTo_21 : decode b_M_addTo 21 = .ok (.if_icmp .le 28, 3) := by decide +kernel
theorem d_M_addTo_24 : decode b_M_addTo 24 = .ok (.aload_n 0, 1) := by decide +kernel
theorem d_M_addTo_25 : decode b_M_addTo 25 = .ok (.iconst 1, 1) := by decide +kernel
theorem d_M_addTo_26 : decode b_M_addTo 26 = .ok (.putfield 196, 3) := by decide +kernel
theorem d_M_addTo_29 : decode b_M_addTo 29 = .ok (.iload 4, 2) := by decide +kernel
theorem d_M_addTo_31 : decode b_M_addTo 31 = .ok (.ifCond .le 11, 3) := by decide +kernel
theorem d_M_addTo_34 : decode b_M_addTo 34 = .ok (.iload 4, 2) := by decide +kernel
theorem d_M_addTo_36 : decode b_M_addTo 36 = .ok (.ldc 200, 2) := by decide +kernel
theorem d_M_addTo_38 : decode b_M_addTo 38 = .ok (.isub, 1) := by decide +kernel
theorem d_M_addTo_39 : decode b_M_addTo 39 = .ok (.goto 8, 3) := by decide +kernel
theorem d_M_addTo_42 : decode b_M_addTo 42 = .ok (.iload 4, 2) := by decide +kernel
theorem d_M_addTo_44 : decode b_M_addTo 44 = .ok (.ldc 200, 2) := by decide +kernel
theorem d_M_addTo_46 : decode b_M_addTo 46 = .ok (.iadd, 1) := by decide +kernel
theorem d_M_addTo_47 : decode b_M_addTo 47 = .ok (.istore 4, 2) := by decide +kernel
theorem d_M_addTo_49 : decode b_M_addTo 49 = .ok (.aload_n 0, 1) := by decide +kernel
theorem d_M_addTo_50 : decode b_M_addTo 50 = .ok (.iload_n 1, 1) := by decide +kernel
theorem d_M_addTo_51 : decode b_M_addTo 51 = .ok (.iload 4, 2) := by decide +kernel
theorem d_M_addTo_53 : decode b_M_addTo 53 = .ok (.iload_n 3, 1) := by decide +kernel
theorem d_M_addTo_54 : decode b_M_addTo 54 = .ok (.invokestatic 75, 3) := by decide +kernel
theorem d_M_addTo_57 : decode b_M_addTo 57 = .ok (.invokestatic 201, 3) := by decide +kernel
theorem d_M_addTo_60 : decode b_M_addTo 60 = .ok (.invokevirtual 140, 3) := by decide +kernel
theorem d_M_addTo_63 : decode b_M_addTo 63 = .ok (.return_, 1) := by decide +kernel
abbrev b_W_of : ByteArray := prog_9_method_8_code
abbrev y_W_of : MethodName := ⟨"SignMachine$Word", "of", "(II)I"⟩
theorem h_W_of : (y_W_of).cls ≠ "java/lang/invoke/MethodHandle" ∧ (y_W_of).cls ≠ "java/lang/invoke/VarHandle" ∧ (parseMethodDescriptor (y_W_of).desc).map (fun d => d.parameters.length) = some 2 := by decide +kernel
theorem d_W_of_0 : decode b_W_of 0 = .ok (.iload_n 0, 1) := by decide +kernel
theorem d_W_of_1 : decode b_W_of 1 = .ok (.ifCond .ne 9, 3) := by decide +kernel
theorem d_W_of_4 : decode b_W_of 4 = .ok (.iload_n 1, 1) := by decide +kernel
theorem d_W_of_5 : decode b_W_of 5 = .ok (.iconst 0, 1) := by decide +kernel
theorem d_W_of_6 : decode b_W_of 6 = .ok (.invokestatic 11, 3) := by decide +kernel
theorem d_W_of_9 : decode b_W_of 9 = .ok (.ireturn, 1) := by decide +kernel
theorem d_W_of_10 : decode b_W_of 10 = .ok (.iload_n 0, 1) := by decide +kernel
theorem d_W_of_11 : decode b_W_of 11 = .ok (.ifCond .le 7, 3) := by decide +kernel
theorem d_W_of_14 : decode b_W_of 14 = .ok (.iload_n 0, 1) := by decide +kernel
theorem d_W_of_15 : decode b_W_of 15 = .ok (.goto 9, 3) := by decide +kernel
theorem d_W_of_18 : decode b_W_of 18 = .ok (.iconst 1, 1) := by decide +kernel
theorem d_W_of_19 : decode b_W_of 19 = .ok (.iload_n 0, 1) := by decide +kernel
theorem d_W_of_20 : decode b_W_of 20 = .ok (.ineg, 1) := by decide +kernel
theorem d_W_of_21 : decode b_W_of 21 = .ok (.invokestatic 11, 3) := by decide +kernel
theorem d_W_of_24 : decode b_W_of 24 = .ok (.ireturn, 1) := by decide +kernel
abbrev b_M_multiply : ByteArray := prog_3_method_29_code
abbrev y_M_multiply : MethodName := ⟨"SignMachine$Machine", "multiply", "(I)V"⟩
theorem h_M_multiply : (y_M_multiply).cls ≠ "java/lang/invoke/MethodHandle" ∧ (y_M_multiply).cls ≠ "java/lang/invoke/VarHandle" ∧ (parseMethodDescriptor (y_M_multiply).desc).map (fun d => d.parameters.length) = some 1 := by decide +kernel
theorem d_M_multiply_0 : decode b_M_multiply 0 = .ok (.aload_n 0, 1) := by decide +kernel
theorem d_M_multiply_1 : decode b_M_multiply 1 = .ok (.iconst 0, 1) := by decide +kernel
theorem d_M_multiply_2 : decode b_M_multiply 2 = .ok (.invokevirtual 84, 3) := by decide +kernel
theorem d_M_multiply_5 : decode b_M_multiply 5 = .ok (.istore_n 2, 1) := by decide +kernel
theorem d_M_multiply_6 : decode b_M_multiply 6 = .ok (.iload_n 2, 1) := by decide +kernel
theorem d_M_multiply_7 : decode b_M_multiply 7 = .ok (.invokestatic 67, 3) := by decide +kernel
theorem d_M_multiply_10 : decode b_M_multiply 10 = .ok (.i2l, 1) := by decide +kernel
theorem d_M_multiply_11 : decode b_M_multiply 11 = .ok (.iload_n 1, 1) := by decide +kernel
theorem d_M_multiply_12 : decode b_M_multiply 12 = .ok (.invokestatic 67, 3) := by decide +kernel
theorem d_M_multiply_15 : decode b_M_multiply 15 = .ok (.i2l, 1) := by decide +kernel
theorem d_M_multiply_16 : decode b_M_multiply 16 = .ok (.lmul, 1) := by decide +kernel
theorem d_M_multiply_17 : decode b_M_multiply 17 = .ok (.lstore_n 3, 1) := by decide +kernel
theorem d_M_multiply_18 : decode b_M_multiply 18 = .ok (.iload_n 2, 1) := by decide +kernel
theorem d_M_multiply_19 : decode b_M_multiply 19 = .ok (.invokestatic 75, 3) := by decide +kernel
theorem d_M_multiply_22 : decode b_M_multiply 22 = .ok (.iload_n 1, 1) := by decide +kernel
theorem d_M_multiply_23 : decode b_M_multiply 23 = .ok (.invokestatic 75, 3) := by decide +kernel
theorem d_M_multiply_26 : decode b_M_multiply 26 = .ok (.ixor, 1) := by decide +kernel
theorem d_M_multiply_27 : decode b_M_multiply 27 = .ok (.istore 5, 2) := by decide +kernel
theorem d_M_multiply_29 : decode b_M_multiply 29 = .ok (.aload_n 0, 1) := by decide +kernel
theorem d_M_multiply_30 : decode b_M_multiply 30 = .ok (.iconst 0, 1) := by decide +kernel
theorem d_M_multiply_31 : decode b_M_multiply 31 = .ok (.iload 5, 2) := by decide +kernel
theorem d_M_multiply_33 : decode b_M_multiply 33 = .ok (.lload_n 3, 1) := by decide +kernel
theorem d_M_multiply_34 : decode b_M_multiply 34 = .ok (.bipush 30, 2) := by decide +kernel
theorem d_M_multiply_36 : decode b_M_multiply 36 = .ok (.lshr, 1) := by decide +kernel
theorem d_M_multiply_37 : decode b_M_multiply 37 = .ok (.l2i, 1) := by decide +kernel
theorem d_M_multiply_38 : decode b_M_multiply 38 = .ok (.invokestatic 204, 3) := by decide +kernel
theorem d_M_multiply_41 : decode b_M_multiply 41 = .ok (.invokevirtual 140, 3) := by decide +kernel
theorem d_M_multiply_44 : decode b_M_multiply 44 = .ok (.aload_n 0, 1) := by decide +kernel
theorem d_M_multiply_45 : decode b_M_multiply 45 = .ok (.bipush 7, 2) := by decide +kernel
theorem d_M_multiply_47 : decode b_M_multiply 47 = .ok (.iload 5, 2) := by decide +kernel
theorem d_M_multiply_49 : decode b_M_multiply 49 = .ok (.lload_n 3, 1) := by decide +kernel
theorem d_M_multiply_50 : decode b_M_multiply 50 = .ok (.l2i, 1) := by decide +kernel
theorem d_M_multiply_51 : decode b_M_multiply 51 = .ok (.ldc 57, 2) := by decide +kernel
theorem d_M_multiply_53 : decode b_M_multiply 53 = .ok (.iand, 1) := by decide +kernel
theorem d_M_multiply_54 : decode b_M_multiply 54 = .ok (.invokestatic 204, 3) := by decide +kernel
theorem d_M_multiply_57 : decode b_M_multiply 57 = .ok (.invokevirtual 140, 3) := by decide +kernel
theorem d_M_multiply_60 : decode b_M_multiply 60 = .ok (.return_, 1) := by decide +kernel
abbrev b_M_divide : ByteArray := prog_3_method_30_code
abbrev y_M_divide : MethodName := ⟨"SignMachine$Machine", "divide", "(I)V"⟩
theorem h_M_divide : (y_M_divide).cls ≠ "java/lang/invoke/MethodHandle" ∧ (y_M_divide).cls ≠ "java/lang/invoke/VarHandle" ∧ (parseMethodDescriptor (y_M_divide).desc).map (fun d => d.parameters.length) = some 1 := by decide +kernel
theorem d_M_divide_0 : decode b_M_divide 0 = .ok (.aload_n 0, 1) := by decide +kernel
theorem d_M_divide_1 : decode b_M_divide 1 = .ok (.iconst 0, 1) := by decide +kernel
theorem d_M_divide_2 : decode b_M_divide 2 = .ok (.invokevirtual 84, 3) := by decide +kernel
theorem d_M_divide_5 : decode b_M_divide 5 = .ok (.istore_n 2, 1) := by decide +kernel
theorem d_M_divide_6 : decode b_M_divide 6 = .ok (.iload_n 1, 1) := by decide +kernel
theorem d_M_divide_7 : decode b_M_divide 7 = .ok (.invokestatic 67, 3) := by decide +kernel
theorem d_M_divide_10 : decode b_M_divide 10 = .ok (.istore_n 3, 1) := by decide +kernel
theorem d_M_divide_11 : decode b_M_divide 11 = .ok (.iload_n 3, 1) := by decide +kernel
theorem d_M_divide_12 : decode b_M_divide 12 = .ok (.ifCond .eq 11, 3) := by decide +kernel
theorem d_M_divide_15 : decode b_M_divide 15 = .ok (.iload_n 2, 1) := by decide +kernel
theorem d_M_divide_16 : decode b_M_divide 16 = .ok (.invokestatic 67, 3) := by decide +kernel
theorem d_M_divide_19 : decode b_M_divide 19 = .ok (.iload_n 3, 1) := by decide +kernel
theorem d_M_divide_20 : decode b_M_divide 20 = .ok (.if_icmp .lt 9, 3) := by decide +kernel
theorem d_M_divide_23 : decode b_M_divide 23 = .ok (.aload_n 0, 1) := by decide +kernel
theorem d_M_divide_24 : decode b_M_divide 24 = .ok (.iconst 1, 1) := by decide +kernel
theorem d_M_divide_25 : decode b_M_divide 25 = .ok (.putfield 196, 3) := by decide +kernel
theorem d_M_divide_28 : decode b_M_divide 28 = .ok (.return_, 1) := by decide +kernel
theorem d_M_divide_29 : decode b_M_divide 29 = .ok (.aload_n 0, 1) := by decide +kernel
theorem d_M_divide_30 : decode b_M_divide 30 = .ok (.invokevirtual 207, 3) := by decide +kernel
theorem d_M_divide_33 : decode b_M_divide 33 = .ok (.lstore 4, 2) := by decide +kernel
theorem d_M_divide_35 : decode b_M_divide 35 = .ok (.aload_n 0, 1) := by decide +kernel
theorem d_M_divide_36 : decode b_M_divide 36 = .ok (.iconst 0, 1) := by decide +kernel
theorem d_M_divide_37 : decode b_M_divide 37 = .ok (.iload_n 2, 1) := by decide +kernel
theorem d_M_divide_38 : decode b_M_divide 38 = .ok (.invokestatic 75, 3) := by decide +kernel
theorem d_M_divide_41 : decode b_M_divide 41 = .ok (.iload_n 1, 1) := by decide +kernel
theorem d_M_divide_42 : decode b_M_divide 42 = .ok (.invokestatic 75, 3) := by decide +kernel
theorem d_M_divide_45 : decode b_M_divide 45 = .ok (.ixor, 1) := by decide +kernel
theorem d_M_divide_46 : decode b_M_divide 46 = .ok (.lload 4, 2) := by decide +kernel
theorem d_M_divide_48 : decode b_M_divide 48 = .ok (.iload_n 3, 1) := by decide +kernel
theorem d_M_divide_49 : decode b_M_divide 49 = .ok (.i2l, 1) := by decide +kernel
theorem d_M_divide_50 : decode b_M_divide 50 = .ok (.ldiv, 1) := by decide +kernel
theorem d_M_divide_51 : decode b_M_divide 51 = .ok (.l2i, 1) := by decide +kernel
theorem d_M_divide_52 : decode b_M_divide 52 = .ok (.invokestatic 204, 3) := by decide +kernel
theorem d_M_divide_55 : decode b_M_divide 55 = .ok (.invokevirtual 140, 3) := by decide +kernel
theorem d_M_divide_58 : decode b_M_divide 58 = .ok (.aload_n 0, 1) := by decide +kernel
theorem d_M_divide_59 : decode b_M_divide 59 = .ok (.bipush 7, 2) := by decide +kernel
theorem d_M_divide_61 : decode b_M_divide 61 = .ok (.iload_n 2, 1) := by decide +kernel
theorem d_M_divide_62 : decode b_M_divide 62 = .ok (.invokestatic 75, 3) := by decide +kernel
theorem d_M_divide_65 : decode b_M_divide 65 = .ok (.lload 4, 2) := by decide +kernel
theorem d_M_divide_67 : decode b_M_divide 67 = .ok (.iload_n 3, 1) := by decide +kernel
theorem d_M_divide_68 : decode b_M_divide 68 = .ok (.i2l, 1) := by decide +kernel
theorem d_M_divide_69 : decode b_M_divide 69 = .ok (.lrem, 1) := by decide +kernel
theorem d_M_divide_70 : decode b_M_divide 70 = .ok (.l2i, 1) := by decide +kernel
theorem d_M_divide_71 : decode b_M_divide 71 = .ok (.invokestatic 204, 3) := by decide +kernel
theorem d_M_divide_74 : decode b_M_divide 74 = .ok (.invokevirtual 140, 3) := by decide +kernel
theorem d_M_divide_77 : decode b_M_divide 77 = .ok (.return_, 1) := by decide +kernel
abbrev b_M_sizeOfAX : ByteArray := prog_3_method_27_code
abbrev y_M_sizeOfAX : MethodName := ⟨"SignMachine$Machine", "sizeOfAX", "()J"⟩
theorem h_M_sizeOfAX : (y_M_sizeOfAX).cls ≠ "java/lang/invoke/MethodHandle" ∧ (y_M_sizeOfAX).cls ≠ "java/lang/invoke/VarHandle" ∧ (parseMethodDescriptor (y_M_sizeOfAX).desc).map (fun d => d.parameters.length) = some 0 := by decide +kernel
theorem d_M_sizeOfAX_0 : decode b_M_sizeOfAX 0 = .ok (.aload_n 0, 1) := by decide +kernel
theorem d_M_sizeOfAX_1 : decode b_M_sizeOfAX 1 = .ok (.iconst 0, 1) := by decide +kernel
theorem d_M_sizeOfAX_2 : decode b_M_sizeOfAX 2 = .ok (.invokevirtual 84, 3) := by decide +kernel
theorem d_M_sizeOfAX_5 : decode b_M_sizeOfAX 5 = .ok (.invokestatic 67, 3) := by decide +kernel
theorem d_M_sizeOfAX_8 : decode b_M_sizeOfAX 8 = .ok (.i2l, 1) := by decide +kernel
theorem d_M_sizeOfAX_9 : decode b_M_sizeOfAX 9 = .ok (.bipush 30, 2) := by decide +kernel
theorem d_M_sizeOfAX_11 : decode b_M_sizeOfAX 11 = .ok (.lshl, 1) := by decide +kernel
theorem d_M_sizeOfAX_12 : decode b_M_sizeOfAX 12 = .ok (.aload_n 0, 1) := by decide +kernel
theorem d_M_sizeOfAX_13 : decode b_M_sizeOfAX 13 = .ok (.bipush 7, 2) := by decide +kernel
theorem d_M_sizeOfAX_15 : decode b_M_sizeOfAX 15 = .ok (.invokevirtual 84, 3) := by decide +kernel
theorem d_M_sizeOfAX_18 : decode b_M_sizeOfAX 18 = .ok (.invokestatic 67, 3) := by decide +kernel
theorem d_M_sizeOfAX_21 : decode b_M_sizeOfAX 21 = .ok (.i2l, 1) := by decide +kernel
theorem d_M_sizeOfAX_22 : decode b_M_sizeOfAX 22 = .ok (.lor, 1) := by decide +kernel
theorem d_M_sizeOfAX_23 : decode b_M_sizeOfAX 23 = .ok (.lreturn, 1) := by decide +kernel
abbrev b_M_convert : ByteArray := prog_3_method_31_code
abbrev y_M_convert : MethodName := ⟨"SignMachine$Machine", "convert", "()V"⟩
theorem h_M_convert : (y_M_convert).cls ≠ "java/lang/invoke/MethodHandle" ∧ (y_M_convert).cls ≠ "java/lang/invoke/VarHandle" ∧ (parseMethodDescriptor (y_M_convert).desc).map (fun d => d.parameters.length) = some 0 := by decide +kernel
theorem d_M_convert_0 : decode b_M_convert 0 = .ok (.aload_n 0, 1) := by decide +kernel
theorem d_M_convert_1 : decode b_M_convert 1 = .ok (.getfield 64, 3) := by decide +kernel
theorem d_M_convert_4 : decode b_M_convert 4 = .ok (.ifCond .ne 10, 3) := by decide +kernel
theorem d_M_convert_7 : decode b_M_convert 7 = .ok (.aload_n 0, 1) := by decide +kernel
theorem d_M_convert_8 : decode b_M_convert 8 = .ok (.invokevirtual 211, 3) := by decide +kernel
theorem d_M_convert_11 : decode b_M_convert 11 = .ok (.goto 15, 3) := by decide +kernel
theorem d_M_convert_14 : decode b_M_convert 14 = .ok (.aload_n 0, 1) := by decide +kernel
theorem d_M_convert_15 : decode b_M_convert 15 = .ok (.getfield 64, 3) := by decide +kernel
theorem d_M_convert_18 : decode b_M_convert 18 = .ok (.iconst 1, 1) := by decide +kernel
theorem d_M_convert_19 : decode b_M_convert 19 = .ok (.if_icmp .ne 7, 3) := by decide +kernel
theorem d_M_convert_22 : decode b_M_convert 22 = .ok (.aload_n 0, 1) := by decide +kernel
theorem d_M_convert_23 : decode b_M_convert 23 = .ok (.invokevirtual 214, 3) := by decide +kernel
theorem d_M_convert_26 : decode b_M_convert 26 = .ok (.return_, 1) := by decide +kernel
abbrev b_M_becomeDigits : ByteArray := prog_3_method_33_code
abbrev y_M_becomeDigits : MethodName := ⟨"SignMachine$Machine", "becomeDigits", "()V"⟩
theorem h_M_becomeDigits : (y_M_becomeDigits).cls ≠ "java/lang/invoke/MethodHandle" ∧ (y_M_becomeDigits).cls ≠ "java/lang/invoke/VarHandle" ∧ (parseMethodDescriptor (y_M_becomeDigits).desc).map (fun d => d.parameters.length) = some 0 := by decide +kernel
theorem d_M_becomeDigits_0 : decode b_M_becomeDigits 0 = .ok (.aload_n 0, 1) := by decide +kernel
theorem d_M_becomeDigits_1 : decode b_M_becomeDigits 1 = .ok (.iconst 0, 1) := by decide +kernel
theorem d_M_becomeDigits_2 : decode b_M_becomeDigits 2 = .ok (.invokevirtual 84, 3) := by decide +kernel
theorem d_M_becomeDigits_5 : decode b_M_becomeDigits 5 = .ok (.invokestatic 67, 3) := by decide +kernel
theorem d_M_becomeDigits_8 : decode b_M_becomeDigits 8 = .ok (.istore_n 1, 1) := by decide +kernel
theorem d_M_becomeDigits_9 : decode b_M_becomeDigits 9 = .ok (.lconst 0, 1) := by decide +kernel
theorem d_M_becomeDigits_10 : decode b_M_becomeDigits 10 = .ok (.lstore_n 2, 1) := by decide +kernel
theorem d_M_becomeDigits_11 : decode b_M_becomeDigits 11 = .ok (.iconst 0, 1) := by decide +kernel
theorem d_M_becomeDigits_12 : decode b_M_becomeDigits 12 = .ok (.istore 4, 2) := by decide +kernel
theorem d_M_becomeDigits_14 : decode b_M_becomeDigits 14 = .ok (.iload 4, 2) := by decide +kernel
theorem d_M_becomeDigits_16 : decode b_M_becomeDigits 16 = .ok (.bipush 10, 2) := by decide +kernel
theorem d_M_becomeDigits_18 : decode b_M_becomeDigits 18 = .ok (.if_icmp .ge 31, 3) := by decide +kernel
theorem d_M_becomeDigits_21 : decode b_M_becomeDigits 21 = .ok (.lload_n 2, 1) := by decide +kernel
theorem d_M_becomeDigits_22 : decode b_M_becomeDigits 22 = .ok (.bipush 30, 2) := by decide +kernel
theorem d_M_becomeDigits_24 : decode b_M_becomeDigits 24 = .ok (.iload_n 1, 1) := by decide +kernel
theorem d_M_becomeDigits_25 : decode b_M_becomeDigits 25 = .ok (.bipush 10, 2) := by decide +kernel
theorem d_M_becomeDigits_27 : decode b_M_becomeDigits 27 = .ok (.irem, 1) := by decide +kernel
theorem d_M_becomeDigits_28 : decode b_M_becomeDigits 28 = .ok (.iadd, 1) := by decide +kernel
theorem d_M_becomeDigits_29 : decode b_M_becomeDigits 29 = .ok (.i2l, 1) := by decide +kernel
theorem d_M_becomeDigits_30 : decode b_M_becomeDigits 30 = .ok (.bipush 6, 2) := by decide +kernel
theorem d_M_becomeDigits_32 : decode b_M_becomeDigits 32 = .ok (.iload 4, 2) := by decide +kernel
theorem d_M_becomeDigits_34 : decode b_M_becomeDigits 34 = .ok (.imul, 1) := by decide +kernel
theorem d_M_becomeDigits_35 : decode b_M_becomeDigits 35 = .ok (.lshl, 1) := by decide +kernel
theorem d_M_becomeDigits_36 : decode b_M_becomeDigits 36 = .ok (.lor, 1) := by decide +kernel
theorem d_M_becomeDigits_37 : decode b_M_becomeDigits 37 = .ok (.lstore_n 2, 1) := by decide +kernel
theorem d_M_becomeDigits_38 : decode b_M_becomeDigits 38 = .ok (.iload_n 1, 1) := by decide +kernel
theorem d_M_becomeDigits_39 : decode b_M_becomeDigits 39 = .ok (.bipush 10, 2) := by decide +kernel
theorem d_M_becomeDigits_41 : decode b_M_becomeDigits 41 = .ok (.idiv, 1) := by decide +kernel
theorem d_M_becomeDigits_42 : decode b_M_becomeDigits 42 = .ok (.istore_n 1, 1) := by decide +kernel
theorem d_M_becomeDigits_43 : decode b_M_becomeDigits 43 = .ok (.iinc 4 1, 3) := by decide +kernel
theorem d_M_becomeDigits_46 : decode b_M_becomeDigits 46 = .ok (.goto (-32), 3) := by decide +kernel
theorem d_M_becomeDigits_49 : decode b_M_becomeDigits 49 = .ok (.aload_n 0, 1) := by decide +kernel
theorem d_M_becomeDigits_50 : decode b_M_becomeDigits 50 = .ok (.lload_n 2, 1) := by decide +kernel
theorem d_M_becomeDigits_51 : decode b_M_becomeDigits 51 = .ok (.invokevirtual 225, 3) := by decide +kernel
theorem d_M_becomeDigits_54 : decode b_M_becomeDigits 54 = .ok (.return_, 1) := by decide +kernel
abbrev b_M_putSizesOfAX : ByteArray := prog_3_method_28_code
abbrev y_M_putSizesOfAX : MethodName := ⟨"SignMachine$Machine", "putSizesOfAX", "(J)V"⟩
theorem h_M_putSizesOfAX : (y_M_putSizesOfAX).cls ≠ "java/lang/invoke/MethodHandle" ∧ (y_M_putSizesOfAX).cls ≠ "java/lang/invoke/VarHandle" ∧ (parseMethodDescriptor (y_M_putSizesOfAX).desc).map (fun d => d.parameters.length) = some 1 := by decide +kernel
theorem d_M_putSizesOfAX_0 : decode b_M_putSizesOfAX 0 = .ok (.lload_n 1, 1) := by decide +kernel
theorem d_M_putSizesOfAX_1 : decode b_M_putSizesOfAX 1 = .ok (.bipush 30, 2) := by decide +kernel
theorem d_M_putSizesOfAX_3 : decode b_M_putSizesOfAX 3 = .ok (.lshr, 1) := by decide +kernel
theorem d_M_putSizesOfAX_4 : decode b_M_putSizesOfAX 4 = .ok (.l2i, 1) := by decide +kernel
theorem d_M_putSizesOfAX_5 : decode b_M_putSizesOfAX 5 = .ok (.ldc 57, 2) := by decide +kernel
theorem d_M_putSizesOfAX_7 : decode b_M_putSizesOfAX 7 = .ok (.iand, 1) := by decide +kernel
theorem d_M_putSizesOfAX_8 : decode b_M_putSizesOfAX 8 = .ok (.istore_n 3, 1) := by decide +kernel
theorem d_M_putSizesOfAX_9 : decode b_M_putSizesOfAX 9 = .ok (.lload_n 1, 1) := by decide +kernel
theorem d_M_putSizesOfAX_10 : decode b_M_putSizesOfAX 10 = .ok (.l2i, 1) := by decide +kernel
theorem d_M_putSizesOfAX_11 : decode b_M_putSizesOfAX 11 = .ok (.ldc 57, 2) := by decide +kernel
theorem d_M_putSizesOfAX_13 : decode b_M_putSizesOfAX 13 = .ok (.iand, 1) := by decide +kernel
theorem d_M_putSizesOfAX_14 : decode b_M_putSizesOfAX 14 = .ok (.istore 4, 2) := by decide +kernel
theorem d_M_putSizesOfAX_16 : decode b_M_putSizesOfAX 16 = .ok (.aload_n 0, 1) := by decide +kernel
theorem d_M_putSizesOfAX_17 : decode b_M_putSizesOfAX 17 = .ok (.iconst 0, 1) := by decide +kernel
theorem d_M_putSizesOfAX_18 : decode b_M_putSizesOfAX 18 = .ok (.aload_n 0, 1) := by decide +kernel
theorem d_M_putSizesOfAX_19 : decode b_M_putSizesOfAX 19 = .ok (.iconst 0, 1) := by decide +kernel
theorem d_M_putSizesOfAX_20 : decode b_M_putSizesOfAX 20 = .ok (.invokevirtual 84, 3) := by decide +kernel
theorem d_M_putSizesOfAX_23 : decode b_M_putSizesOfAX 23 = .ok (.invokestatic 75, 3) := by decide +kernel
theorem d_M_putSizesOfAX_26 : decode b_M_putSizesOfAX 26 = .ok (.iload_n 3, 1) := by decide +kernel
theorem d_M_putSizesOfAX_27 : decode b_M_putSizesOfAX 27 = .ok (.invokestatic 204, 3) := by decide +kernel
theorem d_M_putSizesOfAX_30 : decode b_M_putSizesOfAX 30 = .ok (.invokevirtual 140, 3) := by decide +kernel
theorem d_M_putSizesOfAX_33 : decode b_M_putSizesOfAX 33 = .ok (.aload_n 0, 1) := by decide +kernel
theorem d_M_putSizesOfAX_34 : decode b_M_putSizesOfAX 34 = .ok (.bipush 7, 2) := by decide +kernel
theorem d_M_putSizesOfAX_36 : decode b_M_putSizesOfAX 36 = .ok (.aload_n 0, 1) := by decide +kernel
theorem d_M_putSizesOfAX_37 : decode b_M_putSizesOfAX 37 = .ok (.bipush 7, 2) := by decide +kernel
theorem d_M_putSizesOfAX_39 : decode b_M_putSizesOfAX 39 = .ok (.invokevirtual 84, 3) := by decide +kernel
theorem d_M_putSizesOfAX_42 : decode b_M_putSizesOfAX 42 = .ok (.invokestatic 75, 3) := by decide +kernel
theorem d_M_putSizesOfAX_45 : decode b_M_putSizesOfAX 45 = .ok (.iload 4, 2) := by decide +kernel
theorem d_M_putSizesOfAX_47 : decode b_M_putSizesOfAX 47 = .ok (.invokestatic 204, 3) := by decide +kernel
theorem d_M_putSizesOfAX_50 : decode b_M_putSizesOfAX 50 = .ok (.invokevirtual 140, 3) := by decide +kernel
theorem d_M_putSizesOfAX_53 : decode b_M_putSizesOfAX 53 = .ok (.return_, 1) := by decide +kernel
abbrev b_M_becomeNumber : ByteArray := prog_3_method_32_code
abbrev y_M_becomeNumber : MethodName := ⟨"SignMachine$Machine", "becomeNumber", "()V"⟩
theorem h_M_becomeNumber : (y_M_becomeNumber).cls ≠ "java/lang/invoke/MethodHandle" ∧ (y_M_becomeNumber).cls ≠ "java/lang/invoke/VarHandle" ∧ (parseMethodDescriptor (y_M_becomeNumber).desc).map (fun d => d.parameters.length) = some 0 := by decide +kernel
theorem d_M_becomeNumber_0 : decode b_M_becomeNumber 0 = .ok (.aload_n 0, 1) := by decide +kernel
theorem d_M_becomeNumber_1 : decode b_M_becomeNumber 1 = .ok (.invokevirtual 207, 3) := by decide +kernel
theorem d_M_becomeNumber_4 : decode b_M_becomeNumber 4 = .ok (.lstore_n 1, 1) := by decide +kernel
theorem d_M_becomeNumber_5 : decode b_M_becomeNumber 5 = .ok (.lconst 0, 1) := by decide +kernel
theorem d_M_becomeNumber_6 : decode b_M_becomeNumber 6 = .ok (.lstore_n 3, 1) := by decide +kernel
theorem d_M_becomeNumber_7 : decode b_M_becomeNumber 7 = .ok (.bipush 9, 2) := by decide +kernel
theorem d_M_becomeNumber_9 : decode b_M_becomeNumber 9 = .ok (.istore 5, 2) := by decide +kernel
theorem d_M_becomeNumber_11 : decode b_M_becomeNumber 11 = .ok (.iload 5, 2) := by decide +kernel
theorem d_M_becomeNumber_13 : decode b_M_becomeNumber 13 = .ok (.ifCond .lt 31, 3) := by decide +kernel
theorem d_M_becomeNumber_16 : decode b_M_becomeNumber 16 = .ok (.lload_n 3, 1) := by decide +kernel
theorem d_M_becomeNumber_17 : decode b_M_becomeNumber 17 = .ok (.ldc2_w 217, 3) := by decide +kernel
theorem d_M_becomeNumber_20 : decode b_M_becomeNumber 20 = .ok (.lmul, 1) := by decide +kernel
theorem d_M_becomeNumber_21 : decode b_M_becomeNumber 21 = .ok (.lload_n 1, 1) := by decide +kernel
theorem d_M_becomeNumber_22 : decode b_M_becomeNumber 22 = .ok (.bipush 6, 2) := by decide +kernel
theorem d_M_becomeNumber_24 : decode b_M_becomeNumber 24 = .ok (.iload 5, 2) := by decide +kernel
theorem d_M_becomeNumber_26 : decode b_M_becomeNumber 26 = .ok (.imul, 1) := by decide +kernel
theorem d_M_becomeNumber_27 : decode b_M_becomeNumber 27 = .ok (.lshr, 1) := by decide +kernel
theorem d_M_becomeNumber_28 : decode b_M_becomeNumber 28 = .ok (.ldc2_w 219, 3) := by decide +kernel
theorem d_M_becomeNumber_31 : decode b_M_becomeNumber 31 = .ok (.land, 1) := by decide +kernel
theorem d_M_becomeNumber_32 : decode b_M_becomeNumber 32 = .ok (.ldc2_w 217, 3) := by decide +kernel
theorem d_M_becomeNumber_35 : decode b_M_becomeNumber 35 = .ok (.lrem, 1) := by decide +kernel
theorem d_M_becomeNumber_36 : decode b_M_becomeNumber 36 = .ok (.ladd, 1) := by decide +kernel
theorem d_M_becomeNumber_37 : decode b_M_becomeNumber 37 = .ok (.lstore_n 3, 1) := by decide +kernel
theorem d_M_becomeNumber_38 : decode b_M_becomeNumber 38 = .ok (.iinc 5 (-1), 3) := by decide +kernel
theorem d_M_becomeNumber_41 : decode b_M_becomeNumber 41 = .ok (.goto (-30), 3) := by decide +kernel
theorem d_M_becomeNumber_44 : decode b_M_becomeNumber 44 = .ok (.lload_n 3, 1) := by decide +kernel
theorem d_M_becomeNumber_45 : decode b_M_becomeNumber 45 = .ok (.ldc2_w 221, 3) := by decide +kernel
theorem d_M_becomeNumber_48 : decode b_M_becomeNumber 48 = .ok (.lcmp, 1) := by decide +kernel
theorem d_M_becomeNumber_49 : decode b_M_becomeNumber 49 = .ok (.ifCond .le 8, 3) := by decide +kernel
theorem d_M_becomeNumber_52 : decode b_M_becomeNumber 52 = .ok (.aload_n 0, 1) := by decide +kernel
theorem d_M_becomeNumber_53 : decode b_M_becomeNumber 53 = .ok (.iconst 1, 1) := by decide +kernel
theorem d_M_becomeNumber_54 : decode b_M_becomeNumber 54 = .ok (.putfield 196, 3) := by decide +kernel
theorem d_M_becomeNumber_57 : decode b_M_becomeNumber 57 = .ok (.lload_n 3, 1) := by decide +kernel
theorem d_M_becomeNumber_58 : decode b_M_becomeNumber 58 = .ok (.ldc2_w 223, 3) := by decide +kernel
theorem d_M_becomeNumber_61 : decode b_M_becomeNumber 61 = .ok (.lrem, 1) := by decide +kernel
theorem d_M_becomeNumber_62 : decode b_M_becomeNumber 62 = .ok (.l2i, 1) := by decide +kernel
theorem d_M_becomeNumber_63 : decode b_M_becomeNumber 63 = .ok (.istore 5, 2) := by decide +kernel
theorem d_M_becomeNumber_65 : decode b_M_becomeNumber 65 = .ok (.aload_n 0, 1) := by decide +kernel
theorem d_M_becomeNumber_66 : decode b_M_becomeNumber 66 = .ok (.iconst 0, 1) := by decide +kernel
theorem d_M_becomeNumber_67 : decode b_M_becomeNumber 67 = .ok (.aload_n 0, 1) := by decide +kernel
theorem d_M_becomeNumber_68 : decode b_M_becomeNumber 68 = .ok (.iconst 0, 1) := by decide +kernel
theorem d_M_becomeNumber_69 : decode b_M_becomeNumber 69 = .ok (.invokevirtual 84, 3) := by decide +kernel
theorem d_M_becomeNumber_72 : decode b_M_becomeNumber 72 = .ok (.invokestatic 75, 3) := by decide +kernel
theorem d_M_becomeNumber_75 : decode b_M_becomeNumber 75 = .ok (.iload 5, 2) := by decide +kernel
theorem d_M_becomeNumber_77 : decode b_M_becomeNumber 77 = .ok (.invokestatic 204, 3) := by decide +kernel
theorem d_M_becomeNumber_80 : decode b_M_becomeNumber 80 = .ok (.invokevirtual 140, 3) := by decide +kernel
theorem d_M_becomeNumber_83 : decode b_M_becomeNumber 83 = .ok (.return_, 1) := by decide +kernel
abbrev b_M_shift : ByteArray := prog_3_method_34_code
abbrev y_M_shift : MethodName := ⟨"SignMachine$Machine", "shift", "()V"⟩
theorem h_M_shift : (y_M_shift).cls ≠ "java/lang/invoke/MethodHandle" ∧ (y_M_shift).cls ≠ "java/lang/invoke/VarHandle" ∧ (parseMethodDescriptor (y_M_shift).desc).map (fun d => d.parameters.length) = some 0 := by decide +kernel
theorem d_M_shift_0 : decode b_M_shift 0 = .ok (.aload_n 0, 1) := by decide +kernel
theorem d_M_shift_1 : decode b_M_shift 1 = .ok (.getfield 64, 3) := by decide +kernel
theorem d_M_shift_4 : decode b_M_shift 4 = .ok (.iconst 1, 1) := by decide +kernel
theorem d_M_shift_5 : decode b_M_shift 5 = .ok (.if_icmp .gt 64, 3) := by decide +kernel
theorem d_M_shift_8 : decode b_M_shift 8 = .ok (.bipush 6, 2) := by decide +kernel
theorem d_M_shift_10 : decode b_M_shift 10 = .ok (.aload_n 0, 1) := by decide +kernel
theorem d_M_shift_11 : decode b_M_shift 11 = .ok (.getfield 81, 3) := by decide +kernel
theorem d_M_shift_14 : decode b_M_shift 14 = .ok (.iconst 5, 1) := by decide +kernel
theorem d_M_shift_15 : decode b_M_shift 15 = .ok (.invokestatic 229, 3) := by decide +kernel
theorem d_M_shift_18 : decode b_M_shift 18 = .ok (.imul, 1) := by decide +kernel
theorem d_M_shift_19 : decode b_M_shift 19 = .ok (.istore_n 1, 1) := by decide +kernel
theorem d_M_shift_20 : decode b_M_shift 20 = .ok (.aload_n 0, 1) := by decide +kernel
theorem d_M_shift_21 : decode b_M_shift 21 = .ok (.iconst 0, 1) := by decide +kernel
theorem d_M_shift_22 : decode b_M_shift 22 = .ok (.invokevirtual 84, 3) := by decide +kernel
theorem d_M_shift_25 : decode b_M_shift 25 = .ok (.invokestatic 67, 3) := by decide +kernel
theorem d_M_shift_28 : decode b_M_shift 28 = .ok (.i2l, 1) := by decide +kernel
theorem d_M_shift_29 : decode b_M_shift 29 = .ok (.lstore_n 2, 1) := by decide +kernel
theorem d_M_shift_30 : decode b_M_shift 30 = .ok (.aload_n 0, 1) := by decide +kernel
theorem d_M_shift_31 : decode b_M_shift 31 = .ok (.getfield 64, 3) := by decide +kernel
theorem d_M_shift_34 : decode b_M_shift 34 = .ok (.ifCond .ne 9, 3) := by decide +kernel
theorem d_M_shift_37 : decode b_M_shift 37 = .ok (.lload_n 2, 1) := by decide +kernel
theorem d_M_shift_38 : decode b_M_shift 38 = .ok (.iload_n 1, 1) := by decide +kernel
theorem d_M_shift_39 : decode b_M_shift 39 = .ok (.lshl, 1) := by decide +kernel
theorem d_M_shift_40 : decode b_M_shift 40 = .ok (.goto 6, 3) := by decide +kernel
theorem d_M_shift_43 : decode b_M_shift 43 = .ok (.lload_n 2, 1) := by decide +kernel
theorem d_M_shift_44 : decode b_M_shift 44 = .ok (.iload_n 1, 1) := by decide +kernel
theorem d_M_shift_45 : decode b_M_shift 45 = .ok (.lshr, 1) := by decide +kernel
theorem d_M_shift_46 : decode b_M_shift 46 = .ok (.lstore_n 2, 1) := by decide +kernel
theorem d_M_shift_47 : decode b_M_shift 47 = .ok (.aload_n 0, 1) := by decide +kernel
theorem d_M_shift_48 : decode b_M_shift 48 = .ok (.iconst 0, 1) := by decide +kernel
theorem d_M_shift_49 : decode b_M_shift 49 = .ok (.aload_n 0, 1) := by decide +kernel
theorem d_M_shift_50 : decode b_M_shift 50 = .ok (.iconst 0, 1) := by decide +kernel
theorem d_M_shift_51 : decode b_M_shift 51 = .ok (.invokevirtual 84, 3) := by decide +kernel
theorem d_M_shift_54 : decode b_M_shift 54 = .ok (.invokestatic 75, 3) := by decide +kernel
theorem d_M_shift_57 : decode b_M_shift 57 = .ok (.lload_n 2, 1) := by decide +kernel
theorem d_M_shift_58 : decode b_M_shift 58 = .ok (.l2i, 1) := by decide +kernel
theorem d_M_shift_59 : decode b_M_shift 59 = .ok (.ldc 57, 2) := by decide +kernel
theorem d_M_shift_61 : decode b_M_shift 61 = .ok (.iand, 1) := by decide +kernel
theorem d_M_shift_62 : decode b_M_shift 62 = .ok (.invokestatic 204, 3) := by decide +kernel
theorem d_M_shift_65 : decode b_M_shift 65 = .ok (.invokevirtual 140, 3) := by decide +kernel
theorem d_M_shift_68 : decode b_M_shift 68 = .ok (.return_, 1) := by decide +kernel
theorem d_M_shift_69 : decode b_M_shift 69 = .ok (.bipush 6, 2) := by decide +kernel
theorem d_M_shift_71 : decode b_M_shift 71 = .ok (.aload_n 0, 1) := by decide +kernel
theorem d_M_shift_72 : decode b_M_shift 72 = .ok (.getfield 81, 3) := by decide +kernel
theorem d_M_shift_75 : decode b_M_shift 75 = .ok (.bipush 10, 2) := by decide +kernel
theorem d_M_shift_77 : decode b_M_shift 77 = .ok (.invokestatic 229, 3) := by decide +kernel
theorem d_M_shift_80 : decode b_M_shift 80 = .ok (.imul, 1) := by decide +kernel
theorem d_M_shift_81 : decode b_M_shift 81 = .ok (.istore_n 1, 1) := by decide +kernel
theorem d_M_shift_82 : decode b_M_shift 82 = .ok (.bipush 6, 2) := by decide +kernel
theorem d_M_shift_84 : decode b_M_shift 84 = .ok (.aload_n 0, 1) := by decide +kernel
theorem d_M_shift_85 : decode b_M_shift 85 = .ok (.getfield 81, 3) := by decide +kernel
theorem d_M_shift_88 : decode b_M_shift 88 = .ok (.bipush 10, 2) := by decide +kernel
theorem d_M_shift_90 : decode b_M_shift 90 = .ok (.irem, 1) := by decide +kernel
theorem d_M_shift_91 : decode b_M_shift 91 = .ok (.imul, 1) := by decide +kernel
theorem d_M_shift_92 : decode b_M_shift 92 = .ok (.istore_n 2, 1) := by decide +kernel
theorem d_M_shift_93 : decode b_M_shift 93 = .ok (.aload_n 0, 1) := by decide +kernel
theorem d_M_shift_94 : decode b_M_shift 94 = .ok (.invokevirtual 207, 3) := by decide +kernel
theorem d_M_shift_97 : decode b_M_shift 97 = .ok (.lstore_n 3, 1) := by decide +kernel
theorem d_M_shift_98 : decode b_M_shift 98 = .ok (.aload_n 0, 1) := by decide +kernel
theorem d_M_shift_99 : decode b_M_shift 99 = .ok (.getfield 64, 3) := by decide +kernel
theorem d_M_shift_102 : decode b_M_shift 102 = .ok (.tableswitch 54 2 4 #[26, 33, 40], 26) := by decide +kernel
theorem d_M_shift_128 : decode b_M_shift 128 = .ok (.lload_n 3, 1) := by decide +kernel
theorem d_M_shift_129 : decode b_M_shift 129 = .ok (.iload_n 1, 1) := by decide +kernel
theorem d_M_shift_130 : decode b_M_shift 130 = .ok (.lshl, 1) := by decide +kernel
theorem d_M_shift_131 : decode b_M_shift 131 = .ok (.lstore_n 3, 1) := by decide +kernel
theorem d_M_shift_132 : decode b_M_shift 132 = .ok (.goto 35, 3) := by decide +kernel
theorem d_M_shift_135 : decode b_M_shift 135 = .ok (.lload_n 3, 1) := by decide +kernel
theorem d_M_shift_136 : decode b_M_shift 136 = .ok (.iload_n 1, 1) := by decide +kernel
theorem d_M_shift_137 : decode b_M_shift 137 = .ok (.lshr, 1) := by decide +kernel
theorem d_M_shift_138 : decode b_M_shift 138 = .ok (.lstore_n 3, 1) := by decide +kernel
theorem d_M_shift_139 : decode b_M_shift 139 = .ok (.goto 28, 3) := by decide +kernel
theorem d_M_shift_142 : decode b_M_shift 142 = .ok (.lload_n 3, 1) := by decide +kernel
theorem d_M_shift_143 : decode b_M_shift 143 = .ok (.iload_n 2, 1) := by decide +kernel
theorem d_M_shift_144 : decode b_M_shift 144 = .ok (.lshl, 1) := by decide +kernel
theorem d_M_shift_145 : decode b_M_shift 145 = .ok (.lload_n 3, 1) := by decide +kernel
theorem d_M_shift_146 : decode b_M_shift 146 = .ok (.bipush 60, 2) := by decide +kernel
theorem d_M_shift_148 : decode b_M_shift 148 = .ok (.iload_n 2, 1) := by decide +kernel
theorem d_M_shift_149 : decode b_M_shift 149 = .ok (.isub, 1) := by decide +kernel
theorem d_M_shift_150 : decode b_M_shift 150 = .ok (.lshr, 1) := by decide +kernel
theorem d_M_shift_151 : decode b_M_shift 151 = .ok (.lor, 1) := by decide +kernel
theorem d_M_shift_152 : decode b_M_shift 152 = .ok (.lstore_n 3, 1) := by decide +kernel
theorem d_M_shift_153 : decode b_M_shift 153 = .ok (.goto 14, 3) := by decide +kernel
theorem d_M_shift_156 : decode b_M_shift 156 = .ok (.lload_n 3, 1) := by decide +kernel
theorem d_M_shift_157 : decode b_M_shift 157 = .ok (.iload_n 2, 1) := by decide +kernel
theorem d_M_shift_158 : decode b_M_shift 158 = .ok (.lshr, 1) := by decide +kernel
theorem d_M_shift_159 : decode b_M_shift 159 = .ok (.lload_n 3, 1) := by decide +kernel
theorem d_M_shift_160 : decode b_M_shift 160 = .ok (.bipush 60, 2) := by decide +kernel
theorem d_M_shift_162 : decode b_M_shift 162 = .ok (.iload_n 2, 1) := by decide +kernel
theorem d_M_shift_163 : decode b_M_shift 163 = .ok (.isub, 1) := by decide +kernel
theorem d_M_shift_164 : decode b_M_shift 164 = .ok (.lshl, 1) := by decide +kernel
theorem d_M_shift_165 : decode b_M_shift 165 = .ok (.lor, 1) := by decide +kernel
theorem d_M_shift_166 : decode b_M_shift 166 = .ok (.lstore_n 3, 1) := by decide +kernel
theorem d_M_shift_167 : decode b_M_shift 167 = .ok (.aload_n 0, 1) := by decide +kernel
theorem d_M_shift_168 : decode b_M_shift 168 = .ok (.lload_n 3, 1) := by decide +kernel
theorem d_M_shift_169 : decode b_M_shift 169 = .ok (.invokevirtual 225, 3) := by decide +kernel
theorem d_M_shift_172 : decode b_M_shift 172 = .ok (.return_, 1) := by decide +kernel
abbrev b_M_moveWords : ByteArray := prog_3_method_35_code
abbrev y_M_moveWords : MethodName := ⟨"SignMachine$Machine", "moveWords", "()V"⟩
theorem h_M_moveWords : (y_M_moveWords).cls ≠ "java/lang/invoke/MethodHandle" ∧ (y_M_moveWords).cls ≠ "java/lang/invoke/VarHandle" ∧ (parseMethodDescriptor (y_M_moveWords).desc).map (fun d => d.parameters.length) = some 0 := by decide +kernel
theorem d_M_moveWords_0 : decode b_M_moveWords 0 = .ok (.aload_n 0, 1) := by decide +kernel
theorem d_M_moveWords_1 : decode b_M_moveWords 1 = .ok (.iconst 1, 1) := by decide +kernel
theorem d_M_moveWords_2 : decode b_M_moveWords 2 = .ok (.invokevirtual 84, 3) := by decide +kernel
theorem d_M_moveWords_5 : decode b_M_moveWords 5 = .ok (.invokestatic 87, 3) := by decide +kernel
theorem d_M_moveWords_8 : decode b_M_moveWords 8 = .ok (.istore_n 1, 1) := by decide +kernel
theorem d_M_moveWords_9 : decode b_M_moveWords 9 = .ok (.iconst 0, 1) := by decide +kernel
theorem d_M_moveWords_10 : decode b_M_moveWords 10 = .ok (.istore_n 2, 1) := by decide +kernel
theorem d_M_moveWords_11 : decode b_M_moveWords 11 = .ok (.iload_n 2, 1) := by decide +kernel
theorem d_M_moveWords_12 : decode b_M_moveWords 12 = .ok (.aload_n 0, 1) := by decide +kernel
theorem d_M_moveWords_13 : decode b_M_moveWords 13 = .ok (.getfield 64, 3) := by decide +kernel
theorem d_M_moveWords_16 : decode b_M_moveWords 16 = .ok (.if_icmp .ge 26, 3) := by decide +kernel
theorem d_M_moveWords_19 : decode b_M_moveWords 19 = .ok (.aload_n 0, 1) := by decide +kernel
theorem d_M_moveWords_20 : decode b_M_moveWords 20 = .ok (.iload_n 1, 1) := by decide +kernel
theorem d_M_moveWords_21 : decode b_M_moveWords 21 = .ok (.iload_n 2, 1) := by decide +kernel
theorem d_M_moveWords_22 : decode b_M_moveWords 22 = .ok (.iadd, 1) := by decide +kernel
theorem d_M_moveWords_23 : decode b_M_moveWords 23 = .ok (.aload_n 0, 1) := by decide +kernel
theorem d_M_moveWords_24 : decode b_M_moveWords 24 = .ok (.aload_n 0, 1) := by decide +kernel
theorem d_M_moveWords_25 : decode b_M_moveWords 25 = .ok (.getfield 81, 3) := by decide +kernel
theorem d_M_moveWords_28 : decode b_M_moveWords 28 = .ok (.iload_n 2, 1) := by decide +kernel
theorem d_M_moveWords_29 : decode b_M_moveWords 29 = .ok (.iadd, 1) := by decide +kernel
theorem d_M_moveWords_30 : decode b_M_moveWords 30 = .ok (.invokevirtual 39, 3) := by decide +kernel
theorem d_M_moveWords_33 : decode b_M_moveWords 33 = .ok (.invokevirtual 232, 3) := by decide +kernel
theorem d_M_moveWords_36 : decode b_M_moveWords 36 = .ok (.iinc 2 1, 3) := by decide +kernel
theorem d_M_moveWords_39 : decode b_M_moveWords 39 = .ok (.goto (-28), 3) := by decide +kernel
theorem d_M_moveWords_42 : decode b_M_moveWords 42 = .ok (.aload_n 0, 1) := by decide +kernel
theorem d_M_moveWords_43 : decode b_M_moveWords 43 = .ok (.iconst 1, 1) := by decide +kernel
theorem d_M_moveWords_44 : decode b_M_moveWords 44 = .ok (.aload_n 0, 1) := by decide +kernel
theorem d_M_moveWords_45 : decode b_M_moveWords 45 = .ok (.getfield 64, 3) := by decide +kernel
theorem d_M_moveWords_48 : decode b_M_moveWords 48 = .ok (.invokevirtual 166, 3) := by decide +kernel
theorem d_M_moveWords_51 : decode b_M_moveWords 51 = .ok (.return_, 1) := by decide +kernel
abbrev b_W_opposite : ByteArray := prog_9_method_7_code
abbrev y_W_opposite : MethodName := ⟨"SignMachine$Word", "opposite", "(I)I"⟩
theorem h_W_opposite : (y_W_opposite).cls ≠ "java/lang/invoke/MethodHandle" ∧ (y_W_opposite).cls ≠ "java/lang/invoke/VarHandle" ∧ (parseMethodDescriptor (y_W_opposite).desc).map (fun d => d.parameters.length) = some 1 := by decide +kernel
theorem d_W_opposite_0 : decode b_W_opposite 0 = .ok (.iload_n 0, 1) := by decide +kernel
theorem d_W_opposite_1 : decode b_W_opposite 1 = .ok (.ldc 10, 2) := by decide +kernel
theorem d_W_opposite_3 : decode b_W_opposite 3 = .ok (.ixor, 1) := by decide +kernel
theorem d_W_opposite_4 : decode b_W_opposite 4 = .ok (.ireturn, 1) := by decide +kernel
abbrev b_M_storeWord : ByteArray := prog_3_method_36_code
abbrev y_M_storeWord : MethodName := ⟨"SignMachine$Machine", "storeWord", "(I)V"⟩
theorem h_M_storeWord : (y_M_storeWord).cls ≠ "java/lang/invoke/MethodHandle" ∧ (y_M_storeWord).cls ≠ "java/lang/invoke/VarHandle" ∧ (parseMethodDescriptor (y_M_storeWord).desc).map (fun d => d.parameters.length) = some 1 := by decide +kernel
theorem d_M_storeWord_0 : decode b_M_storeWord 0 = .ok (.aload_n 0, 1) := by decide +kernel
theorem d_M_storeWord_1 : decode b_M_storeWord 1 = .ok (.aload_n 0, 1) := by decide +kernel
theorem d_M_storeWord_2 : decode b_M_storeWord 2 = .ok (.getfield 81, 3) := by decide +kernel
theorem d_M_storeWord_5 : decode b_M_storeWord 5 = .ok (.aload_n 0, 1) := by decide +kernel
theorem d_M_storeWord_6 : decode b_M_storeWord 6 = .ok (.aload_n 0, 1) := by decide +kernel
theorem d_M_storeWord_7 : decode b_M_storeWord 7 = .ok (.getfield 81, 3) := by decide +kernel
theorem d_M_storeWord_10 : decode b_M_storeWord 10 = .ok (.invokevirtual 39, 3) := by decide +kernel
theorem d_M_storeWord_13 : decode b_M_storeWord 13 = .ok (.iload_n 1, 1) := by decide +kernel
theorem d_M_storeWord_14 : decode b_M_storeWord 14 = .ok (.aload_n 0, 1) := by decide +kernel
theorem d_M_storeWord_15 : decode b_M_storeWord 15 = .ok (.getfield 64, 3) := by decide +kernel
theorem d_M_storeWord_18 : decode b_M_storeWord 18 = .ok (.invokestatic 235, 3) := by decide +kernel
theorem d_M_storeWord_21 : decode b_M_storeWord 21 = .ok (.invokevirtual 232, 3) := by decide +kernel
theorem d_M_storeWord_24 : decode b_M_storeWord 24 = .ok (.return_, 1) := by decide +kernel
abbrev b_W_store : ByteArray := prog_9_method_13_code
abbrev y_W_store : MethodName := ⟨"SignMachine$Word", "store", "(III)I"⟩
theorem h_W_store : (y_W_store).cls ≠ "java/lang/invoke/MethodHandle" ∧ (y_W_store).cls ≠ "java/lang/invoke/VarHandle" ∧ (parseMethodDescriptor (y_W_store).desc).map (fun d => d.parameters.length) = some 3 := by decide +kernel
theorem d_W_store_0 : decode b_W_store 0 = .ok (.iload_n 2, 1) := by decide +kernel
theorem d_W_store_1 : decode b_W_store 1 = .ok (.invokestatic 22, 3) := by decide +kernel
theorem d_W_store_4 : decode b_W_store 4 = .ok (.istore_n 3, 1) := by decide +kernel
theorem d_W_store_5 : decode b_W_store 5 = .ok (.iload_n 2, 1) := by decide +kernel
theorem d_W_store_6 : decode b_W_store 6 = .ok (.invokestatic 19, 3) := by decide +kernel
theorem d_W_store_9 : decode b_W_store 9 = .ok (.istore 4, 2) := by decide +kernel
theorem d_W_store_11 : decode b_W_store 11 = .ok (.iload_n 0, 1) := by decide +kernel
theorem d_W_store_12 : decode b_W_store 12 = .ok (.invokestatic 15, 3) := by decide +kernel
theorem d_W_store_15 : decode b_W_store 15 = .ok (.iload_n 3, 1) := by decide +kernel
theorem d_W_store_16 : decode b_W_store 16 = .ok (.iload 4, 2) := by decide +kernel
theorem d_W_store_18 : decode b_W_store 18 = .ok (.ishl, 1) := by decide +kernel
theorem d_W_store_19 : decode b_W_store 19 = .ok (.iconst (-1), 1) := by decide +kernel
theorem d_W_store_20 : decode b_W_store 20 = .ok (.ixor, 1) := by decide +kernel
theorem d_W_store_21 : decode b_W_store 21 = .ok (.iand, 1) := by decide +kernel
theorem d_W_store_22 : decode b_W_store 22 = .ok (.iload_n 1, 1) := by decide +kernel
theorem d_W_store_23 : decode b_W_store 23 = .ok (.iload_n 3, 1) := by decide +kernel
theorem d_W_store_24 : decode b_W_store 24 = .ok (.iand, 1) := by decide +kernel
theorem d_W_store_25 : decode b_W_store 25 = .ok (.iload 4, 2) := by decide +kernel
theorem d_W_store_27 : decode b_W_store 27 = .ok (.ishl, 1) := by decide +kernel
theorem d_W_store_28 : decode b_W_store 28 = .ok (.ior, 1) := by decide +kernel
theorem d_W_store_29 : decode b_W_store 29 = .ok (.istore 5, 2) := by decide +kernel
theorem d_W_store_31 : decode b_W_store 31 = .ok (.iload_n 2, 1) := by decide +kernel
theorem d_W_store_32 : decode b_W_store 32 = .ok (.iconst 3, 1) := by decide +kernel
theorem d_W_store_33 : decode b_W_store 33 = .ok (.ishr, 1) := by decide +kernel
theorem d_W_store_34 : decode b_W_store 34 = .ok (.ifCond .ne 10, 3) := by decide +kernel
theorem d_W_store_37 : decode b_W_store 37 = .ok (.iload_n 1, 1) := by decide +kernel
theorem d_W_store_38 : decode b_W_store 38 = .ok (.invokestatic 25, 3) := by decide +kernel
theorem d_W_store_41 : decode b_W_store 41 = .ok (.goto 7, 3) := by decide +kernel
theorem d_W_store_44 : decode b_W_store 44 = .ok (.iload_n 0, 1) := by decide +kernel
theorem d_W_store_45 : decode b_W_store 45 = .ok (.invokestatic 25, 3) := by decide +kernel
theorem d_W_store_48 : decode b_W_store 48 = .ok (.iload 5, 2) := by decide +kernel
theorem d_W_store_50 : decode b_W_store 50 = .ok (.invokestatic 11, 3) := by decide +kernel
theorem d_W_store_53 : decode b_W_store 53 = .ok (.ireturn, 1) := by decide +kernel
abbrev b_M_wind : ByteArray := prog_3_method_37_code
abbrev y_M_wind : MethodName := ⟨"SignMachine$Machine", "wind", "()V"⟩
theorem h_M_wind : (y_M_wind).cls ≠ "java/lang/invoke/MethodHandle" ∧ (y_M_wind).cls ≠ "java/lang/invoke/VarHandle" ∧ (parseMethodDescriptor (y_M_wind).desc).map (fun d => d.parameters.length) = some 0 := by decide +kernel
theorem d_M_wind_0 : decode b_M_wind 0 = .ok (.aload_n 0, 1) := by decide +kernel
theorem d_M_wind_1 : decode b_M_wind 1 = .ok (.aload_n 0, 1) := by decide +kernel
theorem d_M_wind_2 : decode b_M_wind 2 = .ok (.getfield 64, 3) := by decide +kernel
theorem d_M_wind_5 : decode b_M_wind 5 = .ok (.invokevirtual 127, 3) := by decide +kernel
theorem d_M_wind_8 : decode b_M_wind 8 = .ok (.astore_n 1, 1) := by decide +kernel
theorem d_M_wind_9 : decode b_M_wind 9 = .ok (.aload_n 1, 1) := by decide +kernel
theorem d_M_wind_10 : decode b_M_wind 10 = .ok (.aload_n 0, 1) := by decide +kernel
theorem d_M_wind_11 : decode b_M_wind 11 = .ok (.getfield 81, 3) := by decide +kernel
theorem d_M_wind_14 : decode b_M_wind 14 = .ok (.ifCond .ne 7, 3) := by decide +kernel
theorem d_M_wind_17 : decode b_M_wind 17 = .ok (.iconst 0, 1) := by decide +kernel
theorem d_M_wind_18 : decode b_M_wind 18 = .ok (.goto 12, 3) := by decide +kernel
theorem d_M_wind_21 : decode b_M_wind 21 = .ok (.aload_n 1, 1) := by decide +kernel
theorem d_M_wind_22 : decode b_M_wind 22 = .ok (.getfield 131, 3) := by decide +kernel
theorem d_M_wind_25 : decode b_M_wind 25 = .ok (.aload_n 0, 1) := by decide +kernel
theorem d_M_wind_26 : decode b_M_wind 26 = .ok (.getfield 81, 3) := by decide +kernel
theorem d_M_wind_29 : decode b_M_wind 29 = .ok (.iadd, 1) := by decide +kernel
theorem d_M_wind_30 : decode b_M_wind 30 = .ok (.putfield 131, 3) := by decide +kernel
theorem d_M_wind_33 : decode b_M_wind 33 = .ok (.return_, 1) := by decide +kernel
abbrev b_M_readBlock : ByteArray := prog_3_method_38_code
abbrev y_M_readBlock : MethodName := ⟨"SignMachine$Machine", "readBlock", "()V"⟩
theorem h_M_readBlock : (y_M_readBlock).cls ≠ "java/lang/invoke/MethodHandle" ∧ (y_M_readBlock).cls ≠ "java/lang/invoke/VarHandle" ∧ (parseMethodDescriptor (y_M_readBlock).desc).map (fun d => d.parameters.length) = some 0 := by decide +kernel
theorem d_M_readBlock_0 : decode b_M_readBlock 0 = .ok (.aload_n 0, 1) := by decide +kernel
theorem d_M_readBlock_1 : decode b_M_readBlock 1 = .ok (.aload_n 0, 1) := by decide +kernel
theorem d_M_readBlock_2 : decode b_M_readBlock 2 = .ok (.getfield 64, 3) := by decide +kernel
theorem d_M_readBlock_5 : decode b_M_readBlock 5 = .ok (.invokevirtual 127, 3) := by decide +kernel
theorem d_M_readBlock_8 : decode b_M_readBlock 8 = .ok (.astore_n 1, 1) := by decide +kernel
theorem d_M_readBlock_9 : decode b_M_readBlock 9 = .ok (.iconst 0, 1) := by decide +kernel
theorem d_M_readBlock_10 : decode b_M_readBlock 10 = .ok (.istore_n 2, 1) := by decide +kernel
theorem d_M_readBlock_11 : decode b_M_readBlock 11 = .ok (.iload_n 2, 1) := by decide +kernel
theorem d_M_readBlock_12 : decode b_M_readBlock 12 = .ok (.bipush 100, 2) := by decide +kernel
theorem d_M_readBlock_14 : decode b_M_readBlock 14 = .ok (.if_icmp .ge 28, 3) := by decide +kernel
theorem d_M_readBlock_17 : decode b_M_readBlock 17 = .ok (.aload_n 0, 1) := by decide +kernel
theorem d_M_readBlock_18 : decode b_M_readBlock 18 = .ok (.aload_n 0, 1) := by decide +kernel
theorem d_M_readBlock_19 : decode b_M_readBlock 19 = .ok (.getfield 81, 3) := by decide +kernel
theorem d_M_readBlock_22 : decode b_M_readBlock 22 = .ok (.iload_n 2, 1) := by decide +kernel
theorem d_M_readBlock_23 : decode b_M_readBlock 23 = .ok (.iadd, 1) := by decide +kernel
theorem d_M_readBlock_24 : decode b_M_readBlock 24 = .ok (.aload_n 1, 1) := by decide +kernel
theorem d_M_readBlock_25 : decode b_M_readBlock 25 = .ok (.aload_n 1, 1) := by decide +kernel
theorem d_M_readBlock_26 : decode b_M_readBlock 26 = .ok (.getfield 131, 3) := by decide +kernel
theorem d_M_readBlock_29 : decode b_M_readBlock 29 = .ok (.iload_n 2, 1) := by decide +kernel
theorem d_M_readBlock_30 : decode b_M_readBlock 30 = .ok (.invokevirtual 239, 3) := by decide +kernel
theorem d_M_readBlock_33 : decode b_M_readBlock 33 = .ok (.invokevirtual 232, 3) := by decide +kernel
theorem d_M_readBlock_36 : decode b_M_readBlock 36 = .ok (.iinc 2 1, 3) := by decide +kernel
theorem d_M_readBlock_39 : decode b_M_readBlock 39 = .ok (.goto (-28), 3) := by decide +kernel
theorem d_M_readBlock_42 : decode b_M_readBlock 42 = .ok (.aload_n 1, 1) := by decide +kernel
theorem d_M_readBlock_43 : decode b_M_readBlock 43 = .ok (.dup, 1) := by decide +kernel
theorem d_M_readBlock_44 : decode b_M_readBlock 44 = .ok (.getfield 131, 3) := by decide +kernel
theorem d_M_readBlock_47 : decode b_M_readBlock 47 = .ok (.iconst 1, 1) := by decide +kernel
theorem d_M_readBlock_48 : decode b_M_readBlock 48 = .ok (.iadd, 1) := by decide +kernel
theorem d_M_readBlock_49 : decode b_M_readBlock 49 = .ok (.putfield 131, 3) := by decide +kernel
theorem d_M_readBlock_52 : decode b_M_readBlock 52 = .ok (.return_, 1) := by decide +kernel
abbrev b_M_goIf : ByteArray := prog_3_method_40_code
abbrev y_M_goIf : MethodName := ⟨"SignMachine$Machine", "goIf", "(Z)V"⟩
theorem h_M_goIf : (y_M_goIf).cls ≠ "java/lang/invoke/MethodHandle" ∧ (y_M_goIf).cls ≠ "java/lang/invoke/VarHandle" ∧ (parseMethodDescriptor (y_M_goIf).desc).map (fun d => d.parameters.length) = some 1 := by decide +kernel
theorem d_M_goIf_0 : decode b_M_goIf 0 = .ok (.iload_n 1, 1) := by decide +kernel
theorem d_M_goIf_1 : decode b_M_goIf 1 = .ok (.ifCond .eq 21, 3) := by decide +kernel
theorem d_M_goIf_4 : decode b_M_goIf 4 = .ok (.aload_n 0, 1) := by decide +kernel
theorem d_M_goIf_5 : decode b_M_goIf 5 = .ok (.bipush 8, 2) := by decide +kernel
theorem d_M_goIf_7 : decode b_M_goIf 7 = .ok (.aload_n 0, 1) := by decide +kernel
theorem d_M_goIf_8 : decode b_M_goIf 8 = .ok (.getfield 32, 3) := by decide +kernel
theorem d_M_goIf_11 : decode b_M_goIf 11 = .ok (.invokevirtual 140, 3) := by decide +kernel
theorem d_M_goIf_14 : decode b_M_goIf 14 = .ok (.aload_n 0, 1) := by decide +kernel
theorem d_M_goIf_15 : decode b_M_goIf 15 = .ok (.aload_n 0, 1) := by decide +kernel
theorem d_M_goIf_16 : decode b_M_goIf 16 = .ok (.getfield 81, 3) := by decide +kernel
theorem d_M_goIf_19 : decode b_M_goIf 19 = .ok (.putfield 32, 3) := by decide +kernel
theorem d_M_goIf_22 : decode b_M_goIf 22 = .ok (.return_, 1) := by decide +kernel
abbrev b_M_goByState : ByteArray := prog_3_method_41_code
abbrev y_M_goByState : MethodName := ⟨"SignMachine$Machine", "goByState", "()V"⟩
theorem h_M_goByState : (y_M_goByState).cls ≠ "java/lang/invoke/MethodHandle" ∧ (y_M_goByState).cls ≠ "java/lang/invoke/VarHandle" ∧ (parseMethodDescriptor (y_M_goByState).desc).map (fun d => d.parameters.length) = some 0 := by decide +kernel
theorem d_M_goByState_0 : decode b_M_goByState 0 = .ok (.aload_n 0, 1) := by decide +kernel
theorem d_M_goByState_1 : decode b_M_goByState 1 = .ok (.getfield 196, 3) := by decide +kernel
theorem d_M_goByState_4 : decode b_M_goByState 4 = .ok (.istore_n 1, 1) := by decide +kernel
theorem d_M_goByState_5 : decode b_M_goByState 5 = .ok (.aload_n 0, 1) := by decide +kernel
theorem d_M_goByState_6 : decode b_M_goByState 6 = .ok (.getfield 64, 3) := by decide +kernel
theorem d_M_goByState_9 : decode b_M_goByState 9 = .ok (.tableswitch 199 0 8 #[51, 59, 70, 83, 104, 123, 142, 161, 180], 51) := by decide +kernel
theorem d_M_goByState_60 : decode b_M_goByState 60 = .ok (.aload_n 0, 1) := by decide +kernel
theorem d_M_goByState_61 : decode b_M_goByState 61 = .ok (.iconst 1, 1) := by decide +kernel
theorem d_M_goByState_62 : decode b_M_goByState 62 = .ok (.invokevirtual 156, 3) := by decide +kernel
theorem d_M_goByState_65 : decode b_M_goByState 65 = .ok (.goto 159, 3) := by decide +kernel
theorem d_M_goByState_68 : decode b_M_goByState 68 = .ok (.aload_n 0, 1) := by decide +kernel
theorem d_M_goByState_69 : decode b_M_goByState 69 = .ok (.aload_n 0, 1) := by decide +kernel
theorem d_M_goByState_70 : decode b_M_goByState 70 = .ok (.getfield 81, 3) := by decide +kernel
theorem d_M_goByState_73 : decode b_M_goByState 73 = .ok (.putfield 32, 3) := by decide +kernel
theorem d_M_goByState_76 : decode b_M_goByState 76 = .ok (.goto 148, 3) := by decide +kernel
theorem d_M_goByState_79 : decode b_M_goByState 79 = .ok (.aload_n 0, 1) := by decide +kernel
theorem d_M_goByState_80 : decode b_M_goByState 80 = .ok (.iconst 0, 1) := by decide +kernel
theorem d_M_goByState_81 : decode b_M_goByState 81 = .ok (.putfield 196, 3) := by decide +kernel
theorem d_M_goByState_84 : decode b_M_goByState 84 = .ok (.aload_n 0, 1) := by decide +kernel
theorem d_M_goByState_85 : decode b_M_goByState 85 = .ok (.iload_n 1, 1) := by decide +kernel
theorem d_M_goByState_86 : decode b_M_goByState 86 = .ok (.invokevirtual 156, 3) := by decide +kernel
theorem d_M_goByState_89 : decode b_M_goByState 89 = .ok (.goto 135, 3) := by decide +kernel
theorem d_M_goByState_92 : decode b_M_goByState 92 = .ok (.aload_n 0, 1) := by decide +kernel
theorem d_M_goByState_93 : decode b_M_goByState 93 = .ok (.iconst 0, 1) := by decide +kernel
theorem d_M_goByState_94 : decode b_M_goByState 94 = .ok (.putfield 196, 3) := by decide +kernel
theorem d_M_goByState_97 : decode b_M_goByState 97 = .ok (.aload_n 0, 1) := by decide +kernel
theorem d_M_goByState_98 : decode b_M_goByState 98 = .ok (.iload_n 1, 1) := by decide +kernel
theorem d_M_goByState_99 : decode b_M_goByState 99 = .ok (.ifCond .ne 7, 3) := by decide +kernel
theorem d_M_goByState_102 : decode b_M_goByState 102 = .ok (.iconst 1, 1) := by decide +kernel
theorem d_M_goByState_103 : decode b_M_goByState 103 = .ok (.goto 4, 3) := by decide +kernel
theorem d_M_goByState_106 : decode b_M_goByState 106 = .ok (.iconst 0, 1) := by decide +kernel
theorem d_M_goByState_107 : decode b_M_goByState 107 = .ok (.invokevirtual 156, 3) := by decide +kernel
theorem d_M_goByState_110 : decode b_M_goByState 110 = .ok (.goto 114, 3) := by decide +kernel
theorem d_M_goByState_113 : decode b_M_goByState 113 = .ok (.aload_n 0, 1) := by decide +kernel
theorem d_M_goByState_114 : decode b_M_goByState 114 = .ok (.aload_n 0, 1) := by decide +kernel
theorem d_M_goByState_115 : decode b_M_goByState 115 = .ok (.getfield 244, 3) := by decide +kernel
theorem d_M_goByState_118 : decode b_M_goByState 118 = .ok (.ifCond .ge 7, 3) := by decide +kernel
theorem d_M_goByState_121 : decode b_M_goByState 121 = .ok (.iconst 1, 1) := by decide +kernel
theorem d_M_goByState_122 : decode b_M_goByState 122 = .ok (.goto 4, 3) := by decide +kernel
theorem d_M_goByState_125 : decode b_M_goByState 125 = .ok (.iconst 0, 1) := by decide +kernel
theorem d_M_goByState_126 : decode b_M_goByState 126 = .ok (.invokevirtual 156, 3) := by decide +kernel
theorem d_M_goByState_129 : decode b_M_goByState 129 = .ok (.goto 95, 3) := by decide +kernel
theorem d_M_goByState_132 : decode b_M_goByState 132 = .ok (.aload_n 0, 1) := by decide +kernel
theorem d_M_goByState_133 : decode b_M_goByState 133 = .ok (.aload_n 0, 1) := by decide +kernel
theorem d_M_goByState_134 : decode b_M_goByState 134 = .ok (.getfield 244, 3) := by decide +kernel
theorem d_M_goByState_137 : decode b_M_goByState 137 = .ok (.ifCond .ne 7, 3) := by decide +kernel
theorem d_M_goByState_140 : decode b_M_goByState 140 = .ok (.iconst 1, 1) := by decide +kernel
theorem d_M_goByState_141 : decode b_M_goByState 141 = .ok (.goto 4, 3) := by decide +kernel
theorem d_M_goByState_144 : decode b_M_goByState 144 = .ok (.iconst 0, 1) := by decide +kernel
theorem d_M_goByState_145 : decode b_M_goByState 145 = .ok (.invokevirtual 156, 3) := by decide +kernel
theorem d_M_goByState_148 : decode b_M_goByState 148 = .ok (.goto 76, 3) := by decide +kernel
theorem d_M_goByState_151 : decode b_M_goByState 151 = .ok (.aload_n 0, 1) := by decide +kernel
theorem d_M_goByState_152 : decode b_M_goByState 152 = .ok (.aload_n 0, 1) := by decide +kernel
theorem d_M_goByState_153 : decode b_M_goByState 153 = .ok (.getfield 244, 3) := by decide +kernel
theorem d_M_goByState_156 : decode b_M_goByState 156 = .ok (.ifCond .le 7, 3) := by decide +kernel
theorem d_M_goByState_159 : decode b_M_goByState 159 = .ok (.iconst 1, 1) := by decide +kernel
theorem d_M_goByState_160 : decode b_M_goByState 160 = .ok (.goto 4, 3) := by decide +kernel
theorem d_M_goByState_163 : decode b_M_goByState 163 = .ok (.iconst 0, 1) := by decide +kernel
theorem d_M_goByState_164 : decode b_M_goByState 164 = .ok (.invokevirtual 156, 3) := by decide +kernel
theorem d_M_goByState_167 : decode b_M_goByState 167 = .ok (.goto 57, 3) := by decide +kernel
theorem d_M_goByState_170 : decode b_M_goByState 170 = .ok (.aload_n 0, 1) := by decide +kernel
theorem d_M_goByState_171 : decode b_M_goByState 171 = .ok (.aload_n 0, 1) := by decide +kernel
theorem d_M_goByState_172 : decode b_M_goByState 172 = .ok (.getfield 244, 3) := by decide +kernel
theorem d_M_goByState_175 : decode b_M_goByState 175 = .ok (.ifCond .lt 7, 3) := by decide +kernel
theorem d_M_goByState_178 : decode b_M_goByState 178 = .ok (.iconst 1, 1) := by decide +kernel
theorem d_M_goByState_179 : decode b_M_goByState 179 = .ok (.goto 4, 3) := by decide +kernel
theorem d_M_goByState_182 : decode b_M_goByState 182 = .ok (.iconst 0, 1) := by decide +kernel
theorem d_M_goByState_183 : decode b_M_goByState 183 = .ok (.invokevirtual 156, 3) := by decide +kernel
theorem d_M_goByState_186 : decode b_M_goByState 186 = .ok (.goto 38, 3) := by decide +kernel
theorem d_M_goByState_189 : decode b_M_goByState 189 = .ok (.aload_n 0, 1) := by decide +kernel
theorem d_M_goByState_190 : decode b_M_goByState 190 = .ok (.aload_n 0, 1) := by decide +kernel
theorem d_M_goByState_191 : decode b_M_goByState 191 = .ok (.getfield 244, 3) := by decide +kernel
theorem d_M_goByState_194 : decode b_M_goByState 194 = .ok (.ifCond .eq 7, 3) := by decide +kernel
theorem d_M_goByState_197 : decode b_M_goByState 197 = .ok (.iconst 1, 1) := by decide +kernel
theorem d_M_goByState_198 : decode b_M_goByState 198 = .ok (.goto 4, 3) := by decide +kernel
theorem d_M_goByState_201 : decode b_M_goByState 201 = .ok (.iconst 0, 1) := by decide +kernel
theorem d_M_goByState_202 : decode b_M_goByState 202 = .ok (.invokevirtual 156, 3) := by decide +kernel
theorem d_M_goByState_205 : decode b_M_goByState 205 = .ok (.goto 19, 3) := by decide +kernel
theorem d_M_goByState_208 : decode b_M_goByState 208 = .ok (.aload_n 0, 1) := by decide +kernel
theorem d_M_goByState_209 : decode b_M_goByState 209 = .ok (.aload_n 0, 1) := by decide +kernel
theorem d_M_goByState_210 : decode b_M_goByState 210 = .ok (.getfield 244, 3) := by decide +kernel
theorem d_M_goByState_213 : decode b_M_goByState 213 = .ok (.ifCond .gt 7, 3) := by decide +kernel
theorem d_M_goByState_216 : decode b_M_goByState 216 = .ok (.iconst 1, 1) := by decide +kernel
theorem d_M_goByState_217 : decode b_M_goByState 217 = .ok (.goto 4, 3) := by decide +kernel
theorem d_M_goByState_220 : decode b_M_goByState 220 = .ok (.iconst 0, 1) := by decide +kernel
theorem d_M_goByState_221 : decode b_M_goByState 221 = .ok (.invokevirtual 156, 3) := by decide +kernel
theorem d_M_goByState_224 : decode b_M_goByState 224 = .ok (.return_, 1) := by decide +kernel
abbrev b_M_registerIs : ByteArray := prog_3_method_42_code
abbrev y_M_registerIs : MethodName := ⟨"SignMachine$Machine", "registerIs", "(I)Z"⟩
theorem h_M_registerIs : (y_M_registerIs).cls ≠ "java/lang/invoke/MethodHandle" ∧ (y_M_registerIs).cls ≠ "java/lang/invoke/VarHandle" ∧ (parseMethodDescriptor (y_M_registerIs).desc).map (fun d => d.parameters.length) = some 1 := by decide +kernel
theorem d_M_registerIs_0 : decode b_M_registerIs 0 = .ok (.aload_n 0, 1) := by decide +kernel
theorem d_M_registerIs_1 : decode b_M_registerIs 1 = .ok (.getfield 64, 3) := by decide +kernel
theorem d_M_registerIs_4 : decode b_M_registerIs 4 = .ok (.tableswitch 86 0 4 #[36, 46, 56, 66, 76], 36) := by decide +kernel
theorem d_M_registerIs_40 : decode b_M_registerIs 40 = .ok (.iload_n 1, 1) := by decide +kernel
theorem d_M_registerIs_41 : decode b_M_registerIs 41 = .ok (.ifCond .ge 7, 3) := by decide +kernel
theorem d_M_registerIs_44 : decode b_M_registerIs 44 = .ok (.iconst 1, 1) := by decide +kernel
theorem d_M_registerIs_45 : decode b_M_registerIs 45 = .ok (.goto 4, 3) := by decide +kernel
theorem d_M_registerIs_48 : decode b_M_registerIs 48 = .ok (.iconst 0, 1) := by decide +kernel
theorem d_M_registerIs_49 : decode b_M_registerIs 49 = .ok (.ireturn, 1) := by decide +kernel
theorem d_M_registerIs_50 : decode b_M_registerIs 50 = .ok (.iload_n 1, 1) := by decide +kernel
theorem d_M_registerIs_51 : decode b_M_registerIs 51 = .ok (.ifCond .ne 7, 3) := by decide +kernel
theorem d_M_registerIs_54 : decode b_M_registerIs 54 = .ok (.iconst 1, 1) := by decide +kernel
theorem d_M_registerIs_55 : decode b_M_registerIs 55 = .ok (.goto 4, 3) := by decide +kernel
theorem d_M_registerIs_58 : decode b_M_registerIs 58 = .ok (.iconst 0, 1) := by decide +kernel
theorem d_M_registerIs_59 : decode b_M_registerIs 59 = .ok (.ireturn, 1) := by decide +kernel
theorem d_M_registerIs_60 : decode b_M_registerIs 60 = .ok (.iload_n 1, 1) := by decide +kernel
theorem d_M_registerIs_61 : decode b_M_registerIs 61 = .ok (.ifCond .le 7, 3) := by decide +kernel
theorem d_M_registerIs_64 : decode b_M_registerIs 64 = .ok (.iconst 1, 1) := by decide +kernel
theorem d_M_registerIs_65 : decode b_M_registerIs 65 = .ok (.goto 4, 3) := by decide +kernel
theorem d_M_registerIs_68 : decode b_M_registerIs 68 = .ok (.iconst 0, 1) := by decide +kernel
theorem d_M_registerIs_69 : decode b_M_registerIs 69 = .ok (.ireturn, 1) := by decide +kernel
theorem d_M_registerIs_70 : decode b_M_registerIs 70 = .ok (.iload_n 1, 1) := by decide +kernel
theorem d_M_registerIs_71 : decode b_M_registerIs 71 = .ok (.ifCond .lt 7, 3) := by decide +kernel
theorem d_M_registerIs_74 : decode b_M_registerIs 74 = .ok (.iconst 1, 1) := by decide +kernel
theorem d_M_registerIs_75 : decode b_M_registerIs 75 = .ok (.goto 4, 3) := by decide +kernel
theorem d_M_registerIs_78 : decode b_M_registerIs 78 = .ok (.iconst 0, 1) := by decide +kernel
theorem d_M_registerIs_79 : decode b_M_registerIs 79 = .ok (.ireturn, 1) := by decide +kernel
theorem d_M_registerIs_80 : decode b_M_registerIs 80 = .ok (.iload_n 1, 1) := by decide +kernel
theorem d_M_registerIs_81 : decode b_M_registerIs 81 = .ok (.ifCond .eq 7, 3) := by decide +kernel
theorem d_M_registerIs_84 : decode b_M_registerIs 84 = .ok (.iconst 1, 1) := by decide +kernel
theorem d_M_registerIs_85 : decode b_M_registerIs 85 = .ok (.goto 4, 3) := by decide +kernel
theorem d_M_registerIs_88 : decode b_M_registerIs 88 = .ok (.iconst 0, 1) := by decide +kernel
theorem d_M_registerIs_89 : decode b_M_registerIs 89 = .ok (.ireturn, 1) := by decide +kernel
theorem d_M_registerIs_90 : decode b_M_registerIs 90 = .ok (.iload_n 1, 1) := by decide +kernel
theorem d_M_registerIs_91 : decode b_M_registerIs 91 = .ok (.ifCond .gt 7, 3) := by decide +kernel
theorem d_M_registerIs_94 : decode b_M_registerIs 94 = .ok (.iconst 1, 1) := by decide +kernel
theorem d_M_registerIs_95 : decode b_M_registerIs 95 = .ok (.goto 4, 3) := by decide +kernel
theorem d_M_registerIs_98 : decode b_M_registerIs 98 = .ok (.iconst 0, 1) := by decide +kernel
theorem d_M_registerIs_99 : decode b_M_registerIs 99 = .ok (.ireturn, 1) := by decide +kernel
abbrev b_M_changeByAddress : ByteArray := prog_3_method_44_code
abbrev y_M_changeByAddress : MethodName := ⟨"SignMachine$Machine", "changeByAddress", "(I)V"⟩
theorem h_M_changeByAddress : (y_M_changeByAddress).cls ≠ "java/lang/invoke/MethodHandle" ∧ (y_M_changeByAddress).cls ≠ "java/lang/invoke/VarHandle" ∧ (parseMethodDescriptor (y_M_changeByAddress).desc).map (fun d => d.parameters.length) = some 1 := by decide +kernel
theorem d_M_changeByAddress_0 : decode b_M_changeByAddress 0 = .ok (.aload_n 0, 1) := by decide +kernel
theorem d_M_changeByAddress_1 : decode b_M_changeByAddress 1 = .ok (.getfield 64, 3) := by decide +kernel
theorem d_M_changeByAddress_4 : decode b_M_changeByAddress 4 = .ok (.tableswitch 72 0 2 #[28, 40, 53], 28) := by decide +kernel
theorem d_M_changeByAddress_32 : decode b_M_changeByAddress 32 = .ok (.aload_n 0, 1) := by decide +kernel
theorem d_M_changeByAddress_33 : decode b_M_changeByAddress 33 = .ok (.iload_n 1, 1) := by decide +kernel
theorem d_M_changeByAddress_34 : decode b_M_changeByAddress 34 = .ok (.aload_n 0, 1) := by decide +kernel
theorem d_M_changeByAddress_35 : decode b_M_changeByAddress 35 = .ok (.getfield 81, 3) := by decide +kernel
theorem d_M_changeByAddress_38 : decode b_M_changeByAddress 38 = .ok (.invokevirtual 166, 3) := by decide +kernel
theorem d_M_changeByAddress_41 : decode b_M_changeByAddress 41 = .ok (.goto 54, 3) := by decide +kernel
theorem d_M_changeByAddress_44 : decode b_M_changeByAddress 44 = .ok (.aload_n 0, 1) := by decide +kernel
theorem d_M_changeByAddress_45 : decode b_M_changeByAddress 45 = .ok (.iload_n 1, 1) := by decide +kernel
theorem d_M_changeByAddress_46 : decode b_M_changeByAddress 46 = .ok (.aload_n 0, 1) := by decide +kernel
theorem d_M_changeByAddress_47 : decode b_M_changeByAddress 47 = .ok (.getfield 81, 3) := by decide +kernel
theorem d_M_changeByAddress_50 : decode b_M_changeByAddress 50 = .ok (.ineg, 1) := by decide +kernel
theorem d_M_changeByAddress_51 : decode b_M_changeByAddress 51 = .ok (.invokevirtual 166, 3) := by decide +kernel
theorem d_M_changeByAddress_54 : decode b_M_changeByAddress 54 = .ok (.goto 41, 3) := by decide +kernel
theorem d_M_changeByAddress_57 : decode b_M_changeByAddress 57 = .ok (.aload_n 0, 1) := by decide +kernel
theorem d_M_changeByAddress_58 : decode b_M_changeByAddress 58 = .ok (.iload_n 1, 1) := by decide +kernel
theorem d_M_changeByAddress_59 : decode b_M_changeByAddress 59 = .ok (.aload_n 0, 1) := by decide +kernel
theorem d_M_changeByAddress_60 : decode b_M_changeByAddress 60 = .ok (.getfield 81, 3) := by decide +kernel
theorem d_M_changeByAddress_63 : decode b_M_changeByAddress 63 = .ok (.aload_n 0, 1) := by decide +kernel
theorem d_M_changeByAddress_64 : decode b_M_changeByAddress 64 = .ok (.getfield 78, 3) := by decide +kernel
theorem d_M_changeByAddress_67 : decode b_M_changeByAddress 67 = .ok (.invokestatic 201, 3) := by decide +kernel
theorem d_M_changeByAddress_70 : decode b_M_changeByAddress 70 = .ok (.invokevirtual 140, 3) := by decide +kernel
theorem d_M_changeByAddress_73 : decode b_M_changeByAddress 73 = .ok (.goto 22, 3) := by decide +kernel
theorem d_M_changeByAddress_76 : decode b_M_changeByAddress 76 = .ok (.aload_n 0, 1) := by decide +kernel
theorem d_M_changeByAddress_77 : decode b_M_changeByAddress 77 = .ok (.iload_n 1, 1) := by decide +kernel
theorem d_M_changeByAddress_78 : decode b_M_changeByAddress 78 = .ok (.aload_n 0, 1) := by decide +kernel
theorem d_M_changeByAddress_79 : decode b_M_changeByAddress 79 = .ok (.getfield 81, 3) := by decide +kernel
theorem d_M_changeByAddress_82 : decode b_M_changeByAddress 82 = .ok (.aload_n 0, 1) := by decide +kernel
theorem d_M_changeByAddress_83 : decode b_M_changeByAddress 83 = .ok (.getfield 78, 3) := by decide +kernel
theorem d_M_changeByAddress_86 : decode b_M_changeByAddress 86 = .ok (.invokestatic 201, 3) := by decide +kernel
theorem d_M_changeByAddress_89 : decode b_M_changeByAddress 89 = .ok (.invokestatic 144, 3) := by decide +kernel
theorem d_M_changeByAddress_92 : decode b_M_changeByAddress 92 = .ok (.invokevirtual 140, 3) := by decide +kernel
theorem d_M_changeByAddress_95 : decode b_M_changeByAddress 95 = .ok (.return_, 1) := by decide +kernel
abbrev b_M_compareField : ByteArray := prog_3_method_45_code
abbrev y_M_compareField : MethodName := ⟨"SignMachine$Machine", "compareField", "(I)V"⟩
theorem h_M_compareField : (y_M_compareField).cls ≠ "java/lang/invoke/MethodHandle" ∧ (y_M_compareField).cls ≠ "java/lang/invoke/VarHandle" ∧ (parseMethodDescriptor (y_M_compareField).desc).map (fun d => d.parameters.length) = some 1 := by decide +kernel
theorem d_M_compareField_0 : decode b_M_compareField 0 = .ok (.aload_n 0, 1) := by decide +kernel
theorem d_M_compareField_1 : decode b_M_compareField 1 = .ok (.iload_n 1, 1) := by decide +kernel
theorem d_M_compareField_2 : decode b_M_compareField 2 = .ok (.aload_n 0, 1) := by decide +kernel
theorem d_M_compareField_3 : decode b_M_compareField 3 = .ok (.getfield 64, 3) := by decide +kernel
theorem d_M_compareField_6 : decode b_M_compareField 6 = .ok (.invokestatic 134, 3) := by decide +kernel
theorem d_M_compareField_9 : decode b_M_compareField 9 = .ok (.invokestatic 87, 3) := by decide +kernel
theorem d_M_compareField_12 : decode b_M_compareField 12 = .ok (.aload_n 0, 1) := by decide +kernel
theorem d_M_compareField_13 : decode b_M_compareField 13 = .ok (.invokevirtual 116, 3) := by decide +kernel
theorem d_M_compareField_16 : decode b_M_compareField 16 = .ok (.invokestatic 87, 3) := by decide +kernel
theorem d_M_compareField_19 : decode b_M_compareField 19 = .ok (.invokestatic 247, 3) := by decide +kernel
theorem d_M_compareField_22 : decode b_M_compareField 22 = .ok (.putfield 244, 3) := by decide +kernel
theorem d_M_compareField_25 : decode b_M_compareField 25 = .ok (.return_, 1) := by decide +kernel
abbrev b_S_run : ByteArray := prog_1_method_6_code
abbrev y_S_run : MethodName := ⟨"SignMachine", "run", "(I)I"⟩
theorem h_S_run : (y_S_run).cls ≠ "java/lang/invoke/MethodHandle" ∧ (y_S_run).cls ≠ "java/lang/invoke/VarHandle" ∧ (parseMethodDescriptor (y_S_run).desc).map (fun d => d.parameters.length) = some 1 := by decide +kernel
theorem d_S_run_0 : decode b_S_run 0 = .ok (.iload_n 1, 1) := by decide +kernel
theorem d_S_run_1 : decode b_S_run 1 = .ok (.iconst 1, 1) := by decide +kernel
theorem d_S_run_2 : decode b_S_run 2 = .ok (.if_icmp .lt 10, 3) := by decide +kernel
theorem d_S_run_5 : decode b_S_run 5 = .ok (.iload_n 1, 1) := by decide +kernel
theorem d_S_run_6 : decode b_S_run 6 = .ok (.sipush 20000, 3) := by decide +kernel
theorem d_S_run_9 : decode b_S_run 9 = .ok (.if_icmp .le 5, 3) := by decide +kernel
theorem d_S_run_12 : decode b_S_run 12 = .ok (.iconst (-1), 1) := by decide +kernel
theorem d_S_run_13 : decode b_S_run 13 = .ok (.ireturn, 1) := by decide +kernel
theorem d_S_run_14 : decode b_S_run 14 = .ok (.iconst 0, 1) := by decide +kernel
theorem d_S_run_15 : decode b_S_run 15 = .ok (.istore_n 2, 1) := by decide +kernel
theorem d_S_run_16 : decode b_S_run 16 = .ok (.iconst 0, 1) := by decide +kernel
theorem d_S_run_17 : decode b_S_run 17 = .ok (.istore_n 3, 1) := by decide +kernel
theorem d_S_run_18 : decode b_S_run 18 = .ok (.iconst 0, 1) := by decide +kernel
theorem d_S_run_19 : decode b_S_run 19 = .ok (.istore 4, 2) := by decide +kernel
theorem d_S_run_21 : decode b_S_run 21 = .ok (.iload 4, 2) := by decide +kernel
theorem d_S_run_23 : decode b_S_run 23 = .ok (.iload_n 1, 1) := by decide +kernel
theorem d_S_run_24 : decode b_S_run 24 = .ok (.if_icmp .ge 29, 3) := by decide +kernel
theorem d_S_run_27 : decode b_S_run 27 = .ok (.iload_n 3, 1) := by decide +kernel
theorem d_S_run_28 : decode b_S_run 28 = .ok (.ifCond .ne 25, 3) := by decide +kernel
theorem d_S_run_31 : decode b_S_run 31 = .ok (.aload_n 0, 1) := by decide +kernel
theorem d_S_run_32 : decode b_S_run 32 = .ok (.getfield 10, 3) := by decide +kernel
theorem d_S_run_35 : decode b_S_run 35 = .ok (.invokevirtual 44, 3) := by decide +kernel
theorem d_S_run_38 : decode b_S_run 38 = .ok (.istore_n 3, 1) := by decide +kernel
theorem d_S_run_39 : decode b_S_run 39 = .ok (.iload_n 3, 1) := by decide +kernel
theorem d_S_run_40 : decode b_S_run 40 = .ok (.iconst 1, 1) := by decide +kernel
theorem d_S_run_41 : decode b_S_run 41 = .ok (.if_icmp .gt 6, 3) := by decide +kernel
theorem d_S_run_44 : decode b_S_run 44 = .ok (.iinc 2 1, 3) := by decide +kernel
theorem d_S_run_47 : decode b_S_run 47 = .ok (.iinc 4 1, 3) := by decide +kernel
theorem d_S_run_50 : decode b_S_run 50 = .ok (.goto (-29), 3) := by decide +kernel
theorem d_S_run_53 : decode b_S_run 53 = .ok (.aload_n 0, 1) := by decide +kernel
theorem d_S_run_54 : decode b_S_run 54 = .ok (.getfield 10, 3) := by decide +kernel
theorem d_S_run_57 : decode b_S_run 57 = .ok (.iload_n 3, 1) := by decide +kernel
theorem d_S_run_58 : decode b_S_run 58 = .ok (.putfield 48, 3) := by decide +kernel
theorem d_S_run_61 : decode b_S_run 61 = .ok (.iload_n 2, 1) := by decide +kernel
theorem d_S_run_62 : decode b_S_run 62 = .ok (.ireturn, 1) := by decide +kernel
abbrev b_S_feed : ByteArray := prog_1_method_13_code
abbrev y_S_feed : MethodName := ⟨"SignMachine", "feed", "(IIIII)I"⟩
theorem h_S_feed : (y_S_feed).cls ≠ "java/lang/invoke/MethodHandle" ∧ (y_S_feed).cls ≠ "java/lang/invoke/VarHandle" ∧ (parseMethodDescriptor (y_S_feed).desc).map (fun d => d.parameters.length) = some 5 := by decide +kernel
theorem d_S_feed_0 : decode b_S_feed 0 = .ok (.aload_n 0, 1) := by decide +kernel
theorem d_S_feed_1 : decode b_S_feed 1 = .ok (.invokevirtual 95, 3) := by decide +kernel
theorem d_S_feed_4 : decode b_S_feed 4 = .ok (.getfield 99, 3) := by decide +kernel
theorem d_S_feed_7 : decode b_S_feed 7 = .ok (.astore 6, 2) := by decide +kernel
theorem d_S_feed_9 : decode b_S_feed 9 = .ok (.aload 6, 2) := by decide +kernel
theorem d_S_feed_11 : decode b_S_feed 11 = .ok (.invokevirtual 105, 3) := by decide +kernel
theorem d_S_feed_14 : decode b_S_feed 14 = .ok (.ifCond .ne 5, 3) := by decide +kernel
theorem d_S_feed_17 : decode b_S_feed 17 = .ok (.iconst (-1), 1) := by decide +kernel
theorem d_S_feed_18 : decode b_S_feed 18 = .ok (.ireturn, 1) := by decide +kernel
theorem d_S_feed_19 : decode b_S_feed 19 = .ok (.aload 6, 2) := by decide +kernel
theorem d_S_feed_21 : decode b_S_feed 21 = .ok (.iload_n 1, 1) := by decide +kernel
theorem d_S_feed_22 : decode b_S_feed 22 = .ok (.invokevirtual 111, 3) := by decide +kernel
theorem d_S_feed_25 : decode b_S_feed 25 = .ok (.aload 6, 2) := by decide +kernel
theorem d_S_feed_27 : decode b_S_feed 27 = .ok (.iload_n 2, 1) := by decide +kernel
theorem d_S_feed_28 : decode b_S_feed 28 = .ok (.invokevirtual 111, 3) := by decide +kernel
theorem d_S_feed_31 : decode b_S_feed 31 = .ok (.aload 6, 2) := by decide +kernel
theorem d_S_feed_33 : decode b_S_feed 33 = .ok (.iload_n 3, 1) := by decide +kernel
theorem d_S_feed_34 : decode b_S_feed 34 = .ok (.invokevirtual 111, 3) := by decide +kernel
theorem d_S_feed_37 : decode b_S_feed 37 = .ok (.aload 6, 2) := by decide +kernel
theorem d_S_feed_39 : decode b_S_feed 39 = .ok (.iload 4, 2) := by decide +kernel
theorem d_S_feed_41 : decode b_S_feed 41 = .ok (.invokevirtual 111, 3) := by decide +kernel
theorem d_S_feed_44 : decode b_S_feed 44 = .ok (.aload 6, 2) := by decide +kernel
theorem d_S_feed_46 : decode b_S_feed 46 = .ok (.iload 5, 2) := by decide +kernel
theorem d_S_feed_48 : decode b_S_feed 48 = .ok (.invokevirtual 111, 3) := by decide +kernel
theorem d_S_feed_51 : decode b_S_feed 51 = .ok (.aload 6, 2) := by decide +kernel
theorem d_S_feed_53 : decode b_S_feed 53 = .ok (.getfield 115, 3) := by decide +kernel
theorem d_S_feed_56 : decode b_S_feed 56 = .ok (.ireturn, 1) := by decide +kernel
abbrev b_S_assembler : ByteArray := prog_1_method_18_code
abbrev y_S_assembler : MethodName := ⟨"SignMachine", "assembler", "()LSignMachine$Assembler;"⟩
theorem h_S_assembler : (y_S_assembler).cls ≠ "java/lang/invoke/MethodHandle" ∧ (y_S_assembler).cls ≠ "java/lang/invoke/VarHandle" ∧ (parseMethodDescriptor (y_S_assembler).desc).map (fun d => d.parameters.length) = some 0 := by decide +kernel
theorem d_S_assembler_0 : decode b_S_assembler 0 = .ok (.aload_n 0, 1) := by decide +kernel
theorem d_S_assembler_1 : decode b_S_assembler 1 = .ok (.getfield 167, 3) := by decide +kernel
theorem d_S_assembler_4 : decode b_S_assembler 4 = .ok (.ifnonnull 14, 3) := by decide +kernel
theorem d_S_assembler_7 : decode b_S_assembler 7 = .ok (.aload_n 0, 1) := by decide +kernel
theorem d_S_assembler_8 : decode b_S_assembler 8 = .ok (.new 100, 3) := by decide +kernel
theorem d_S_assembler_11 : decode b_S_assembler 11 = .ok (.dup, 1) := by decide +kernel
theorem d_S_assembler_12 : decode b_S_assembler 12 = .ok (.invokespecial 170, 3) := by decide +kernel
theorem d_S_assembler_15 : decode b_S_assembler 15 = .ok (.putfield 167, 3) := by decide +kernel
theorem d_S_assembler_18 : decode b_S_assembler 18 = .ok (.aload_n 0, 1) := by decide +kernel
theorem d_S_assembler_19 : decode b_S_assembler 19 = .ok (.getfield 167, 3) := by decide +kernel
theorem d_S_assembler_22 : decode b_S_assembler 22 = .ok (.areturn, 1) := by decide +kernel
abbrev b_A_init : ByteArray := prog_2_method_1_code
abbrev y_A_init : MethodName := ⟨"SignMachine$Assembler", "<init>", "()V"⟩
theorem h_A_init : (y_A_init).cls ≠ "java/lang/invoke/MethodHandle" ∧ (y_A_init).cls ≠ "java/lang/invoke/VarHandle" ∧ (parseMethodDescriptor (y_A_init).desc).map (fun d => d.parameters.length) = some 0 := by decide +kernel
theorem d_A_init_0 : decode b_A_init 0 = .ok (.aload_n 0, 1) := by decide +kernel
theorem d_A_init_1 : decode b_A_init 1 = .ok (.invokespecial 3, 3) := by decide +kernel
theorem d_A_init_4 : decode b_A_init 4 = .ok (.aload_n 0, 1) := by decide +kernel
theorem d_A_init_5 : decode b_A_init 5 = .ok (.new 9, 3) := by decide +kernel
theorem d_A_init_8 : decode b_A_init 8 = .ok (.dup, 1) := by decide +kernel
theorem d_A_init_9 : decode b_A_init 9 = .ok (.invokespecial 11, 3) := by decide +kernel
theorem d_A_init_12 : decode b_A_init 12 = .ok (.putfield 12, 3) := by decide +kernel
theorem d_A_init_15 : decode b_A_init 15 = .ok (.aload_n 0, 1) := by decide +kernel
theorem d_A_init_16 : decode b_A_init 16 = .ok (.new 18, 3) := by decide +kernel
theorem d_A_init_19 : decode b_A_init 19 = .ok (.dup, 1) := by decide +kernel
theorem d_A_init_20 : decode b_A_init 20 = .ok (.invokespecial 20, 3) := by decide +kernel
theorem d_A_init_23 : decode b_A_init 23 = .ok (.putfield 21, 3) := by decide +kernel
theorem d_A_init_26 : decode b_A_init 26 = .ok (.aload_n 0, 1) := by decide +kernel
theorem d_A_init_27 : decode b_A_init 27 = .ok (.new 25, 3) := by decide +kernel
theorem d_A_init_30 : decode b_A_init 30 = .ok (.dup, 1) := by decide +kernel
theorem d_A_init_31 : decode b_A_init 31 = .ok (.invokespecial 27, 3) := by decide +kernel
theorem d_A_init_34 : decode b_A_init 34 = .ok (.putfield 28, 3) := by decide +kernel
theorem d_A_init_37 : decode b_A_init 37 = .ok (.aload_n 0, 1) := by decide +kernel
theorem d_A_init_38 : decode b_A_init 38 = .ok (.iconst (-1), 1) := by decide +kernel
theorem d_A_init_39 : decode b_A_init 39 = .ok (.putfield 32, 3) := by decide +kernel
theorem d_A_init_42 : decode b_A_init 42 = .ok (.return_, 1) := by decide +kernel
abbrev b_R_init : ByteArray := prog_7_method_1_code
abbrev y_R_init : MethodName := ⟨"SignMachine$Source", "<init>", "()V"⟩
theorem h_R_init : (y_R_init).cls ≠ "java/lang/invoke/MethodHandle" ∧ (y_R_init).cls ≠ "java/lang/invoke/VarHandle" ∧ (parseMethodDescriptor (y_R_init).desc).map (fun d => d.parameters.length) = some 0 := by decide +kernel
theorem d_R_init_0 : decode b_R_init 0 = .ok (.aload_n 0, 1) := by decide +kernel
theorem d_R_init_1 : decode b_R_init 1 = .ok (.invokespecial 1, 3) := by decide +kernel
theorem d_R_init_4 : decode b_R_init 4 = .ok (.aload_n 0, 1) := by decide +kernel
theorem d_R_init_5 : decode b_R_init 5 = .ok (.sipush 4000, 3) := by decide +kernel
theorem d_R_init_8 : decode b_R_init 8 = .ok (.newarray .byte, 2) := by decide +kernel
theorem d_R_init_10 : decode b_R_init 10 = .ok (.putfield 9, 3) := by decide +kernel
theorem d_R_init_13 : decode b_R_init 13 = .ok (.return_, 1) := by decide +kernel
abbrev b_N_init : ByteArray := prog_4_method_1_code
abbrev y_N_init : MethodName := ⟨"SignMachine$Names", "<init>", "()V"⟩
theorem h_N_init : (y_N_init).cls ≠ "java/lang/invoke/MethodHandle" ∧ (y_N_init).cls ≠ "java/lang/invoke/VarHandle" ∧ (parseMethodDescriptor (y_N_init).desc).map (fun d => d.parameters.length) = some 0 := by decide +kernel
theorem d_N_init_0 : decode b_N_init 0 = .ok (.aload_n 0, 1) := by decide +kernel
theorem d_N_init_1 : decode b_N_init 1 = .ok (.invokespecial 5, 3) := by decide +kernel
theorem d_N_init_4 : decode b_N_init 4 = .ok (.aload_n 0, 1) := by decide +kernel
theorem d_N_init_5 : decode b_N_init 5 = .ok (.bipush 100, 2) := by decide +kernel
theorem d_N_init_7 : decode b_N_init 7 = .ok (.newarray .long, 2) := by decide +kernel
theorem d_N_init_9 : decode b_N_init 9 = .ok (.putfield 11, 3) := by decide +kernel
theorem d_N_init_12 : decode b_N_init 12 = .ok (.aload_n 0, 1) := by decide +kernel
theorem d_N_init_13 : decode b_N_init 13 = .ok (.bipush 100, 2) := by decide +kernel
theorem d_N_init_15 : decode b_N_init 15 = .ok (.newarray .int, 2) := by decide +kernel
theorem d_N_init_17 : decode b_N_init 17 = .ok (.putfield 15, 3) := by decide +kernel
theorem d_N_init_20 : decode b_N_init 20 = .ok (.aload_n 0, 1) := by decide +kernel
theorem d_N_init_21 : decode b_N_init 21 = .ok (.bipush 100, 2) := by decide +kernel
theorem d_N_init_23 : decode b_N_init 23 = .ok (.newarray .boolean, 2) := by decide +kernel
theorem d_N_init_25 : decode b_N_init 25 = .ok (.putfield 19, 3) := by decide +kernel
theorem d_N_init_28 : decode b_N_init 28 = .ok (.aload_n 0, 1) := by decide +kernel
theorem d_N_init_29 : decode b_N_init 29 = .ok (.bipush 10, 2) := by decide +kernel
theorem d_N_init_31 : decode b_N_init 31 = .ok (.newarray .int, 2) := by decide +kernel
theorem d_N_init_33 : decode b_N_init 33 = .ok (.putfield 23, 3) := by decide +kernel
theorem d_N_init_36 : decode b_N_init 36 = .ok (.aload_n 0, 1) := by decide +kernel
theorem d_N_init_37 : decode b_N_init 37 = .ok (.bipush 10, 2) := by decide +kernel
theorem d_N_init_39 : decode b_N_init 39 = .ok (.newarray .boolean, 2) := by decide +kernel
theorem d_N_init_41 : decode b_N_init 41 = .ok (.putfield 26, 3) := by decide +kernel
theorem d_N_init_44 : decode b_N_init 44 = .ok (.return_, 1) := by decide +kernel
abbrev b_O_init : ByteArray := prog_6_method_1_code
abbrev y_O_init : MethodName := ⟨"SignMachine$Output", "<init>", "()V"⟩
theorem h_O_init : (y_O_init).cls ≠ "java/lang/invoke/MethodHandle" ∧ (y_O_init).cls ≠ "java/lang/invoke/VarHandle" ∧ (parseMethodDescriptor (y_O_init).desc).map (fun d => d.parameters.length) = some 0 := by decide +kernel
theorem d_O_init_0 : decode b_O_init 0 = .ok (.aload_n 0, 1) := by decide +kernel
theorem d_O_init_1 : decode b_O_init 1 = .ok (.invokespecial 7, 3) := by decide +kernel
theorem d_O_init_4 : decode b_O_init 4 = .ok (.aload_n 0, 1) := by decide +kernel
theorem d_O_init_5 : decode b_O_init 5 = .ok (.sipush 1101, 3) := by decide +kernel
theorem d_O_init_8 : decode b_O_init 8 = .ok (.newarray .int, 2) := by decide +kernel
theorem d_O_init_10 : decode b_O_init 10 = .ok (.putfield 15, 3) := by decide +kernel
theorem d_O_init_13 : decode b_O_init 13 = .ok (.aload_n 0, 1) := by decide +kernel
theorem d_O_init_14 : decode b_O_init 14 = .ok (.sipush 1101, 3) := by decide +kernel
theorem d_O_init_17 : decode b_O_init 17 = .ok (.newarray .int, 2) := by decide +kernel
theorem d_O_init_19 : decode b_O_init 19 = .ok (.putfield 19, 3) := by decide +kernel
theorem d_O_init_22 : decode b_O_init 22 = .ok (.aload_n 0, 1) := by decide +kernel
theorem d_O_init_23 : decode b_O_init 23 = .ok (.sipush 1101, 3) := by decide +kernel
theorem d_O_init_26 : decode b_O_init 26 = .ok (.newarray .int, 2) := by decide +kernel
theorem d_O_init_28 : decode b_O_init 28 = .ok (.putfield 22, 3) := by decide +kernel
theorem d_O_init_31 : decode b_O_init 31 = .ok (.aload_n 0, 1) := by decide +kernel
theorem d_O_init_32 : decode b_O_init 32 = .ok (.sipush 1101, 3) := by decide +kernel
theorem d_O_init_35 : decode b_O_init 35 = .ok (.newarray .byte, 2) := by decide +kernel
theorem d_O_init_37 : decode b_O_init 37 = .ok (.putfield 25, 3) := by decide +kernel
theorem d_O_init_40 : decode b_O_init 40 = .ok (.aload_n 0, 1) := by decide +kernel
theorem d_O_init_41 : decode b_O_init 41 = .ok (.sipush 1101, 3) := by decide +kernel
theorem d_O_init_44 : decode b_O_init 44 = .ok (.newarray .int, 2) := by decide +kernel
theorem d_O_init_46 : decode b_O_init 46 = .ok (.putfield 29, 3) := by decide +kernel
theorem d_O_init_49 : decode b_O_init 49 = .ok (.aload_n 0, 1) := by decide +kernel
theorem d_O_init_50 : decode b_O_init 50 = .ok (.bipush 10, 2) := by decide +kernel
theorem d_O_init_52 : decode b_O_init 52 = .ok (.newarray .int, 2) := by decide +kernel
theorem d_O_init_54 : decode b_O_init 54 = .ok (.putfield 32, 3) := by decide +kernel
theorem d_O_init_57 : decode b_O_init 57 = .ok (.return_, 1) := by decide +kernel
abbrev b_R_hasRoom : ByteArray := prog_7_method_2_code
abbrev y_R_hasRoom : MethodName := ⟨"SignMachine$Source", "hasRoom", "()Z"⟩
theorem h_R_hasRoom : (y_R_hasRoom).cls ≠ "java/lang/invoke/MethodHandle" ∧ (y_R_hasRoom).cls ≠ "java/lang/invoke/VarHandle" ∧ (parseMethodDescriptor (y_R_hasRoom).desc).map (fun d => d.parameters.length) = some 0 := by decide +kernel
theorem d_R_hasRoom_0 : decode b_R_hasRoom 0 = .ok (.aload_n 0, 1) := by decide +kernel
theorem d_R_hasRoom_1 : decode b_R_hasRoom 1 = .ok (.getfield 13, 3) := by decide +kernel
theorem d_R_hasRoom_4 : decode b_R_hasRoom 4 = .ok (.bipush 20, 2) := by decide +kernel
theorem d_R_hasRoom_6 : decode b_R_hasRoom 6 = .ok (.iadd, 1) := by decide +kernel
theorem d_R_hasRoom_7 : decode b_R_hasRoom 7 = .ok (.sipush 4000, 3) := by decide +kernel
theorem d_R_hasRoom_10 : decode b_R_hasRoom 10 = .ok (.if_icmp .gt 7, 3) := by decide +kernel
theorem d_R_hasRoom_13 : decode b_R_hasRoom 13 = .ok (.iconst 1, 1) := by decide +kernel
theorem d_R_hasRoom_14 : decode b_R_hasRoom 14 = .ok (.goto 4, 3) := by decide +kernel
theorem d_R_hasRoom_17 : decode b_R_hasRoom 17 = .ok (.iconst 0, 1) := by decide +kernel
theorem d_R_hasRoom_18 : decode b_R_hasRoom 18 = .ok (.ireturn, 1) := by decide +kernel
abbrev b_R_append : ByteArray := prog_7_method_3_code
abbrev y_R_append : MethodName := ⟨"SignMachine$Source", "append", "(I)V"⟩
theorem h_R_append : (y_R_append).cls ≠ "java/lang/invoke/MethodHandle" ∧ (y_R_append).cls ≠ "java/lang/invoke/VarHandle" ∧ (parseMethodDescriptor (y_R_append).desc).map (fun d => d.parameters.length) = some 1 := by decide +kernel
theorem d_R_append_0 : decode b_R_append 0 = .ok (.bipush 24, 2) := by decide +kernel
theorem d_R_append_2 : decode b_R_append 2 = .ok (.istore_n 2, 1) := by decide +kernel
theorem d_R_append_3 : decode b_R_append 3 = .ok (.iload_n 2, 1) := by decide +kernel
theorem d_R_append_4 : decode b_R_append 4 = .ok (.ifCond .lt 49, 3) := by decide +kernel
theorem d_R_append_7 : decode b_R_append 7 = .ok (.aload_n 0, 1) := by decide +kernel
theorem d_R_append_8 : decode b_R_append 8 = .ok (.getfield 13, 3) := by decide +kernel
theorem d_R_append_11 : decode b_R_append 11 = .ok (.ifCond .lt 36, 3) := by decide +kernel
theorem d_R_append_14 : decode b_R_append 14 = .ok (.aload_n 0, 1) := by decide +kernel
theorem d_R_append_15 : decode b_R_append 15 = .ok (.getfield 13, 3) := by decide +kernel
theorem d_R_append_18 : decode b_R_append 18 = .ok (.sipush 4000, 3) := by decide +kernel
theorem d_R_append_21 : decode b_R_append 21 = .ok (.if_icmp .ge 26, 3) := by decide +kernel
theorem d_R_append_24 : decode b_R_append 24 = .ok (.aload_n 0, 1) := by decide +kernel
theorem d_R_append_25 : decode b_R_append 25 = .ok (.getfield 9, 3) := by decide +kernel
theorem d_R_append_28 : decode b_R_append 28 = .ok (.aload_n 0, 1) := by decide +kernel
theorem d_R_append_29 : decode b_R_append 29 = .ok (.getfield 13, 3) := by decide +kernel
theorem d_R_append_32 : decode b_R_append 32 = .ok (.iload_n 1, 1) := by decide +kernel
theorem d_R_append_33 : decode b_R_append 33 = .ok (.iload_n 2, 1) := by decide +kernel
theorem d_R_append_34 : decode b_R_append 34 = .ok (.ishr, 1) := by decide +kernel
theorem d_R_append_35 : decode b_R_append 35 = .ok (.i2b, 1) := by decide +kernel
theorem d_R_append_36 : decode b_R_append 36 = .ok (.bastore, 1) := by decide +kernel
theorem d_R_append_37 : decode b_R_append 37 = .ok (.aload_n 0, 1) := by decide +kernel
theorem d_R_append_38 : decode b_R_append 38 = .ok (.dup, 1) := by decide +kernel
theorem d_R_append_39 : decode b_R_append 39 = .ok (.getfield 13, 3) := by decide +kernel
theorem d_R_append_42 : decode b_R_append 42 = .ok (.iconst 1, 1) := by decide +kernel
theorem d_R_append_43 : decode b_R_append 43 = .ok (.iadd, 1) := by decide +kernel
theorem d_R_append_44 : decode b_R_append 44 = .ok (.putfield 13, 3) := by decide +kernel
theorem d_R_append_47 : decode b_R_append 47 = .ok (.iinc 2 (-8), 3) := by decide +kernel
theorem d_R_append_50 : decode b_R_append 50 = .ok (.goto (-47), 3) := by decide +kernel
theorem d_R_append_53 : decode b_R_append 53 = .ok (.return_, 1) := by decide +kernel
abbrev b_S_end : ByteArray := prog_1_method_14_code
abbrev y_S_end : MethodName := ⟨"SignMachine", "end", "(I)I"⟩
theorem h_S_end : (y_S_end).cls ≠ "java/lang/invoke/MethodHandle" ∧ (y_S_end).cls ≠ "java/lang/invoke/VarHandle" ∧ (parseMethodDescriptor (y_S_end).desc).map (fun d => d.parameters.length) = some 1 := by decide +kernel
theorem d_S_end_0 : decode b_S_end 0 = .ok (.aload_n 0, 1) := by decide +kernel
theorem d_S_end_1 : decode b_S_end 1 = .ok (.invokevirtual 95, 3) := by decide +kernel
theorem d_S_end_4 : decode b_S_end 4 = .ok (.getfield 99, 3) := by decide +kernel
theorem d_S_end_7 : decode b_S_end 7 = .ok (.astore_n 2, 1) := by decide +kernel
theorem d_S_end_8 : decode b_S_end 8 = .ok (.iload_n 1, 1) := by decide +kernel
theorem d_S_end_9 : decode b_S_end 9 = .ok (.ifCond .lt 18, 3) := by decide +kernel
theorem d_S_end_12 : decode b_S_end 12 = .ok (.iload_n 1, 1) := by decide +kernel
theorem d_S_end_13 : decode b_S_end 13 = .ok (.bipush 20, 2) := by decide +kernel
theorem d_S_end_15 : decode b_S_end 15 = .ok (.if_icmp .gt 12, 3) := by decide +kernel
theorem d_S_end_18 : decode b_S_end 18 = .ok (.aload_n 2, 1) := by decide +kernel
theorem d_S_end_19 : decode b_S_end 19 = .ok (.getfield 115, 3) := by decide +kernel
theorem d_S_end_22 : decode b_S_end 22 = .ok (.bipush 20, 2) := by decide +kernel
theorem d_S_end_24 : decode b_S_end 24 = .ok (.if_icmp .ge 5, 3) := by decide +kernel
theorem d_S_end_27 : decode b_S_end 27 = .ok (.iconst (-1), 1) := by decide +kernel
theorem d_S_end_28 : decode b_S_end 28 = .ok (.ireturn, 1) := by decide +kernel
theorem d_S_end_29 : decode b_S_end 29 = .ok (.aload_n 2, 1) := by decide +kernel
theorem d_S_end_30 : decode b_S_end 30 = .ok (.aload_n 2, 1) := by decide +kernel
theorem d_S_end_31 : decode b_S_end 31 = .ok (.getfield 115, 3) := by decide +kernel
theorem d_S_end_34 : decode b_S_end 34 = .ok (.bipush 20, 2) := by decide +kernel
theorem d_S_end_36 : decode b_S_end 36 = .ok (.isub, 1) := by decide +kernel
theorem d_S_end_37 : decode b_S_end 37 = .ok (.iload_n 1, 1) := by decide +kernel
theorem d_S_end_38 : decode b_S_end 38 = .ok (.iadd, 1) := by decide +kernel
theorem d_S_end_39 : decode b_S_end 39 = .ok (.putfield 115, 3) := by decide +kernel
theorem d_S_end_42 : decode b_S_end 42 = .ok (.aload_n 2, 1) := by decide +kernel
theorem d_S_end_43 : decode b_S_end 43 = .ok (.getfield 115, 3) := by decide +kernel
theorem d_S_end_46 : decode b_S_end 46 = .ok (.ireturn, 1) := by decide +kernel
abbrev b_S_assemble : ByteArray := prog_1_method_15_code
abbrev y_S_assemble : MethodName := ⟨"SignMachine", "assemble", "()I"⟩
theorem h_S_assemble : (y_S_assemble).cls ≠ "java/lang/invoke/MethodHandle" ∧ (y_S_assemble).cls ≠ "java/lang/invoke/VarHandle" ∧ (parseMethodDescriptor (y_S_assemble).desc).map (fun d => d.parameters.length) = some 0 := by decide +kernel
theorem d_S_assemble_0 : decode b_S_assemble 0 = .ok (.aload_n 0, 1) := by decide +kernel
theorem d_S_assemble_1 : decode b_S_assemble 1 = .ok (.invokevirtual 95, 3) := by decide +kernel
theorem d_S_assemble_4 : decode b_S_assemble 4 = .ok (.astore_n 1, 1) := by decide +kernel
theorem d_S_assemble_5 : decode b_S_assemble 5 = .ok (.aload_n 1, 1) := by decide +kernel
theorem d_S_assemble_6 : decode b_S_assemble 6 = .ok (.invokevirtual 118, 3) := by decide +kernel
theorem d_S_assemble_9 : decode b_S_assemble 9 = .ok (.iconst 0, 1) := by decide +kernel
theorem d_S_assemble_10 : decode b_S_assemble 10 = .ok (.istore_n 2, 1) := by decide +kernel
theorem d_S_assemble_11 : decode b_S_assemble 11 = .ok (.iload_n 2, 1) := by decide +kernel
theorem d_S_assemble_12 : decode b_S_assemble 12 = .ok (.sipush 4000, 3) := by decide +kernel
theorem d_S_assemble_15 : decode b_S_assemble 15 = .ok (.if_icmp .ge 28, 3) := by decide +kernel
theorem d_S_assemble_18 : decode b_S_assemble 18 = .ok (.aload_n 1, 1) := by decide +kernel
theorem d_S_assemble_19 : decode b_S_assemble 19 = .ok (.invokevirtual 121, 3) := by decide +kernel
theorem d_S_assemble_22 : decode b_S_assemble 22 = .ok (.ifCond .eq 21, 3) := by decide +kernel
theorem d_S_assemble_25 : decode b_S_assemble 25 = .ok (.aload_n 1, 1) := by decide +kernel
theorem d_S_assemble_26 : decode b_S_assemble 26 = .ok (.invokevirtual 124, 3) := by decide +kernel
theorem d_S_assemble_29 : decode b_S_assemble 29 = .ok (.aload_n 1, 1) := by decide +kernel
theorem d_S_assemble_30 : decode b_S_assemble 30 = .ok (.invokevirtual 127, 3) := by decide +kernel
theorem d_S_assemble_33 : decode b_S_assemble 33 = .ok (.aload_n 1, 1) := by decide +kernel
theorem d_S_assemble_34 : decode b_S_assemble 34 = .ok (.invokevirtual 130, 3) := by decide +kernel
theorem d_S_assemble_37 : decode b_S_assemble 37 = .ok (.iinc 2 1, 3) := by decide +kernel
theorem d_S_assemble_40 : decode b_S_assemble 40 = .ok (.goto (-29), 3) := by decide +kernel
theorem d_S_assemble_43 : decode b_S_assemble 43 = .ok (.aload_n 1, 1) := by decide +kernel
theorem d_S_assemble_44 : decode b_S_assemble 44 = .ok (.invokevirtual 133, 3) := by decide +kernel
theorem d_S_assemble_47 : decode b_S_assemble 47 = .ok (.aload_n 1, 1) := by decide +kernel
theorem d_S_assemble_48 : decode b_S_assemble 48 = .ok (.getfield 136, 3) := by decide +kernel
theorem d_S_assemble_51 : decode b_S_assemble 51 = .ok (.ifCond .ne 22, 3) := by decide +kernel
theorem d_S_assemble_54 : decode b_S_assemble 54 = .ok (.aload_n 0, 1) := by decide +kernel
theorem d_S_assemble_55 : decode b_S_assemble 55 = .ok (.aload_n 1, 1) := by decide +kernel
theorem d_S_assemble_56 : decode b_S_assemble 56 = .ok (.getfield 139, 3) := by decide +kernel
theorem d_S_assemble_59 : decode b_S_assemble 59 = .ok (.invokevirtual 143, 3) := by decide +kernel
theorem d_S_assemble_62 : decode b_S_assemble 62 = .ok (.aload_n 0, 1) := by decide +kernel
theorem d_S_assemble_63 : decode b_S_assemble 63 = .ok (.getfield 10, 3) := by decide +kernel
theorem d_S_assemble_66 : decode b_S_assemble 66 = .ok (.aload_n 1, 1) := by decide +kernel
theorem d_S_assemble_67 : decode b_S_assemble 67 = .ok (.getfield 147, 3) := by decide +kernel
theorem d_S_assemble_70 : decode b_S_assemble 70 = .ok (.putfield 64, 3) := by decide +kernel
theorem d_S_assemble_73 : decode b_S_assemble 73 = .ok (.aload_n 1, 1) := by decide +kernel
theorem d_S_assemble_74 : decode b_S_assemble 74 = .ok (.getfield 136, 3) := by decide +kernel
theorem d_S_assemble_77 : decode b_S_assemble 77 = .ok (.ireturn, 1) := by decide +kernel
abbrev b_A_begin : ByteArray := prog_2_method_2_code
abbrev y_A_begin : MethodName := ⟨"SignMachine$Assembler", "begin", "()V"⟩
theorem h_A_begin : (y_A_begin).cls ≠ "java/lang/invoke/MethodHandle" ∧ (y_A_begin).cls ≠ "java/lang/invoke/VarHandle" ∧ (parseMethodDescriptor (y_A_begin).desc).map (fun d => d.parameters.length) = some 0 := by decide +kernel
theorem d_A_begin_0 : decode b_A_begin 0 = .ok (.aload_n 0, 1) := by decide +kernel
theorem d_A_begin_1 : decode b_A_begin 1 = .ok (.getfield 12, 3) := by decide +kernel
theorem d_A_begin_4 : decode b_A_begin 4 = .ok (.invokevirtual 36, 3) := by decide +kernel
theorem d_A_begin_7 : decode b_A_begin 7 = .ok (.aload_n 0, 1) := by decide +kernel
theorem d_A_begin_8 : decode b_A_begin 8 = .ok (.getfield 21, 3) := by decide +kernel
theorem d_A_begin_11 : decode b_A_begin 11 = .ok (.invokevirtual 39, 3) := by decide +kernel
theorem d_A_begin_14 : decode b_A_begin 14 = .ok (.aload_n 0, 1) := by decide +kernel
theorem d_A_begin_15 : decode b_A_begin 15 = .ok (.getfield 28, 3) := by decide +kernel
theorem d_A_begin_18 : decode b_A_begin 18 = .ok (.invokevirtual 42, 3) := by decide +kernel
theorem d_A_begin_21 : decode b_A_begin 21 = .ok (.aload_n 0, 1) := by decide +kernel
theorem d_A_begin_22 : decode b_A_begin 22 = .ok (.iconst 0, 1) := by decide +kernel
theorem d_A_begin_23 : decode b_A_begin 23 = .ok (.putfield 43, 3) := by decide +kernel
theorem d_A_begin_26 : decode b_A_begin 26 = .ok (.aload_n 0, 1) := by decide +kernel
theorem d_A_begin_27 : decode b_A_begin 27 = .ok (.iconst 0, 1) := by decide +kernel
theorem d_A_begin_28 : decode b_A_begin 28 = .ok (.putfield 46, 3) := by decide +kernel
theorem d_A_begin_31 : decode b_A_begin 31 = .ok (.aload_n 0, 1) := by decide +kernel
theorem d_A_begin_32 : decode b_A_begin 32 = .ok (.iconst 0, 1) := by decide +kernel
theorem d_A_begin_33 : decode b_A_begin 33 = .ok (.putfield 49, 3) := by decide +kernel
theorem d_A_begin_36 : decode b_A_begin 36 = .ok (.aload_n 0, 1) := by decide +kernel
theorem d_A_begin_37 : decode b_A_begin 37 = .ok (.iconst 0, 1) := by decide +kernel
theorem d_A_begin_38 : decode b_A_begin 38 = .ok (.putfield 52, 3) := by decide +kernel
theorem d_A_begin_41 : decode b_A_begin 41 = .ok (.return_, 1) := by decide +kernel
abbrev b_R_begin : ByteArray := prog_7_method_4_code
abbrev y_R_begin : MethodName := ⟨"SignMachine$Source", "begin", "()V"⟩
theorem h_R_begin : (y_R_begin).cls ≠ "java/lang/invoke/MethodHandle" ∧ (y_R_begin).cls ≠ "java/lang/invoke/VarHandle" ∧ (parseMethodDescriptor (y_R_begin).desc).map (fun d => d.parameters.length) = some 0 := by decide +kernel
theorem d_R_begin_0 : decode b_R_begin 0 = .ok (.aload_n 0, 1) := by decide +kernel
theorem d_R_begin_1 : decode b_R_begin 1 = .ok (.iconst 0, 1) := by decide +kernel
theorem d_R_begin_2 : decode b_R_begin 2 = .ok (.putfield 17, 3) := by decide +kernel
theorem d_R_begin_5 : decode b_R_begin 5 = .ok (.aload_n 0, 1) := by decide +kernel
theorem d_R_begin_6 : decode b_R_begin 6 = .ok (.iconst 0, 1) := by decide +kernel
theorem d_R_begin_7 : decode b_R_begin 7 = .ok (.putfield 20, 3) := by decide +kernel
theorem d_R_begin_10 : decode b_R_begin 10 = .ok (.return_, 1) := by decide +kernel
abbrev b_N_clear : ByteArray := prog_4_method_6_code
abbrev y_N_clear : MethodName := ⟨"SignMachine$Names", "clear", "()V"⟩
theorem h_N_clear : (y_N_clear).cls ≠ "java/lang/invoke/MethodHandle" ∧ (y_N_clear).cls ≠ "java/lang/invoke/VarHandle" ∧ (parseMethodDescriptor (y_N_clear).desc).map (fun d => d.parameters.length) = some 0 := by decide +kernel
theorem d_N_clear_0 : decode b_N_clear 0 = .ok (.aload_n 0, 1) := by decide +kernel
theorem d_N_clear_1 : decode b_N_clear 1 = .ok (.iconst 0, 1) := by decide +kernel
theorem d_N_clear_2 : decode b_N_clear 2 = .ok (.putfield 35, 3) := by decide +kernel
theorem d_N_clear_5 : decode b_N_clear 5 = .ok (.aload_n 0, 1) := by decide +kernel
theorem d_N_clear_6 : decode b_N_clear 6 = .ok (.iconst 0, 1) := by decide +kernel
theorem d_N_clear_7 : decode b_N_clear 7 = .ok (.putfield 39, 3) := by decide +kernel
theorem d_N_clear_10 : decode b_N_clear 10 = .ok (.iconst 0, 1) := by decide +kernel
theorem d_N_clear_11 : decode b_N_clear 11 = .ok (.istore_n 1, 1) := by decide +kernel
theorem d_N_clear_12 : decode b_N_clear 12 = .ok (.iload_n 1, 1) := by decide +kernel
theorem d_N_clear_13 : decode b_N_clear 13 = .ok (.bipush 10, 2) := by decide +kernel
theorem d_N_clear_15 : decode b_N_clear 15 = .ok (.if_icmp .ge 16, 3) := by decide +kernel
theorem d_N_clear_18 : decode b_N_clear 18 = .ok (.aload_n 0, 1) := by decide +kernel
theorem d_N_clear_19 : decode b_N_clear 19 = .ok (.getfield 26, 3) := by decide +kernel
theorem d_N_clear_22 : decode b_N_clear 22 = .ok (.iload_n 1, 1) := by decide +kernel
theorem d_N_clear_23 : decode b_N_clear 23 = .ok (.iconst 0, 1) := by decide +kernel
theorem d_N_clear_24 : decode b_N_clear 24 = .ok (.bastore, 1) := by decide +kernel
theorem d_N_clear_25 : decode b_N_clear 25 = .ok (.iinc 1 1, 3) := by decide +kernel
theorem d_N_clear_28 : decode b_N_clear 28 = .ok (.goto (-16), 3) := by decide +kernel
theorem d_N_clear_31 : decode b_N_clear 31 = .ok (.return_, 1) := by decide +kernel
abbrev b_O_clear : ByteArray := prog_6_method_2_code
abbrev y_O_clear : MethodName := ⟨"SignMachine$Output", "clear", "()V"⟩
theorem h_O_clear : (y_O_clear).cls ≠ "java/lang/invoke/MethodHandle" ∧ (y_O_clear).cls ≠ "java/lang/invoke/VarHandle" ∧ (parseMethodDescriptor (y_O_clear).desc).map (fun d => d.parameters.length) = some 0 := by decide +kernel
theorem d_O_clear_0 : decode b_O_clear 0 = .ok (.aload_n 0, 1) := by decide +kernel
theorem d_O_clear_1 : decode b_O_clear 1 = .ok (.iconst 0, 1) := by decide +kernel
theorem d_O_clear_2 : decode b_O_clear 2 = .ok (.putfield 35, 3) := by decide +kernel
theorem d_O_clear_5 : decode b_O_clear 5 = .ok (.iconst 0, 1) := by decide +kernel
theorem d_O_clear_6 : decode b_O_clear 6 = .ok (.istore_n 1, 1) := by decide +kernel
theorem d_O_clear_7 : decode b_O_clear 7 = .ok (.iload_n 1, 1) := by decide +kernel
theorem d_O_clear_8 : decode b_O_clear 8 = .ok (.aload_n 0, 1) := by decide +kernel
theorem d_O_clear_9 : decode b_O_clear 9 = .ok (.getfield 32, 3) := by decide +kernel
theorem d_O_clear_12 : decode b_O_clear 12 = .ok (.arraylength, 1) := by decide +kernel
theorem d_O_clear_13 : decode b_O_clear 13 = .ok (.if_icmp .ge 17, 3) := by decide +kernel
theorem d_O_clear_16 : decode b_O_clear 16 = .ok (.aload_n 0, 1) := by decide +kernel
theorem d_O_clear_17 : decode b_O_clear 17 = .ok (.getfield 32, 3) := by decide +kernel
theorem d_O_clear_20 : decode b_O_clear 20 = .ok (.iload_n 1, 1) := by decide +kernel
theorem d_O_clear_21 : decode b_O_clear 21 = .ok (.bipush (-2), 2) := by decide +kernel
theorem d_O_clear_23 : decode b_O_clear 23 = .ok (.iastore, 1) := by decide +kernel
theorem d_O_clear_24 : decode b_O_clear 24 = .ok (.iinc 1 1, 3) := by decide +kernel
theorem d_O_clear_27 : decode b_O_clear 27 = .ok (.goto (-20), 3) := by decide +kernel
theorem d_O_clear_30 : decode b_O_clear 30 = .ok (.return_, 1) := by decide +kernel
abbrev b_A_finish : ByteArray := prog_2_method_7_code
abbrev y_A_finish : MethodName := ⟨"SignMachine$Assembler", "finish", "()V"⟩
theorem h_A_finish : (y_A_finish).cls ≠ "java/lang/invoke/MethodHandle" ∧ (y_A_finish).cls ≠ "java/lang/invoke/VarHandle" ∧ (parseMethodDescriptor (y_A_finish).desc).map (fun d => d.parameters.length) = some 0 := by decide +kernel
theorem d_A_finish_0 : decode b_A_finish 0 = .ok (.aload_n 0, 1) := by decide +kernel
theorem d_A_finish_1 : decode b_A_finish 1 = .ok (.getfield 12, 3) := by decide +kernel
theorem d_A_finish_4 : decode b_A_finish 4 = .ok (.iconst 0, 1) := by decide +kernel
theorem d_A_finish_5 : decode b_A_finish 5 = .ok (.putfield 146, 3) := by decide +kernel
theorem d_A_finish_8 : decode b_A_finish 8 = .ok (.aload_n 0, 1) := by decide +kernel
theorem d_A_finish_9 : decode b_A_finish 9 = .ok (.getfield 43, 3) := by decide +kernel
theorem d_A_finish_12 : decode b_A_finish 12 = .ok (.ifCond .ne 17, 3) := by decide +kernel
theorem d_A_finish_15 : decode b_A_finish 15 = .ok (.aload_n 0, 1) := by decide +kernel
theorem d_A_finish_16 : decode b_A_finish 16 = .ok (.getfield 52, 3) := by decide +kernel
theorem d_A_finish_19 : decode b_A_finish 19 = .ok (.ifCond .ne 10, 3) := by decide +kernel
theorem d_A_finish_22 : decode b_A_finish 22 = .ok (.aload_n 0, 1) := by decide +kernel
theorem d_A_finish_23 : decode b_A_finish 23 = .ok (.bipush 6, 2) := by decide +kernel
theorem d_A_finish_25 : decode b_A_finish 25 = .ok (.invokevirtual 84, 3) := by decide +kernel
theorem d_A_finish_28 : decode b_A_finish 28 = .ok (.pop, 1) := by decide +kernel
theorem d_A_finish_29 : decode b_A_finish 29 = .ok (.iconst 0, 1) := by decide +kernel
theorem d_A_finish_30 : decode b_A_finish 30 = .ok (.istore_n 1, 1) := by decide +kernel
theorem d_A_finish_31 : decode b_A_finish 31 = .ok (.iload_n 1, 1) := by decide +kernel
theorem d_A_finish_32 : decode b_A_finish 32 = .ok (.aload_n 0, 1) := by decide +kernel
theorem d_A_finish_33 : decode b_A_finish 33 = .ok (.getfield 28, 3) := by decide +kernel
theorem d_A_finish_36 : decode b_A_finish 36 = .ok (.getfield 149, 3) := by decide +kernel
theorem d_A_finish_39 : decode b_A_finish 39 = .ok (.if_icmp .ge 21, 3) := by decide +kernel
theorem d_A_finish_42 : decode b_A_finish 42 = .ok (.aload_n 0, 1) := by decide +kernel
theorem d_A_finish_43 : decode b_A_finish 43 = .ok (.getfield 43, 3) := by decide +kernel
theorem d_A_finish_46 : decode b_A_finish 46 = .ok (.ifCond .ne 14, 3) := by decide +kernel
theorem d_A_finish_49 : decode b_A_finish 49 = .ok (.aload_n 0, 1) := by decide +kernel
theorem d_A_finish_50 : decode b_A_finish 50 = .ok (.iload_n 1, 1) := by decide +kernel
theorem d_A_finish_51 : decode b_A_finish 51 = .ok (.invokevirtual 152, 3) := by decide +kernel
theorem d_A_finish_54 : decode b_A_finish 54 = .ok (.iinc 1 1, 3) := by decide +kernel
theorem d_A_finish_57 : decode b_A_finish 57 = .ok (.goto (-26), 3) := by decide +kernel
theorem d_A_finish_60 : decode b_A_finish 60 = .ok (.aload_n 0, 1) := by decide +kernel
theorem d_A_finish_61 : decode b_A_finish 61 = .ok (.getfield 43, 3) := by decide +kernel
theorem d_A_finish_64 : decode b_A_finish 64 = .ok (.ifCond .eq 8, 3) := by decide +kernel
theorem d_A_finish_67 : decode b_A_finish 67 = .ok (.aload_n 0, 1) := by decide +kernel
theorem d_A_finish_68 : decode b_A_finish 68 = .ok (.iconst (-1), 1) := by decide +kernel
theorem d_A_finish_69 : decode b_A_finish 69 = .ok (.putfield 32, 3) := by decide +kernel
theorem d_A_finish_72 : decode b_A_finish 72 = .ok (.return_, 1) := by decide +kernel
abbrev b_A_close : ByteArray := prog_2_method_8_code
abbrev y_A_close : MethodName := ⟨"SignMachine$Assembler", "close", "(I)V"⟩
theorem h_A_close : (y_A_close).cls ≠ "java/lang/invoke/MethodHandle" ∧ (y_A_close).cls ≠ "java/lang/invoke/VarHandle" ∧ (parseMethodDescriptor (y_A_close).desc).map (fun d => d.parameters.length) = some 1 := by decide +kernel
theorem d_A_close_0 : decode b_A_close 0 = .ok (.aload_n 0, 1) := by decide +kernel
theorem d_A_close_1 : decode b_A_close 1 = .ok (.getfield 28, 3) := by decide +kernel
theorem d_A_close_4 : decode b_A_close 4 = .ok (.iload_n 1, 1) := by decide +kernel
theorem d_A_close_5 : decode b_A_close 5 = .ok (.invokevirtual 155, 3) := by decide +kernel
theorem d_A_close_8 : decode b_A_close 8 = .ok (.istore_n 2, 1) := by decide +kernel
theorem d_A_close_9 : decode b_A_close 9 = .ok (.iload_n 2, 1) := by decide +kernel
theorem d_A_close_10 : decode b_A_close 10 = .ok (.ifCond .ne 4, 3) := by decide +kernel
theorem d_A_close_13 : decode b_A_close 13 = .ok (.return_, 1) := by decide +kernel
theorem d_A_close_14 : decode b_A_close 14 = .ok (.aload_n 0, 1) := by decide +kernel
theorem d_A_close_15 : decode b_A_close 15 = .ok (.getfield 28, 3) := by decide +kernel
theorem d_A_close_18 : decode b_A_close 18 = .ok (.iload_n 1, 1) := by decide +kernel
theorem d_A_close_19 : decode b_A_close 19 = .ok (.invokevirtual 158, 3) := by decide +kernel
theorem d_A_close_22 : decode b_A_close 22 = .ok (.istore_n 3, 1) := by decide +kernel
theorem d_A_close_23 : decode b_A_close 23 = .ok (.iload_n 2, 1) := by decide +kernel
theorem d_A_close_24 : decode b_A_close 24 = .ok (.iconst 1, 1) := by decide +kernel
theorem d_A_close_25 : decode b_A_close 25 = .ok (.if_icmp .ne 12, 3) := by decide +kernel
theorem d_A_close_28 : decode b_A_close 28 = .ok (.aload_n 0, 1) := by decide +kernel
theorem d_A_close_29 : decode b_A_close 29 = .ok (.getfield 21, 3) := by decide +kernel
theorem d_A_close_32 : decode b_A_close 32 = .ok (.iload_n 3, 1) := by decide +kernel
theorem d_A_close_33 : decode b_A_close 33 = .ok (.invokevirtual 161, 3) := by decide +kernel
theorem d_A_close_36 : decode b_A_close 36 = .ok (.istore_n 3, 1) := by decide +kernel
theorem d_A_close_37 : decode b_A_close 37 = .ok (.iload_n 2, 1) := by decide +kernel
theorem d_A_close_38 : decode b_A_close 38 = .ok (.iconst 2, 1) := by decide +kernel
theorem d_A_close_39 : decode b_A_close 39 = .ok (.if_icmp .ne 23, 3) := by decide +kernel
theorem d_A_close_42 : decode b_A_close 42 = .ok (.aload_n 0, 1) := by decide +kernel
theorem d_A_close_43 : decode b_A_close 43 = .ok (.iconst 3, 1) := by decide +kernel
theorem d_A_close_44 : decode b_A_close 44 = .ok (.putfield 43, 3) := by decide +kernel
theorem d_A_close_47 : decode b_A_close 47 = .ok (.aload_n 0, 1) := by decide +kernel
theorem d_A_close_48 : decode b_A_close 48 = .ok (.aload_n 0, 1) := by decide +kernel
theorem d_A_close_49 : decode b_A_close 49 = .ok (.getfield 28, 3) := by decide +kernel
theorem d_A_close_52 : decode b_A_close 52 = .ok (.iload_n 1, 1) := by decide +kernel
theorem d_A_close_53 : decode b_A_close 53 = .ok (.invokevirtual 164, 3) := by decide +kernel
theorem d_A_close_56 : decode b_A_close 56 = .ok (.putfield 46, 3) := by decide +kernel
theorem d_A_close_59 : decode b_A_close 59 = .ok (.goto 42, 3) := by decide +kernel
theorem d_A_close_62 : decode b_A_close 62 = .ok (.iload_n 3, 1) := by decide +kernel
theorem d_A_close_63 : decode b_A_close 63 = .ok (.invokestatic 167, 3) := by decide +kernel
theorem d_A_close_66 : decode b_A_close 66 = .ok (.sipush 4095, 3) := by decide +kernel
theorem d_A_close_69 : decode b_A_close 69 = .ok (.if_icmp .le 23, 3) := by decide +kernel
theorem d_A_close_72 : decode b_A_close 72 = .ok (.aload_n 0, 1) := by decide +kernel
theorem d_A_close_73 : decode b_A_close 73 = .ok (.iconst 4, 1) := by decide +kernel
theorem d_A_close_74 : decode b_A_close 74 = .ok (.putfield 43, 3) := by decide +kernel
theorem d_A_close_77 : decode b_A_close 77 = .ok (.aload_n 0, 1) := by decide +kernel
theorem d_A_close_78 : decode b_A_close 78 = .ok (.aload_n 0, 1) := by decide +kernel
theorem d_A_close_79 : decode b_A_close 79 = .ok (.getfield 28, 3) := by decide +kernel
theorem d_A_close_82 : decode b_A_close 82 = .ok (.iload_n 1, 1) := by decide +kernel
theorem d_A_close_83 : decode b_A_close 83 = .ok (.invokevirtual 164, 3) := by decide +kernel
theorem d_A_close_86 : decode b_A_close 86 = .ok (.putfield 46, 3) := by decide +kernel
theorem d_A_close_89 : decode b_A_close 89 = .ok (.goto 12, 3) := by decide +kernel
theorem d_A_close_92 : decode b_A_close 92 = .ok (.aload_n 0, 1) := by decide +kernel
theorem d_A_close_93 : decode b_A_close 93 = .ok (.getfield 28, 3) := by decide +kernel
theorem d_A_close_96 : decode b_A_close 96 = .ok (.iload_n 1, 1) := by decide +kernel
theorem d_A_close_97 : decode b_A_close 97 = .ok (.iload_n 3, 1) := by decide +kernel
theorem d_A_close_98 : decode b_A_close 98 = .ok (.invokevirtual 172, 3) := by decide +kernel
theorem d_A_close_101 : decode b_A_close 101 = .ok (.return_, 1) := by decide +kernel
abbrev b_O_kindOf : ByteArray := prog_6_method_9_code
abbrev y_O_kindOf : MethodName := ⟨"SignMachine$Output", "kindOf", "(I)I"⟩
theorem h_O_kindOf : (y_O_kindOf).cls ≠ "java/lang/invoke/MethodHandle" ∧ (y_O_kindOf).cls ≠ "java/lang/invoke/VarHandle" ∧ (parseMethodDescriptor (y_O_kindOf).desc).map (fun d => d.parameters.length) = some 1 := by decide +kernel
theorem d_O_kindOf_0 : decode b_O_kindOf 0 = .ok (.iload_n 1, 1) := by decide +kernel
theorem d_O_kindOf_1 : decode b_O_kindOf 1 = .ok (.invokestatic 39, 3) := by decide +kernel
theorem d_O_kindOf_4 : decode b_O_kindOf 4 = .ok (.ifCond .eq 12, 3) := by decide +kernel
theorem d_O_kindOf_7 : decode b_O_kindOf 7 = .ok (.aload_n 0, 1) := by decide +kernel
theorem d_O_kindOf_8 : decode b_O_kindOf 8 = .ok (.getfield 25, 3) := by decide +kernel
theorem d_O_kindOf_11 : decode b_O_kindOf 11 = .ok (.iload_n 1, 1) := by decide +kernel
theorem d_O_kindOf_12 : decode b_O_kindOf 12 = .ok (.baload, 1) := by decide +kernel
theorem d_O_kindOf_13 : decode b_O_kindOf 13 = .ok (.goto 4, 3) := by decide +kernel
theorem d_O_kindOf_16 : decode b_O_kindOf 16 = .ok (.iconst 0, 1) := by decide +kernel
theorem d_O_kindOf_17 : decode b_O_kindOf 17 = .ok (.ireturn, 1) := by decide +kernel
abbrev b_O_goalOf : ByteArray := prog_6_method_10_code
abbrev y_O_goalOf : MethodName := ⟨"SignMachine$Output", "goalOf", "(I)I"⟩
theorem h_O_goalOf : (y_O_goalOf).cls ≠ "java/lang/invoke/MethodHandle" ∧ (y_O_goalOf).cls ≠ "java/lang/invoke/VarHandle" ∧ (parseMethodDescriptor (y_O_goalOf).desc).map (fun d => d.parameters.length) = some 1 := by decide +kernel
theorem d_O_goalOf_0 : decode b_O_goalOf 0 = .ok (.iload_n 1, 1) := by decide +kernel
theorem d_O_goalOf_1 : decode b_O_goalOf 1 = .ok (.invokestatic 39, 3) := by decide +kernel
theorem d_O_goalOf_4 : decode b_O_goalOf 4 = .ok (.ifCond .eq 12, 3) := by decide +kernel
theorem d_O_goalOf_7 : decode b_O_goalOf 7 = .ok (.aload_n 0, 1) := by decide +kernel
theorem d_O_goalOf_8 : decode b_O_goalOf 8 = .ok (.getfield 29, 3) := by decide +kernel
theorem d_O_goalOf_11 : decode b_O_goalOf 11 = .ok (.iload_n 1, 1) := by decide +kernel
theorem d_O_goalOf_12 : decode b_O_goalOf 12 = .ok (.iaload, 1) := by decide +kernel
theorem d_O_goalOf_13 : decode b_O_goalOf 13 = .ok (.goto 5, 3) := by decide +kernel
theorem d_O_goalOf_16 : decode b_O_goalOf 16 = .ok (.bipush (-2), 2) := by decide +kernel
theorem d_O_goalOf_18 : decode b_O_goalOf 18 = .ok (.ireturn, 1) := by decide +kernel
abbrev b_O_putAddress : ByteArray := prog_6_method_11_code
abbrev y_O_putAddress : MethodName := ⟨"SignMachine$Output", "putAddress", "(II)V"⟩
theorem h_O_putAddress : (y_O_putAddress).cls ≠ "java/lang/invoke/MethodHandle" ∧ (y_O_putAddress).cls ≠ "java/lang/invoke/VarHandle" ∧ (parseMethodDescriptor (y_O_putAddress).desc).map (fun d => d.parameters.length) = some 2 := by decide +kernel
theorem d_O_putAddress_0 : decode b_O_putAddress 0 = .ok (.iload_n 1, 1) := by decide +kernel
theorem d_O_putAddress_1 : decode b_O_putAddress 1 = .ok (.invokestatic 39, 3) := by decide +kernel
theorem d_O_putAddress_4 : decode b_O_putAddress 4 = .ok (.ifCond .eq 16, 3) := by decide +kernel
theorem d_O_putAddress_7 : decode b_O_putAddress 7 = .ok (.aload_n 0, 1) := by decide +kernel
theorem d_O_putAddress_8 : decode b_O_putAddress 8 = .ok (.getfield 19, 3) := by decide +kernel
theorem d_O_putAddress_11 : decode b_O_putAddress 11 = .ok (.iload_n 1, 1) := by decide +kernel
theorem d_O_putAddress_12 : decode b_O_putAddress 12 = .ok (.dup2, 1) := by decide +kernel
theorem d_O_putAddress_13 : decode b_O_putAddress 13 = .ok (.iaload, 1) := by decide +kernel
theorem d_O_putAddress_14 : decode b_O_putAddress 14 = .ok (.iload_n 2, 1) := by decide +kernel
theorem d_O_putAddress_15 : decode b_O_putAddress 15 = .ok (.invokestatic 43, 3) := by decide +kernel
theorem d_O_putAddress_18 : decode b_O_putAddress 18 = .ok (.ior, 1) := by decide +kernel
theorem d_O_putAddress_19 : decode b_O_putAddress 19 = .ok (.iastore, 1) := by decide +kernel
theorem d_O_putAddress_20 : decode b_O_putAddress 20 = .ok (.return_, 1) := by decide +kernel
abbrev b_A_addressPart : ByteArray := prog_2_method_9_code
abbrev y_A_addressPart : MethodName := ⟨"SignMachine$Assembler", "addressPart", "(I)I"⟩
theorem h_A_addressPart : (y_A_addressPart).cls ≠ "java/lang/invoke/MethodHandle" ∧ (y_A_addressPart).cls ≠ "java/lang/invoke/VarHandle" ∧ (parseMethodDescriptor (y_A_addressPart).desc).map (fun d => d.parameters.length) = some 1 := by decide +kernel
theorem d_A_addressPart_0 : decode b_A_addressPart 0 = .ok (.iload_n 0, 1) := by decide +kernel
theorem d_A_addressPart_1 : decode b_A_addressPart 1 = .ok (.ifCond .ge 7, 3) := by decide +kernel
theorem d_A_addressPart_4 : decode b_A_addressPart 4 = .ok (.iconst 1, 1) := by decide +kernel
theorem d_A_addressPart_5 : decode b_A_addressPart 5 = .ok (.goto 4, 3) := by decide +kernel
theorem d_A_addressPart_8 : decode b_A_addressPart 8 = .ok (.iconst 0, 1) := by decide +kernel
theorem d_A_addressPart_9 : decode b_A_addressPart 9 = .ok (.iload_n 0, 1) := by decide +kernel
theorem d_A_addressPart_10 : decode b_A_addressPart 10 = .ok (.invokestatic 167, 3) := by decide +kernel
theorem d_A_addressPart_13 : decode b_A_addressPart 13 = .ok (.sipush 4095, 3) := by decide +kernel
theorem d_A_addressPart_16 : decode b_A_addressPart 16 = .ok (.iand, 1) := by decide +kernel
theorem d_A_addressPart_17 : decode b_A_addressPart 17 = .ok (.bipush 18, 2) := by decide +kernel
theorem d_A_addressPart_19 : decode b_A_addressPart 19 = .ok (.ishl, 1) := by decide +kernel
theorem d_A_addressPart_20 : decode b_A_addressPart 20 = .ok (.invokestatic 175, 3) := by decide +kernel
theorem d_A_addressPart_23 : decode b_A_addressPart 23 = .ok (.ireturn, 1) := by decide +kernel
abbrev b_O_lineOf : ByteArray := prog_6_method_8_code
abbrev y_O_lineOf : MethodName := ⟨"SignMachine$Output", "lineOf", "(I)I"⟩
theorem h_O_lineOf : (y_O_lineOf).cls ≠ "java/lang/invoke/MethodHandle" ∧ (y_O_lineOf).cls ≠ "java/lang/invoke/VarHandle" ∧ (parseMethodDescriptor (y_O_lineOf).desc).map (fun d => d.parameters.length) = some 1 := by decide +kernel
theorem d_O_lineOf_0 : decode b_O_lineOf 0 = .ok (.iload_n 1, 1) := by decide +kernel
theorem d_O_lineOf_1 : decode b_O_lineOf 1 = .ok (.invokestatic 39, 3) := by decide +kernel
theorem d_O_lineOf_4 : decode b_O_lineOf 4 = .ok (.ifCond .eq 12, 3) := by decide +kernel
theorem d_O_lineOf_7 : decode b_O_lineOf 7 = .ok (.aload_n 0, 1) := by decide +kernel
theorem d_O_lineOf_8 : decode b_O_lineOf 8 = .ok (.getfield 22, 3) := by decide +kernel
theorem d_O_lineOf_11 : decode b_O_lineOf 11 = .ok (.iload_n 1, 1) := by decide +kernel
theorem d_O_lineOf_12 : decode b_O_lineOf 12 = .ok (.iaload, 1) := by decide +kernel
theorem d_O_lineOf_13 : decode b_O_lineOf 13 = .ok (.goto 4, 3) := by decide +kernel
theorem d_O_lineOf_16 : decode b_O_lineOf 16 = .ok (.iconst 0, 1) := by decide +kernel
theorem d_O_lineOf_17 : decode b_O_lineOf 17 = .ok (.ireturn, 1) := by decide +kernel
abbrev b_N_valueOf : ByteArray := prog_4_method_11_code
abbrev y_N_valueOf : MethodName := ⟨"SignMachine$Names", "valueOf", "(I)I"⟩
theorem h_N_valueOf : (y_N_valueOf).cls ≠ "java/lang/invoke/MethodHandle" ∧ (y_N_valueOf).cls ≠ "java/lang/invoke/VarHandle" ∧ (parseMethodDescriptor (y_N_valueOf).desc).map (fun d => d.parameters.length) = some 1 := by decide +kernel
theorem d_N_valueOf_0 : decode b_N_valueOf 0 = .ok (.iload_n 1, 1) := by decide +kernel
theorem d_N_valueOf_1 : decode b_N_valueOf 1 = .ok (.ifCond .lt 18, 3) := by decide +kernel
theorem d_N_valueOf_4 : decode b_N_valueOf 4 = .ok (.iload_n 1, 1) := by decide +kernel
theorem d_N_valueOf_5 : decode b_N_valueOf 5 = .ok (.bipush 100, 2) := by decide +kernel
theorem d_N_valueOf_7 : decode b_N_valueOf 7 = .ok (.if_icmp .ge 12, 3) := by decide +kernel
theorem d_N_valueOf_10 : decode b_N_valueOf 10 = .ok (.aload_n 0, 1) := by decide +kernel
theorem d_N_valueOf_11 : decode b_N_valueOf 11 = .ok (.getfield 15, 3) := by decide +kernel
theorem d_N_valueOf_14 : decode b_N_valueOf 14 = .ok (.iload_n 1, 1) := by decide +kernel
theorem d_N_valueOf_15 : decode b_N_valueOf 15 = .ok (.iaload, 1) := by decide +kernel
theorem d_N_valueOf_16 : decode b_N_valueOf 16 = .ok (.goto 4, 3) := by decide +kernel
theorem d_N_valueOf_19 : decode b_N_valueOf 19 = .ok (.iconst 0, 1) := by decide +kernel
theorem d_N_valueOf_20 : decode b_N_valueOf 20 = .ok (.ireturn, 1) := by decide +kernel
abbrev b_A_fail : ByteArray := prog_2_method_10_code
abbrev y_A_fail : MethodName := ⟨"SignMachine$Assembler", "fail", "(I)I"⟩
theorem h_A_fail : (y_A_fail).cls ≠ "java/lang/invoke/MethodHandle" ∧ (y_A_fail).cls ≠ "java/lang/invoke/VarHandle" ∧ (parseMethodDescriptor (y_A_fail).desc).map (fun d => d.parameters.length) = some 1 := by decide +kernel
theorem d_A_fail_0 : decode b_A_fail 0 = .ok (.aload_n 0, 1) := by decide +kernel
theorem d_A_fail_1 : decode b_A_fail 1 = .ok (.getfield 43, 3) := by decide +kernel
theorem d_A_fail_4 : decode b_A_fail 4 = .ok (.ifCond .ne 19, 3) := by decide +kernel
theorem d_A_fail_7 : decode b_A_fail 7 = .ok (.aload_n 0, 1) := by decide +kernel
theorem d_A_fail_8 : decode b_A_fail 8 = .ok (.iload_n 1, 1) := by decide +kernel
theorem d_A_fail_9 : decode b_A_fail 9 = .ok (.putfield 43, 3) := by decide +kernel
theorem d_A_fail_12 : decode b_A_fail 12 = .ok (.aload_n 0, 1) := by decide +kernel
theorem d_A_fail_13 : decode b_A_fail 13 = .ok (.aload_n 0, 1) := by decide +kernel
theorem d_A_fail_14 : decode b_A_fail 14 = .ok (.getfield 12, 3) := by decide +kernel
theorem d_A_fail_17 : decode b_A_fail 17 = .ok (.getfield 179, 3) := by decide +kernel
theorem d_A_fail_20 : decode b_A_fail 20 = .ok (.putfield 46, 3) := by decide +kernel
theorem d_A_fail_23 : decode b_A_fail 23 = .ok (.iconst 0, 1) := by decide +kernel
theorem d_A_fail_24 : decode b_A_fail 24 = .ok (.ireturn, 1) := by decide +kernel
abbrev b_S_load : ByteArray := prog_1_method_17_code
abbrev y_S_load : MethodName := ⟨"SignMachine", "load", "(LSignMachine$Output;)V"⟩
theorem h_S_load : (y_S_load).cls ≠ "java/lang/invoke/MethodHandle" ∧ (y_S_load).cls ≠ "java/lang/invoke/VarHandle" ∧ (parseMethodDescriptor (y_S_load).desc).map (fun d => d.parameters.length) = some 1 := by decide +kernel
theorem d_S_load_0 : decode b_S_load 0 = .ok (.iconst 0, 1) := by decide +kernel
theorem d_S_load_1 : decode b_S_load 1 = .ok (.istore_n 2, 1) := by decide +kernel
theorem d_S_load_2 : decode b_S_load 2 = .ok (.iload_n 2, 1) := by decide +kernel
theorem d_S_load_3 : decode b_S_load 3 = .ok (.aload_n 1, 1) := by decide +kernel
theorem d_S_load_4 : decode b_S_load 4 = .ok (.getfield 156, 3) := by decide +kernel
theorem d_S_load_7 : decode b_S_load 7 = .ok (.if_icmp .ge 26, 3) := by decide +kernel
theorem d_S_load_10 : decode b_S_load 10 = .ok (.aload_n 0, 1) := by decide +kernel
theorem d_S_load_11 : decode b_S_load 11 = .ok (.getfield 10, 3) := by decide +kernel
theorem d_S_load_14 : decode b_S_load 14 = .ok (.aload_n 1, 1) := by decide +kernel
theorem d_S_load_15 : decode b_S_load 15 = .ok (.iload_n 2, 1) := by decide +kernel
theorem d_S_load_16 : decode b_S_load 16 = .ok (.invokevirtual 161, 3) := by decide +kernel
theorem d_S_load_19 : decode b_S_load 19 = .ok (.aload_n 1, 1) := by decide +kernel
theorem d_S_load_20 : decode b_S_load 20 = .ok (.iload_n 2, 1) := by decide +kernel
theorem d_S_load_21 : decode b_S_load 21 = .ok (.invokevirtual 164, 3) := by decide +kernel
theorem d_S_load_24 : decode b_S_load 24 = .ok (.invokevirtual 30, 3) := by decide +kernel
theorem d_S_load_27 : decode b_S_load 27 = .ok (.iinc 2 1, 3) := by decide +kernel
theorem d_S_load_30 : decode b_S_load 30 = .ok (.goto (-28), 3) := by decide +kernel
theorem d_S_load_33 : decode b_S_load 33 = .ok (.return_, 1) := by decide +kernel
abbrev b_O_placeOf : ByteArray := prog_6_method_6_code
abbrev y_O_placeOf : MethodName := ⟨"SignMachine$Output", "placeOf", "(I)I"⟩
theorem h_O_placeOf : (y_O_placeOf).cls ≠ "java/lang/invoke/MethodHandle" ∧ (y_O_placeOf).cls ≠ "java/lang/invoke/VarHandle" ∧ (parseMethodDescriptor (y_O_placeOf).desc).map (fun d => d.parameters.length) = some 1 := by decide +kernel
theorem d_O_placeOf_0 : decode b_O_placeOf 0 = .ok (.iload_n 1, 1) := by decide +kernel
theorem d_O_placeOf_1 : decode b_O_placeOf 1 = .ok (.invokestatic 39, 3) := by decide +kernel
theorem d_O_placeOf_4 : decode b_O_placeOf 4 = .ok (.ifCond .eq 12, 3) := by decide +kernel
theorem d_O_placeOf_7 : decode b_O_placeOf 7 = .ok (.aload_n 0, 1) := by decide +kernel
theorem d_O_placeOf_8 : decode b_O_placeOf 8 = .ok (.getfield 15, 3) := by decide +kernel
theorem d_O_placeOf_11 : decode b_O_placeOf 11 = .ok (.iload_n 1, 1) := by decide +kernel
theorem d_O_placeOf_12 : decode b_O_placeOf 12 = .ok (.iaload, 1) := by decide +kernel
theorem d_O_placeOf_13 : decode b_O_placeOf 13 = .ok (.goto 5, 3) := by decide +kernel
theorem d_O_placeOf_16 : decode b_O_placeOf 16 = .ok (.bipush (-2), 2) := by decide +kernel
theorem d_O_placeOf_18 : decode b_O_placeOf 18 = .ok (.ireturn, 1) := by decide +kernel
abbrev b_O_wordOf : ByteArray := prog_6_method_7_code
abbrev y_O_wordOf : MethodName := ⟨"SignMachine$Output", "wordOf", "(I)I"⟩
theorem h_O_wordOf : (y_O_wordOf).cls ≠ "java/lang/invoke/MethodHandle" ∧ (y_O_wordOf).cls ≠ "java/lang/invoke/VarHandle" ∧ (parseMethodDescriptor (y_O_wordOf).desc).map (fun d => d.parameters.length) = some 1 := by decide +kernel
theorem d_O_wordOf_0 : decode b_O_wordOf 0 = .ok (.iload_n 1, 1) := by decide +kernel
theorem d_O_wordOf_1 : decode b_O_wordOf 1 = .ok (.invokestatic 39, 3) := by decide +kernel
theorem d_O_wordOf_4 : decode b_O_wordOf 4 = .ok (.ifCond .eq 12, 3) := by decide +kernel
theorem d_O_wordOf_7 : decode b_O_wordOf 7 = .ok (.aload_n 0, 1) := by decide +kernel
theorem d_O_wordOf_8 : decode b_O_wordOf 8 = .ok (.getfield 19, 3) := by decide +kernel
theorem d_O_wordOf_11 : decode b_O_wordOf 11 = .ok (.iload_n 1, 1) := by decide +kernel
theorem d_O_wordOf_12 : decode b_O_wordOf 12 = .ok (.iaload, 1) := by decide +kernel
theorem d_O_wordOf_13 : decode b_O_wordOf 13 = .ok (.goto 4, 3) := by decide +kernel
theorem d_O_wordOf_16 : decode b_O_wordOf 16 = .ok (.iconst 0, 1) := by decide +kernel
theorem d_O_wordOf_17 : decode b_O_wordOf 17 = .ok (.ireturn, 1) := by decide +kernel
abbrev b_A_hasLine : ByteArray := prog_2_method_3_code
abbrev y_A_hasLine : MethodName := ⟨"SignMachine$Assembler", "hasLine", "()Z"⟩
theorem h_A_hasLine : (y_A_hasLine).cls ≠ "java/lang/invoke/MethodHandle" ∧ (y_A_hasLine).cls ≠ "java/lang/invoke/VarHandle" ∧ (parseMethodDescriptor (y_A_hasLine).desc).map (fun d => d.parameters.length) = some 0 := by decide +kernel
theorem d_A_hasLine_0 : decode b_A_hasLine 0 = .ok (.aload_n 0, 1) := by decide +kernel
theorem d_A_hasLine_1 : decode b_A_hasLine 1 = .ok (.getfield 43, 3) := by decide +kernel
theorem d_A_hasLine_4 : decode b_A_hasLine 4 = .ok (.ifCond .ne 24, 3) := by decide +kernel
theorem d_A_hasLine_7 : decode b_A_hasLine 7 = .ok (.aload_n 0, 1) := by decide +kernel
theorem d_A_hasLine_8 : decode b_A_hasLine 8 = .ok (.getfield 52, 3) := by decide +kernel
theorem d_A_hasLine_11 : decode b_A_hasLine 11 = .ok (.ifCond .ne 17, 3) := by decide +kernel
theorem d_A_hasLine_14 : decode b_A_hasLine 14 = .ok (.aload_n 0, 1) := by decide +kernel
theorem d_A_hasLine_15 : decode b_A_hasLine 15 = .ok (.getfield 12, 3) := by decide +kernel
theorem d_A_hasLine_18 : decode b_A_hasLine 18 = .ok (.invokevirtual 56, 3) := by decide +kernel
theorem d_A_hasLine_21 : decode b_A_hasLine 21 = .ok (.ifCond .eq 7, 3) := by decide +kernel
theorem d_A_hasLine_24 : decode b_A_hasLine 24 = .ok (.iconst 1, 1) := by decide +kernel
theorem d_A_hasLine_25 : decode b_A_hasLine 25 = .ok (.goto 4, 3) := by decide +kernel
theorem d_A_hasLine_28 : decode b_A_hasLine 28 = .ok (.iconst 0, 1) := by decide +kernel
theorem d_A_hasLine_29 : decode b_A_hasLine 29 = .ok (.ireturn, 1) := by decide +kernel
abbrev b_R_hasLine : ByteArray := prog_7_method_5_code
abbrev y_R_hasLine : MethodName := ⟨"SignMachine$Source", "hasLine", "()Z"⟩
theorem h_R_hasLine : (y_R_hasLine).cls ≠ "java/lang/invoke/MethodHandle" ∧ (y_R_hasLine).cls ≠ "java/lang/invoke/VarHandle" ∧ (parseMethodDescriptor (y_R_hasLine).desc).map (fun d => d.parameters.length) = some 0 := by decide +kernel
theorem d_R_hasLine_0 : decode b_R_hasLine 0 = .ok (.aload_n 0, 1) := by decide +kernel
theorem d_R_hasLine_1 : decode b_R_hasLine 1 = .ok (.getfield 20, 3) := by decide +kernel
theorem d_R_hasLine_4 : decode b_R_hasLine 4 = .ok (.aload_n 0, 1) := by decide +kernel
theorem d_R_hasLine_5 : decode b_R_hasLine 5 = .ok (.getfield 13, 3) := by decide +kernel
theorem d_R_hasLine_8 : decode b_R_hasLine 8 = .ok (.if_icmp .ge 7, 3) := by decide +kernel
theorem d_R_hasLine_11 : decode b_R_hasLine 11 = .ok (.iconst 1, 1) := by decide +kernel
theorem d_R_hasLine_12 : decode b_R_hasLine 12 = .ok (.goto 4, 3) := by decide +kernel
theorem d_R_hasLine_15 : decode b_R_hasLine 15 = .ok (.iconst 0, 1) := by decide +kernel
theorem d_R_hasLine_16 : decode b_R_hasLine 16 = .ok (.ireturn, 1) := by decide +kernel
abbrev b_A_takeHead : ByteArray := prog_2_method_4_code
abbrev y_A_takeHead : MethodName := ⟨"SignMachine$Assembler", "takeHead", "()V"⟩
theorem h_A_takeHead : (y_A_takeHead).cls ≠ "java/lang/invoke/MethodHandle" ∧ (y_A_takeHead).cls ≠ "java/lang/invoke/VarHandle" ∧ (parseMethodDescriptor (y_A_takeHead).desc).map (fun d => d.parameters.length) = some 0 := by decide +kernel
theorem d_A_takeHead_0 : decode b_A_takeHead 0 = .ok (.aload_n 0, 1) := by decide +kernel
theorem d_A_takeHead_1 : decode b_A_takeHead 1 = .ok (.aconst_null, 1) := by decide +kernel
theorem d_A_takeHead_2 : decode b_A_takeHead 2 = .ok (.putfield 60, 3) := by decide +kernel
theorem d_A_takeHead_5 : decode b_A_takeHead 5 = .ok (.aload_n 0, 1) := by decide +kernel
theorem d_A_takeHead_6 : decode b_A_takeHead 6 = .ok (.lconst 0, 1) := by decide +kernel
theorem d_A_takeHead_7 : decode b_A_takeHead 7 = .ok (.putfield 64, 3) := by decide +kernel
theorem d_A_takeHead_10 : decode b_A_takeHead 10 = .ok (.aload_n 0, 1) := by decide +kernel
theorem d_A_takeHead_11 : decode b_A_takeHead 11 = .ok (.getfield 12, 3) := by decide +kernel
theorem d_A_takeHead_14 : decode b_A_takeHead 14 = .ok (.invokevirtual 68, 3) := by decide +kernel
theorem d_A_takeHead_17 : decode b_A_takeHead 17 = .ok (.aload_n 0, 1) := by decide +kernel
theorem d_A_takeHead_18 : decode b_A_takeHead 18 = .ok (.invokevirtual 71, 3) := by decide +kernel
theorem d_A_takeHead_21 : decode b_A_takeHead 21 = .ok (.ifCond .eq 4, 3) := by decide +kernel
theorem d_A_takeHead_24 : decode b_A_takeHead 24 = .ok (.return_, 1) := by decide +kernel
theorem d_A_takeHead_25 : decode b_A_takeHead 25 = .ok (.aload_n 0, 1) := by decide +kernel
theorem d_A_takeHead_26 : decode b_A_takeHead 26 = .ok (.invokevirtual 74, 3) := by decide +kernel
theorem d_A_takeHead_29 : decode b_A_takeHead 29 = .ok (.aload_n 0, 1) := by decide +kernel
theorem d_A_takeHead_30 : decode b_A_takeHead 30 = .ok (.getfield 12, 3) := by decide +kernel
theorem d_A_takeHead_33 : decode b_A_takeHead 33 = .ok (.invokevirtual 77, 3) := by decide +kernel
theorem d_A_takeHead_36 : decode b_A_takeHead 36 = .ok (.aload_n 0, 1) := by decide +kernel
theorem d_A_takeHead_37 : decode b_A_takeHead 37 = .ok (.getfield 12, 3) := by decide +kernel
theorem d_A_takeHead_40 : decode b_A_takeHead 40 = .ok (.invokevirtual 80, 3) := by decide +kernel
theorem d_A_takeHead_43 : decode b_A_takeHead 43 = .ok (.iconst (-1), 1) := by decide +kernel
theorem d_A_takeHead_44 : decode b_A_takeHead 44 = .ok (.if_icmp .ne 9, 3) := by decide +kernel
theorem d_A_takeHead_47 : decode b_A_takeHead 47 = .ok (.aload_n 0, 1) := by decide +kernel
theorem d_A_takeHead_48 : decode b_A_takeHead 48 = .ok (.iconst 1, 1) := by decide +kernel
theorem d_A_takeHead_49 : decode b_A_takeHead 49 = .ok (.invokevirtual 84, 3) := by decide +kernel
theorem d_A_takeHead_52 : decode b_A_takeHead 52 = .ok (.pop, 1) := by decide +kernel
theorem d_A_takeHead_53 : decode b_A_takeHead 53 = .ok (.aload_n 0, 1) := by decide +kernel
theorem d_A_takeHead_54 : decode b_A_takeHead 54 = .ok (.getfield 43, 3) := by decide +kernel
theorem d_A_takeHead_57 : decode b_A_takeHead 57 = .ok (.ifCond .ne 7, 3) := by decide +kernel
theorem d_A_takeHead_60 : decode b_A_takeHead 60 = .ok (.aload_n 0, 1) := by decide +kernel
theorem d_A_takeHead_61 : decode b_A_takeHead 61 = .ok (.invokevirtual 88, 3) := by decide +kernel
theorem d_A_takeHead_64 : decode b_A_takeHead 64 = .ok (.aload_n 0, 1) := by decide +kernel
theorem d_A_takeHead_65 : decode b_A_takeHead 65 = .ok (.getfield 43, 3) := by decide +kernel
theorem d_A_takeHead_68 : decode b_A_takeHead 68 = .ok (.ifCond .ne 21, 3) := by decide +kernel
theorem d_A_takeHead_71 : decode b_A_takeHead 71 = .ok (.aload_n 0, 1) := by decide +kernel
theorem d_A_takeHead_72 : decode b_A_takeHead 72 = .ok (.getfield 60, 3) := by decide +kernel
theorem d_A_takeHead_75 : decode b_A_takeHead 75 = .ok (.getstatic 91, 3) := by decide +kernel
theorem d_A_takeHead_78 : decode b_A_takeHead 78 = .ok (.if_acmp .eq 11, 3) := by decide +kernel
theorem d_A_takeHead_81 : decode b_A_takeHead 81 = .ok (.aload_n 0, 1) := by decide +kernel
theorem d_A_takeHead_82 : decode b_A_takeHead 82 = .ok (.aload_n 0, 1) := by decide +kernel
theorem d_A_takeHead_83 : decode b_A_takeHead 83 = .ok (.getfield 49, 3) := by decide +kernel
theorem d_A_takeHead_86 : decode b_A_takeHead 86 = .ok (.invokevirtual 96, 3) := by decide +kernel
theorem d_A_takeHead_89 : decode b_A_takeHead 89 = .ok (.return_, 1) := by decide +kernel
abbrev b_R_nextLine : ByteArray := prog_7_method_6_code
abbrev y_R_nextLine : MethodName := ⟨"SignMachine$Source", "nextLine", "()V"⟩
theorem h_R_nextLine : (y_R_nextLine).cls ≠ "java/lang/invoke/MethodHandle" ∧ (y_R_nextLine).cls ≠ "java/lang/invoke/VarHandle" ∧ (parseMethodDescriptor (y_R_nextLine).desc).map (fun d => d.parameters.length) = some 0 := by decide +kernel
theorem d_R_nextLine_0 : decode b_R_nextLine 0 = .ok (.aload_n 0, 1) := by decide +kernel
theorem d_R_nextLine_1 : decode b_R_nextLine 1 = .ok (.dup, 1) := by decide +kernel
theorem d_R_nextLine_2 : decode b_R_nextLine 2 = .ok (.getfield 17, 3) := by decide +kernel
theorem d_R_nextLine_5 : decode b_R_nextLine 5 = .ok (.iconst 1, 1) := by decide +kernel
theorem d_R_nextLine_6 : decode b_R_nextLine 6 = .ok (.iadd, 1) := by decide +kernel
theorem d_R_nextLine_7 : decode b_R_nextLine 7 = .ok (.putfield 17, 3) := by decide +kernel
theorem d_R_nextLine_10 : decode b_R_nextLine 10 = .ok (.aload_n 0, 1) := by decide +kernel
theorem d_R_nextLine_11 : decode b_R_nextLine 11 = .ok (.aload_n 0, 1) := by decide +kernel
theorem d_R_nextLine_12 : decode b_R_nextLine 12 = .ok (.getfield 20, 3) := by decide +kernel
theorem d_R_nextLine_15 : decode b_R_nextLine 15 = .ok (.putfield 23, 3) := by decide +kernel
theorem d_R_nextLine_18 : decode b_R_nextLine 18 = .ok (.aload_n 0, 1) := by decide +kernel
theorem d_R_nextLine_19 : decode b_R_nextLine 19 = .ok (.aload_n 0, 1) := by decide +kernel
theorem d_R_nextLine_20 : decode b_R_nextLine 20 = .ok (.getfield 23, 3) := by decide +kernel
theorem d_R_nextLine_23 : decode b_R_nextLine 23 = .ok (.putfield 26, 3) := by decide +kernel
theorem d_R_nextLine_26 : decode b_R_nextLine 26 = .ok (.iconst 0, 1) := by decide +kernel
theorem d_R_nextLine_27 : decode b_R_nextLine 27 = .ok (.istore_n 1, 1) := by decide +kernel
theorem d_R_nextLine_28 : decode b_R_nextLine 28 = .ok (.iload_n 1, 1) := by decide +kernel
theorem d_R_nextLine_29 : decode b_R_nextLine 29 = .ok (.sipush 4000, 3) := by decide +kernel
theorem d_R_nextLine_32 : decode b_R_nextLine 32 = .ok (.if_icmp .ge 43, 3) := by decide +kernel
theorem d_R_nextLine_35 : decode b_R_nextLine 35 = .ok (.aload_n 0, 1) := by decide +kernel
theorem d_R_nextLine_36 : decode b_R_nextLine 36 = .ok (.getfield 26, 3) := by decide +kernel
theorem d_R_nextLine_39 : decode b_R_nextLine 39 = .ok (.aload_n 0, 1) := by decide +kernel
theorem d_R_nextLine_40 : decode b_R_nextLine 40 = .ok (.getfield 13, 3) := by decide +kernel
theorem d_R_nextLine_43 : decode b_R_nextLine 43 = .ok (.if_icmp .ge 32, 3) := by decide +kernel
theorem d_R_nextLine_46 : decode b_R_nextLine 46 = .ok (.aload_n 0, 1) := by decide +kernel
theorem d_R_nextLine_47 : decode b_R_nextLine 47 = .ok (.aload_n 0, 1) := by decide +kernel
theorem d_R_nextLine_48 : decode b_R_nextLine 48 = .ok (.getfield 26, 3) := by decide +kernel
theorem d_R_nextLine_51 : decode b_R_nextLine 51 = .ok (.invokevirtual 29, 3) := by decide +kernel
theorem d_R_nextLine_54 : decode b_R_nextLine 54 = .ok (.bipush 10, 2) := by decide +kernel
theorem d_R_nextLine_56 : decode b_R_nextLine 56 = .ok (.if_icmp .eq 19, 3) := by decide +kernel
theorem d_R_nextLine_59 : decode b_R_nextLine 59 = .ok (.aload_n 0, 1) := by decide +kernel
theorem d_R_nextLine_60 : decode b_R_nextLine 60 = .ok (.dup, 1) := by decide +kernel
theorem d_R_nextLine_61 : decode b_R_nextLine 61 = .ok (.getfield 26, 3) := by decide +kernel
theorem d_R_nextLine_64 : decode b_R_nextLine 64 = .ok (.iconst 1, 1) := by decide +kernel
theorem d_R_nextLine_65 : decode b_R_nextLine 65 = .ok (.iadd, 1) := by decide +kernel
theorem d_R_nextLine_66 : decode b_R_nextLine 66 = .ok (.putfield 26, 3) := by decide +kernel
theorem d_R_nextLine_69 : decode b_R_nextLine 69 = .ok (.iinc 1 1, 3) := by decide +kernel
theorem d_R_nextLine_72 : decode b_R_nextLine 72 = .ok (.goto (-44), 3) := by decide +kernel
theorem d_R_nextLine_75 : decode b_R_nextLine 75 = .ok (.aload_n 0, 1) := by decide +kernel
theorem d_R_nextLine_76 : decode b_R_nextLine 76 = .ok (.aload_n 0, 1) := by decide +kernel
theorem d_R_nextLine_77 : decode b_R_nextLine 77 = .ok (.getfield 26, 3) := by decide +kernel
theorem d_R_nextLine_80 : decode b_R_nextLine 80 = .ok (.iconst 1, 1) := by decide +kernel
theorem d_R_nextLine_81 : decode b_R_nextLine 81 = .ok (.iadd, 1) := by decide +kernel
theorem d_R_nextLine_82 : decode b_R_nextLine 82 = .ok (.putfield 20, 3) := by decide +kernel
theorem d_R_nextLine_85 : decode b_R_nextLine 85 = .ok (.return_, 1) := by decide +kernel
abbrev b_R_byteAt : ByteArray := prog_7_method_7_code
abbrev y_R_byteAt : MethodName := ⟨"SignMachine$Source", "byteAt", "(I)I"⟩
theorem h_R_byteAt : (y_R_byteAt).cls ≠ "java/lang/invoke/MethodHandle" ∧ (y_R_byteAt).cls ≠ "java/lang/invoke/VarHandle" ∧ (parseMethodDescriptor (y_R_byteAt).desc).map (fun d => d.parameters.length) = some 1 := by decide +kernel
theorem d_R_byteAt_0 : decode b_R_byteAt 0 = .ok (.iload_n 1, 1) := by decide +kernel
theorem d_R_byteAt_1 : decode b_R_byteAt 1 = .ok (.ifCond .lt 23, 3) := by decide +kernel
theorem d_R_byteAt_4 : decode b_R_byteAt 4 = .ok (.iload_n 1, 1) := by decide +kernel
theorem d_R_byteAt_5 : decode b_R_byteAt 5 = .ok (.sipush 4000, 3) := by decide +kernel
theorem d_R_byteAt_8 : decode b_R_byteAt 8 = .ok (.if_icmp .ge 16, 3) := by decide +kernel
theorem d_R_byteAt_11 : decode b_R_byteAt 11 = .ok (.aload_n 0, 1) := by decide +kernel
theorem d_R_byteAt_12 : decode b_R_byteAt 12 = .ok (.getfield 9, 3) := by decide +kernel
theorem d_R_byteAt_15 : decode b_R_byteAt 15 = .ok (.iload_n 1, 1) := by decide +kernel
theorem d_R_byteAt_16 : decode b_R_byteAt 16 = .ok (.baload, 1) := by decide +kernel
theorem d_R_byteAt_17 : decode b_R_byteAt 17 = .ok (.sipush 255, 3) := by decide +kernel
theorem d_R_byteAt_20 : decode b_R_byteAt 20 = .ok (.iand, 1) := by decide +kernel
theorem d_R_byteAt_21 : decode b_R_byteAt 21 = .ok (.goto 4, 3) := by decide +kernel
theorem d_R_byteAt_24 : decode b_R_byteAt 24 = .ok (.iconst 0, 1) := by decide +kernel
theorem d_R_byteAt_25 : decode b_R_byteAt 25 = .ok (.ireturn, 1) := by decide +kernel
abbrev b_A_isNothing : ByteArray := prog_2_method_11_code
abbrev y_A_isNothing : MethodName := ⟨"SignMachine$Assembler", "isNothing", "()Z"⟩
theorem h_A_isNothing : (y_A_isNothing).cls ≠ "java/lang/invoke/MethodHandle" ∧ (y_A_isNothing).cls ≠ "java/lang/invoke/VarHandle" ∧ (parseMethodDescriptor (y_A_isNothing).desc).map (fun d => d.parameters.length) = some 0 := by decide +kernel
theorem d_A_isNothing_0 : decode b_A_isNothing 0 = .ok (.aload_n 0, 1) := by decide +kernel
theorem d_A_isNothing_1 : decode b_A_isNothing 1 = .ok (.getfield 12, 3) := by decide +kernel
theorem d_A_isNothing_4 : decode b_A_isNothing 4 = .ok (.invokevirtual 80, 3) := by decide +kernel
theorem d_A_isNothing_7 : decode b_A_isNothing 7 = .ok (.bipush 59, 2) := by decide +kernel
theorem d_A_isNothing_9 : decode b_A_isNothing 9 = .ok (.if_icmp .ne 5, 3) := by decide +kernel
theorem d_A_isNothing_12 : decode b_A_isNothing 12 = .ok (.iconst 1, 1) := by decide +kernel
theorem d_A_isNothing_13 : decode b_A_isNothing 13 = .ok (.ireturn, 1) := by decide +kernel
theorem d_A_isNothing_14 : decode b_A_isNothing 14 = .ok (.aload_n 0, 1) := by decide +kernel
theorem d_A_isNothing_15 : decode b_A_isNothing 15 = .ok (.getfield 12, 3) := by decide +kernel
theorem d_A_isNothing_18 : decode b_A_isNothing 18 = .ok (.getfield 182, 3) := by decide +kernel
theorem d_A_isNothing_21 : decode b_A_isNothing 21 = .ok (.istore_n 1, 1) := by decide +kernel
theorem d_A_isNothing_22 : decode b_A_isNothing 22 = .ok (.aload_n 0, 1) := by decide +kernel
theorem d_A_isNothing_23 : decode b_A_isNothing 23 = .ok (.getfield 12, 3) := by decide +kernel
theorem d_A_isNothing_26 : decode b_A_isNothing 26 = .ok (.invokevirtual 77, 3) := by decide +kernel
theorem d_A_isNothing_29 : decode b_A_isNothing 29 = .ok (.aload_n 0, 1) := by decide +kernel
theorem d_A_isNothing_30 : decode b_A_isNothing 30 = .ok (.getfield 12, 3) := by decide +kernel
theorem d_A_isNothing_33 : decode b_A_isNothing 33 = .ok (.invokevirtual 80, 3) := by decide +kernel
theorem d_A_isNothing_36 : decode b_A_isNothing 36 = .ok (.iconst (-1), 1) := by decide +kernel
theorem d_A_isNothing_37 : decode b_A_isNothing 37 = .ok (.if_icmp .ne 7, 3) := by decide +kernel
theorem d_A_isNothing_40 : decode b_A_isNothing 40 = .ok (.iconst 1, 1) := by decide +kernel
theorem d_A_isNothing_41 : decode b_A_isNothing 41 = .ok (.goto 4, 3) := by decide +kernel
theorem d_A_isNothing_44 : decode b_A_isNothing 44 = .ok (.iconst 0, 1) := by decide +kernel
theorem d_A_isNothing_45 : decode b_A_isNothing 45 = .ok (.istore_n 2, 1) := by decide +kernel
theorem d_A_isNothing_46 : decode b_A_isNothing 46 = .ok (.aload_n 0, 1) := by decide +kernel
theorem d_A_isNothing_47 : decode b_A_isNothing 47 = .ok (.getfield 12, 3) := by decide +kernel
theorem d_A_isNothing_50 : decode b_A_isNothing 50 = .ok (.iload_n 1, 1) := by decide +kernel
theorem d_A_isNothing_51 : decode b_A_isNothing 51 = .ok (.putfield 182, 3) := by decide +kernel
theorem d_A_isNothing_54 : decode b_A_isNothing 54 = .ok (.iload_n 2, 1) := by decide +kernel
theorem d_A_isNothing_55 : decode b_A_isNothing 55 = .ok (.ireturn, 1) := by decide +kernel
abbrev b_R_peek : ByteArray := prog_7_method_8_code
abbrev y_R_peek : MethodName := ⟨"SignMachine$Source", "peek", "()I"⟩
theorem h_R_peek : (y_R_peek).cls ≠ "java/lang/invoke/MethodHandle" ∧ (y_R_peek).cls ≠ "java/lang/invoke/VarHandle" ∧ (parseMethodDescriptor (y_R_peek).desc).map (fun d => d.parameters.length) = some 0 := by decide +kernel
theorem d_R_peek_0 : decode b_R_peek 0 = .ok (.aload_n 0, 1) := by decide +kernel
theorem d_R_peek_1 : decode b_R_peek 1 = .ok (.getfield 23, 3) := by decide +kernel
theorem d_R_peek_4 : decode b_R_peek 4 = .ok (.ifCond .lt 40, 3) := by decide +kernel
theorem d_R_peek_7 : decode b_R_peek 7 = .ok (.aload_n 0, 1) := by decide +kernel
theorem d_R_peek_8 : decode b_R_peek 8 = .ok (.getfield 23, 3) := by decide +kernel
theorem d_R_peek_11 : decode b_R_peek 11 = .ok (.aload_n 0, 1) := by decide +kernel
theorem d_R_peek_12 : decode b_R_peek 12 = .ok (.getfield 26, 3) := by decide +kernel
theorem d_R_peek_15 : decode b_R_peek 15 = .ok (.if_icmp .ge 29, 3) := by decide +kernel
theorem d_R_peek_18 : decode b_R_peek 18 = .ok (.aload_n 0, 1) := by decide +kernel
theorem d_R_peek_19 : decode b_R_peek 19 = .ok (.getfield 23, 3) := by decide +kernel
theorem d_R_peek_22 : decode b_R_peek 22 = .ok (.sipush 4000, 3) := by decide +kernel
theorem d_R_peek_25 : decode b_R_peek 25 = .ok (.if_icmp .ge 19, 3) := by decide +kernel
theorem d_R_peek_28 : decode b_R_peek 28 = .ok (.aload_n 0, 1) := by decide +kernel
theorem d_R_peek_29 : decode b_R_peek 29 = .ok (.getfield 9, 3) := by decide +kernel
theorem d_R_peek_32 : decode b_R_peek 32 = .ok (.aload_n 0, 1) := by decide +kernel
theorem d_R_peek_33 : decode b_R_peek 33 = .ok (.getfield 23, 3) := by decide +kernel
theorem d_R_peek_36 : decode b_R_peek 36 = .ok (.baload, 1) := by decide +kernel
theorem d_R_peek_37 : decode b_R_peek 37 = .ok (.sipush 255, 3) := by decide +kernel
theorem d_R_peek_40 : decode b_R_peek 40 = .ok (.iand, 1) := by decide +kernel
theorem d_R_peek_41 : decode b_R_peek 41 = .ok (.goto 4, 3) := by decide +kernel
theorem d_R_peek_44 : decode b_R_peek 44 = .ok (.iconst (-1), 1) := by decide +kernel
theorem d_R_peek_45 : decode b_R_peek 45 = .ok (.ireturn, 1) := by decide +kernel
abbrev b_R_skipBlanks : ByteArray := prog_7_method_11_code
abbrev y_R_skipBlanks : MethodName := ⟨"SignMachine$Source", "skipBlanks", "()V"⟩
theorem h_R_skipBlanks : (y_R_skipBlanks).cls ≠ "java/lang/invoke/MethodHandle" ∧ (y_R_skipBlanks).cls ≠ "java/lang/invoke/VarHandle" ∧ (parseMethodDescriptor (y_R_skipBlanks).desc).map (fun d => d.parameters.length) = some 0 := by decide +kernel
theorem d_R_skipBlanks_0 : decode b_R_skipBlanks 0 = .ok (.iconst 0, 1) := by decide +kernel
theorem d_R_skipBlanks_1 : decode b_R_skipBlanks 1 = .ok (.istore_n 1, 1) := by decide +kernel
theorem d_R_skipBlanks_2 : decode b_R_skipBlanks 2 = .ok (.iload_n 1, 1) := by decide +kernel
theorem d_R_skipBlanks_3 : decode b_R_skipBlanks 3 = .ok (.sipush 4000, 3) := by decide +kernel
theorem d_R_skipBlanks_6 : decode b_R_skipBlanks 6 = .ok (.if_icmp .ge 28, 3) := by decide +kernel
theorem d_R_skipBlanks_9 : decode b_R_skipBlanks 9 = .ok (.aload_n 0, 1) := by decide +kernel
theorem d_R_skipBlanks_10 : decode b_R_skipBlanks 10 = .ok (.invokevirtual 33, 3) := by decide +kernel
theorem d_R_skipBlanks_13 : decode b_R_skipBlanks 13 = .ok (.bipush 32, 2) := by decide +kernel
theorem d_R_skipBlanks_15 : decode b_R_skipBlanks 15 = .ok (.if_icmp .ne 19, 3) := by decide +kernel
theorem d_R_skipBlanks_18 : decode b_R_skipBlanks 18 = .ok (.aload_n 0, 1) := by decide +kernel
theorem d_R_skipBlanks_19 : decode b_R_skipBlanks 19 = .ok (.dup, 1) := by decide +kernel
theorem d_R_skipBlanks_20 : decode b_R_skipBlanks 20 = .ok (.getfield 23, 3) := by decide +kernel
theorem d_R_skipBlanks_23 : decode b_R_skipBlanks 23 = .ok (.iconst 1, 1) := by decide +kernel
theorem d_R_skipBlanks_24 : decode b_R_skipBlanks 24 = .ok (.iadd, 1) := by decide +kernel
theorem d_R_skipBlanks_25 : decode b_R_skipBlanks 25 = .ok (.putfield 23, 3) := by decide +kernel
theorem d_R_skipBlanks_28 : decode b_R_skipBlanks 28 = .ok (.iinc 1 1, 3) := by decide +kernel
theorem d_R_skipBlanks_31 : decode b_R_skipBlanks 31 = .ok (.goto (-29), 3) := by decide +kernel
theorem d_R_skipBlanks_34 : decode b_R_skipBlanks 34 = .ok (.return_, 1) := by decide +kernel
abbrev b_A_readLabel : ByteArray := prog_2_method_12_code
abbrev y_A_readLabel : MethodName := ⟨"SignMachine$Assembler", "readLabel", "()V"⟩
theorem h_A_readLabel : (y_A_readLabel).cls ≠ "java/lang/invoke/MethodHandle" ∧ (y_A_readLabel).cls ≠ "java/lang/invoke/VarHandle" ∧ (parseMethodDescriptor (y_A_readLabel).desc).map (fun d => d.parameters.length) = some 0 := by decide +kernel
theorem d_A_readLabel_0 : decode b_A_readLabel 0 = .ok (.aload_n 0, 1) := by decide +kernel
theorem d_A_readLabel_1 : decode b_A_readLabel 1 = .ok (.getfield 12, 3) := by decide +kernel
theorem d_A_readLabel_4 : decode b_A_readLabel 4 = .ok (.invokevirtual 80, 3) := by decide +kernel
theorem d_A_readLabel_7 : decode b_A_readLabel 7 = .ok (.bipush 32, 2) := by decide +kernel
theorem d_A_readLabel_9 : decode b_A_readLabel 9 = .ok (.if_icmp .ne 4, 3) := by decide +kernel
theorem d_A_readLabel_12 : decode b_A_readLabel 12 = .ok (.return_, 1) := by decide +kernel
theorem d_A_readLabel_13 : decode b_A_readLabel 13 = .ok (.aload_n 0, 1) := by decide +kernel
theorem d_A_readLabel_14 : decode b_A_readLabel 14 = .ok (.getfield 12, 3) := by decide +kernel
theorem d_A_readLabel_17 : decode b_A_readLabel 17 = .ok (.invokevirtual 185, 3) := by decide +kernel
theorem d_A_readLabel_20 : decode b_A_readLabel 20 = .ok (.aload_n 0, 1) := by decide +kernel
theorem d_A_readLabel_21 : decode b_A_readLabel 21 = .ok (.getfield 12, 3) := by decide +kernel
theorem d_A_readLabel_24 : decode b_A_readLabel 24 = .ok (.getfield 188, 3) := by decide +kernel
theorem d_A_readLabel_27 : decode b_A_readLabel 27 = .ok (.iconst 2, 1) := by decide +kernel
theorem d_A_readLabel_28 : decode b_A_readLabel 28 = .ok (.if_icmp .ne 15, 3) := by decide +kernel
theorem d_A_readLabel_31 : decode b_A_readLabel 31 = .ok (.aload_n 0, 1) := by decide +kernel
theorem d_A_readLabel_32 : decode b_A_readLabel 32 = .ok (.getfield 12, 3) := by decide +kernel
theorem d_A_readLabel_35 : decode b_A_readLabel 35 = .ok (.invokevirtual 80, 3) := by decide +kernel
theorem d_A_readLabel_38 : decode b_A_readLabel 38 = .ok (.bipush 32, 2) := by decide +kernel
theorem d_A_readLabel_40 : decode b_A_readLabel 40 = .ok (.if_icmp .eq 10, 3) := by decide +kernel
theorem d_A_readLabel_43 : decode b_A_readLabel 43 = .ok (.aload_n 0, 1) := by decide +kernel
theorem d_A_readLabel_44 : decode b_A_readLabel 44 = .ok (.iconst 1, 1) := by decide +kernel
theorem d_A_readLabel_45 : decode b_A_readLabel 45 = .ok (.invokevirtual 84, 3) := by decide +kernel
theorem d_A_readLabel_48 : decode b_A_readLabel 48 = .ok (.pop, 1) := by decide +kernel
theorem d_A_readLabel_49 : decode b_A_readLabel 49 = .ok (.return_, 1) := by decide +kernel
theorem d_A_readLabel_50 : decode b_A_readLabel 50 = .ok (.aload_n 0, 1) := by decide +kernel
theorem d_A_readLabel_51 : decode b_A_readLabel 51 = .ok (.aload_n 0, 1) := by decide +kernel
theorem d_A_readLabel_52 : decode b_A_readLabel 52 = .ok (.getfield 12, 3) := by decide +kernel
theorem d_A_readLabel_55 : decode b_A_readLabel 55 = .ok (.getfield 191, 3) := by decide +kernel
theorem d_A_readLabel_58 : decode b_A_readLabel 58 = .ok (.putfield 64, 3) := by decide +kernel
theorem d_A_readLabel_61 : decode b_A_readLabel 61 = .ok (.aload_n 0, 1) := by decide +kernel
theorem d_A_readLabel_62 : decode b_A_readLabel 62 = .ok (.getfield 64, 3) := by decide +kernel
theorem d_A_readLabel_65 : decode b_A_readLabel 65 = .ok (.iconst 2, 1) := by decide +kernel
theorem d_A_readLabel_66 : decode b_A_readLabel 66 = .ok (.invokestatic 135, 3) := by decide +kernel
theorem d_A_readLabel_69 : decode b_A_readLabel 69 = .ok (.ifCond .ge 15, 3) := by decide +kernel
theorem d_A_readLabel_72 : decode b_A_readLabel 72 = .ok (.aload_n 0, 1) := by decide +kernel
theorem d_A_readLabel_73 : decode b_A_readLabel 73 = .ok (.getfield 64, 3) := by decide +kernel
theorem d_A_readLabel_76 : decode b_A_readLabel 76 = .ok (.bipush 6, 2) := by decide +kernel
theorem d_A_readLabel_78 : decode b_A_readLabel 78 = .ok (.invokestatic 135, 3) := by decide +kernel
theorem d_A_readLabel_81 : decode b_A_readLabel 81 = .ok (.ifCond .lt 9, 3) := by decide +kernel
theorem d_A_readLabel_84 : decode b_A_readLabel 84 = .ok (.aload_n 0, 1) := by decide +kernel
theorem d_A_readLabel_85 : decode b_A_readLabel 85 = .ok (.iconst 3, 1) := by decide +kernel
theorem d_A_readLabel_86 : decode b_A_readLabel 86 = .ok (.invokevirtual 84, 3) := by decide +kernel
theorem d_A_readLabel_89 : decode b_A_readLabel 89 = .ok (.pop, 1) := by decide +kernel
theorem d_A_readLabel_90 : decode b_A_readLabel 90 = .ok (.return_, 1) := by decide +kernel
abbrev b_R_readToken : ByteArray := prog_7_method_13_code
abbrev y_R_readToken : MethodName := ⟨"SignMachine$Source", "readToken", "()V"⟩
theorem h_R_readToken : (y_R_readToken).cls ≠ "java/lang/invoke/MethodHandle" ∧ (y_R_readToken).cls ≠ "java/lang/invoke/VarHandle" ∧ (parseMethodDescriptor (y_R_readToken).desc).map (fun d => d.parameters.length) = some 0 := by decide +kernel
theorem d_R_readToken_0 : decode b_R_readToken 0 = .ok (.aload_n 0, 1) := by decide +kernel
theorem d_R_readToken_1 : decode b_R_readToken 1 = .ok (.invokevirtual 33, 3) := by decide +kernel
theorem d_R_readToken_4 : decode b_R_readToken 4 = .ok (.bipush 42, 2) := by decide +kernel
theorem d_R_readToken_6 : decode b_R_readToken 6 = .ok (.if_icmp .ne 19, 3) := by decide +kernel
theorem d_R_readToken_9 : decode b_R_readToken 9 = .ok (.aload_n 0, 1) := by decide +kernel
theorem d_R_readToken_10 : decode b_R_readToken 10 = .ok (.dup, 1) := by decide +kernel
theorem d_R_readToken_11 : decode b_R_readToken 11 = .ok (.getfield 23, 3) := by decide +kernel
theorem d_R_readToken_14 : decode b_R_readToken 14 = .ok (.iconst 1, 1) := by decide +kernel
theorem d_R_readToken_15 : decode b_R_readToken 15 = .ok (.iadd, 1) := by decide +kernel
theorem d_R_readToken_16 : decode b_R_readToken 16 = .ok (.putfield 23, 3) := by decide +kernel
theorem d_R_readToken_19 : decode b_R_readToken 19 = .ok (.aload_n 0, 1) := by decide +kernel
theorem d_R_readToken_20 : decode b_R_readToken 20 = .ok (.iconst 3, 1) := by decide +kernel
theorem d_R_readToken_21 : decode b_R_readToken 21 = .ok (.putfield 37, 3) := by decide +kernel
theorem d_R_readToken_24 : decode b_R_readToken 24 = .ok (.return_, 1) := by decide +kernel
theorem d_R_readToken_25 : decode b_R_readToken 25 = .ok (.iconst 0, 1) := by decide +kernel
theorem d_R_readToken_26 : decode b_R_readToken 26 = .ok (.istore_n 1, 1) := by decide +kernel
theorem d_R_readToken_27 : decode b_R_readToken 27 = .ok (.lconst 0, 1) := by decide +kernel
theorem d_R_readToken_28 : decode b_R_readToken 28 = .ok (.lstore_n 2, 1) := by decide +kernel
theorem d_R_readToken_29 : decode b_R_readToken 29 = .ok (.lconst 0, 1) := by decide +kernel
theorem d_R_readToken_30 : decode b_R_readToken 30 = .ok (.lstore 4, 2) := by decide +kernel
theorem d_R_readToken_32 : decode b_R_readToken 32 = .ok (.iconst 0, 1) := by decide +kernel
theorem d_R_readToken_33 : decode b_R_readToken 33 = .ok (.istore 6, 2) := by decide +kernel
theorem d_R_readToken_35 : decode b_R_readToken 35 = .ok (.aload_n 0, 1) := by decide +kernel
theorem d_R_readToken_36 : decode b_R_readToken 36 = .ok (.invokevirtual 33, 3) := by decide +kernel
theorem d_R_readToken_39 : decode b_R_readToken 39 = .ok (.invokestatic 40, 3) := by decide +kernel
theorem d_R_readToken_42 : decode b_R_readToken 42 = .ok (.istore 7, 2) := by decide +kernel
theorem d_R_readToken_44 : decode b_R_readToken 44 = .ok (.iconst 0, 1) := by decide +kernel
theorem d_R_readToken_45 : decode b_R_readToken 45 = .ok (.istore 8, 2) := by decide +kernel
theorem d_R_readToken_47 : decode b_R_readToken 47 = .ok (.iload 8, 2) := by decide +kernel
theorem d_R_readToken_49 : decode b_R_readToken 49 = .ok (.bipush 10, 2) := by decide +kernel
theorem d_R_readToken_51 : decode b_R_readToken 51 = .ok (.if_icmp .gt 92, 3) := by decide +kernel
theorem d_R_readToken_54 : decode b_R_readToken 54 = .ok (.iload 7, 2) := by decide +kernel
theorem d_R_readToken_56 : decode b_R_readToken 56 = .ok (.ifCond .eq 87, 3) := by decide +kernel
theorem d_R_readToken_59 : decode b_R_readToken 59 = .ok (.iinc 1 1, 3) := by decide +kernel
theorem d_R_readToken_62 : decode b_R_readToken 62 = .ok (.lload_n 2, 1) := by decide +kernel
theorem d_R_readToken_63 : decode b_R_readToken 63 = .ok (.bipush 6, 2) := by decide +kernel
theorem d_R_readToken_65 : decode b_R_readToken 65 = .ok (.lshl, 1) := by decide +kernel
theorem d_R_readToken_66 : decode b_R_readToken 66 = .ok (.iload 7, 2) := by decide +kernel
theorem d_R_readToken_68 : decode b_R_readToken 68 = .ok (.i2l, 1) := by decide +kernel
theorem d_R_readToken_69 : decode b_R_readToken 69 = .ok (.lor, 1) := by decide +kernel
theorem d_R_readToken_70 : decode b_R_readToken 70 = .ok (.lstore_n 2, 1) := by decide +kernel
theorem d_R_readToken_71 : decode b_R_readToken 71 = .ok (.iload 6, 2) := by decide +kernel
theorem d_R_readToken_73 : decode b_R_readToken 73 = .ok (.ifCond .ne 11, 3) := by decide +kernel
theorem d_R_readToken_76 : decode b_R_readToken 76 = .ok (.iload 7, 2) := by decide +kernel
theorem d_R_readToken_78 : decode b_R_readToken 78 = .ok (.invokestatic 45, 3) := by decide +kernel
theorem d_R_readToken_81 : decode b_R_readToken 81 = .ok (.ifCond .eq 7, 3) := by decide +kernel
theorem d_R_readToken_84 : decode b_R_readToken 84 = .ok (.iconst 1, 1) := by decide +kernel
theorem d_R_readToken_85 : decode b_R_readToken 85 = .ok (.goto 4, 3) := by decide +kernel
theorem d_R_readToken_88 : decode b_R_readToken 88 = .ok (.iconst 0, 1) := by decide +kernel
theorem d_R_readToken_89 : decode b_R_readToken 89 = .ok (.istore 6, 2) := by decide +kernel
theorem d_R_readToken_91 : decode b_R_readToken 91 = .ok (.lload 4, 2) := by decide +kernel
theorem d_R_readToken_93 : decode b_R_readToken 93 = .ok (.ldc2_w 49, 3) := by decide +kernel
theorem d_R_readToken_96 : decode b_R_readToken 96 = .ok (.lmul, 1) := by decide +kernel
theorem d_R_readToken_97 : decode b_R_readToken 97 = .ok (.iload 7, 2) := by decide +kernel
theorem d_R_readToken_99 : decode b_R_readToken 99 = .ok (.invokestatic 45, 3) := by decide +kernel
theorem d_R_readToken_102 : decode b_R_readToken 102 = .ok (.ifCond .eq 7, 3) := by decide +kernel
theorem d_R_readToken_105 : decode b_R_readToken 105 = .ok (.iconst 0, 1) := by decide +kernel
theorem d_R_readToken_106 : decode b_R_readToken 106 = .ok (.goto 8, 3) := by decide +kernel
theorem d_R_readToken_109 : decode b_R_readToken 109 = .ok (.iload 7, 2) := by decide +kernel
theorem d_R_readToken_111 : decode b_R_readToken 111 = .ok (.invokestatic 51, 3) := by decide +kernel
theorem d_R_readToken_114 : decode b_R_readToken 114 = .ok (.i2l, 1) := by decide +kernel
theorem d_R_readToken_115 : decode b_R_readToken 115 = .ok (.ladd, 1) := by decide +kernel
theorem d_R_readToken_116 : decode b_R_readToken 116 = .ok (.lstore 4, 2) := by decide +kernel
theorem d_R_readToken_118 : decode b_R_readToken 118 = .ok (.aload_n 0, 1) := by decide +kernel
theorem d_R_readToken_119 : decode b_R_readToken 119 = .ok (.dup, 1) := by decide +kernel
theorem d_R_readToken_120 : decode b_R_readToken 120 = .ok (.getfield 23, 3) := by decide +kernel
theorem d_R_readToken_123 : decode b_R_readToken 123 = .ok (.iconst 1, 1) := by decide +kernel
theorem d_R_readToken_124 : decode b_R_readToken 124 = .ok (.iadd, 1) := by decide +kernel
theorem d_R_readToken_125 : decode b_R_readToken 125 = .ok (.putfield 23, 3) := by decide +kernel
theorem d_R_readToken_128 : decode b_R_readToken 128 = .ok (.aload_n 0, 1) := by decide +kernel
theorem d_R_readToken_129 : decode b_R_readToken 129 = .ok (.invokevirtual 33, 3) := by decide +kernel
theorem d_R_readToken_132 : decode b_R_readToken 132 = .ok (.invokestatic 40, 3) := by decide +kernel
theorem d_R_readToken_135 : decode b_R_readToken 135 = .ok (.istore 7, 2) := by decide +kernel
theorem d_R_readToken_137 : decode b_R_readToken 137 = .ok (.iinc 8 1, 3) := by decide +kernel
theorem d_R_readToken_140 : decode b_R_readToken 140 = .ok (.goto (-93), 3) := by decide +kernel
theorem d_R_readToken_143 : decode b_R_readToken 143 = .ok (.aload_n 0, 1) := by decide +kernel
theorem d_R_readToken_144 : decode b_R_readToken 144 = .ok (.iload_n 1, 1) := by decide +kernel
theorem d_R_readToken_145 : decode b_R_readToken 145 = .ok (.ifCond .ne 7, 3) := by decide +kernel
theorem d_R_readToken_148 : decode b_R_readToken 148 = .ok (.iconst 0, 1) := by decide +kernel
theorem d_R_readToken_149 : decode b_R_readToken 149 = .ok (.goto 13, 3) := by decide +kernel
theorem d_R_readToken_152 : decode b_R_readToken 152 = .ok (.iload 6, 2) := by decide +kernel
theorem d_R_readToken_154 : decode b_R_readToken 154 = .ok (.ifCond .eq 7, 3) := by decide +kernel
theorem d_R_readToken_157 : decode b_R_readToken 157 = .ok (.iconst 2, 1) := by decide +kernel
theorem d_R_readToken_158 : decode b_R_readToken 158 = .ok (.goto 4, 3) := by decide +kernel
theorem d_R_readToken_161 : decode b_R_readToken 161 = .ok (.iconst 1, 1) := by decide +kernel
theorem d_R_readToken_162 : decode b_R_readToken 162 = .ok (.putfield 37, 3) := by decide +kernel
theorem d_R_readToken_165 : decode b_R_readToken 165 = .ok (.iload_n 1, 1) := by decide +kernel
theorem d_R_readToken_166 : decode b_R_readToken 166 = .ok (.iload 6, 2) := by decide +kernel
theorem d_R_readToken_168 : decode b_R_readToken 168 = .ok (.ifCond .eq 8, 3) := by decide +kernel
theorem d_R_readToken_171 : decode b_R_readToken 171 = .ok (.bipush 8, 2) := by decide +kernel
theorem d_R_readToken_173 : decode b_R_readToken 173 = .ok (.goto 5, 3) := by decide +kernel
theorem d_R_readToken_176 : decode b_R_readToken 176 = .ok (.bipush 10, 2) := by decide +kernel
theorem d_R_readToken_178 : decode b_R_readToken 178 = .ok (.if_icmp .le 8, 3) := by decide +kernel
theorem d_R_readToken_181 : decode b_R_readToken 181 = .ok (.aload_n 0, 1) := by decide +kernel
theorem d_R_readToken_182 : decode b_R_readToken 182 = .ok (.iconst 4, 1) := by decide +kernel
theorem d_R_readToken_183 : decode b_R_readToken 183 = .ok (.putfield 37, 3) := by decide +kernel
theorem d_R_readToken_186 : decode b_R_readToken 186 = .ok (.aload_n 0, 1) := by decide +kernel
theorem d_R_readToken_187 : decode b_R_readToken 187 = .ok (.lload_n 2, 1) := by decide +kernel
theorem d_R_readToken_188 : decode b_R_readToken 188 = .ok (.putfield 54, 3) := by decide +kernel
theorem d_R_readToken_191 : decode b_R_readToken 191 = .ok (.aload_n 0, 1) := by decide +kernel
theorem d_R_readToken_192 : decode b_R_readToken 192 = .ok (.lload 4, 2) := by decide +kernel
theorem d_R_readToken_194 : decode b_R_readToken 194 = .ok (.ldc2_w 60, 3) := by decide +kernel
theorem d_R_readToken_197 : decode b_R_readToken 197 = .ok (.land, 1) := by decide +kernel
theorem d_R_readToken_198 : decode b_R_readToken 198 = .ok (.l2i, 1) := by decide +kernel
theorem d_R_readToken_199 : decode b_R_readToken 199 = .ok (.putfield 62, 3) := by decide +kernel
theorem d_R_readToken_202 : decode b_R_readToken 202 = .ok (.return_, 1) := by decide +kernel
abbrev b_N_codeOf : ByteArray := prog_4_method_2_code
abbrev y_N_codeOf : MethodName := ⟨"SignMachine$Names", "codeOf", "(I)I"⟩
theorem h_N_codeOf : (y_N_codeOf).cls ≠ "java/lang/invoke/MethodHandle" ∧ (y_N_codeOf).cls ≠ "java/lang/invoke/VarHandle" ∧ (parseMethodDescriptor (y_N_codeOf).desc).map (fun d => d.parameters.length) = some 1 := by decide +kernel
theorem d_N_codeOf_0 : decode b_N_codeOf 0 = .ok (.iload_n 0, 1) := by decide +kernel
theorem d_N_codeOf_1 : decode b_N_codeOf 1 = .ok (.bipush 65, 2) := by decide +kernel
theorem d_N_codeOf_3 : decode b_N_codeOf 3 = .ok (.if_icmp .lt 16, 3) := by decide +kernel
theorem d_N_codeOf_6 : decode b_N_codeOf 6 = .ok (.iload_n 0, 1) := by decide +kernel
theorem d_N_codeOf_7 : decode b_N_codeOf 7 = .ok (.bipush 90, 2) := by decide +kernel
theorem d_N_codeOf_9 : decode b_N_codeOf 9 = .ok (.if_icmp .gt 10, 3) := by decide +kernel
theorem d_N_codeOf_12 : decode b_N_codeOf 12 = .ok (.iload_n 0, 1) := by decide +kernel
theorem d_N_codeOf_13 : decode b_N_codeOf 13 = .ok (.bipush 65, 2) := by decide +kernel
theorem d_N_codeOf_15 : decode b_N_codeOf 15 = .ok (.isub, 1) := by decide +kernel
theorem d_N_codeOf_16 : decode b_N_codeOf 16 = .ok (.iconst 1, 1) := by decide +kernel
theorem d_N_codeOf_17 : decode b_N_codeOf 17 = .ok (.iadd, 1) := by decide +kernel
theorem d_N_codeOf_18 : decode b_N_codeOf 18 = .ok (.ireturn, 1) := by decide +kernel
theorem d_N_codeOf_19 : decode b_N_codeOf 19 = .ok (.iload_n 0, 1) := by decide +kernel
theorem d_N_codeOf_20 : decode b_N_codeOf 20 = .ok (.bipush 48, 2) := by decide +kernel
theorem d_N_codeOf_22 : decode b_N_codeOf 22 = .ok (.if_icmp .lt 19, 3) := by decide +kernel
theorem d_N_codeOf_25 : decode b_N_codeOf 25 = .ok (.iload_n 0, 1) := by decide +kernel
theorem d_N_codeOf_26 : decode b_N_codeOf 26 = .ok (.bipush 57, 2) := by decide +kernel
theorem d_N_codeOf_28 : decode b_N_codeOf 28 = .ok (.if_icmp .gt 13, 3) := by decide +kernel
theorem d_N_codeOf_31 : decode b_N_codeOf 31 = .ok (.iload_n 0, 1) := by decide +kernel
theorem d_N_codeOf_32 : decode b_N_codeOf 32 = .ok (.bipush 48, 2) := by decide +kernel
theorem d_N_codeOf_34 : decode b_N_codeOf 34 = .ok (.isub, 1) := by decide +kernel
theorem d_N_codeOf_35 : decode b_N_codeOf 35 = .ok (.bipush 27, 2) := by decide +kernel
theorem d_N_codeOf_37 : decode b_N_codeOf 37 = .ok (.iadd, 1) := by decide +kernel
theorem d_N_codeOf_38 : decode b_N_codeOf 38 = .ok (.goto 4, 3) := by decide +kernel
theorem d_N_codeOf_41 : decode b_N_codeOf 41 = .ok (.iconst 0, 1) := by decide +kernel
theorem d_N_codeOf_42 : decode b_N_codeOf 42 = .ok (.ireturn, 1) := by decide +kernel
abbrev b_N_isLetter : ByteArray := prog_4_method_3_code
abbrev y_N_isLetter : MethodName := ⟨"SignMachine$Names", "isLetter", "(I)Z"⟩
theorem h_N_isLetter : (y_N_isLetter).cls ≠ "java/lang/invoke/MethodHandle" ∧ (y_N_isLetter).cls ≠ "java/lang/invoke/VarHandle" ∧ (parseMethodDescriptor (y_N_isLetter).desc).map (fun d => d.parameters.length) = some 1 := by decide +kernel
theorem d_N_isLetter_0 : decode b_N_isLetter 0 = .ok (.iload_n 0, 1) := by decide +kernel
theorem d_N_isLetter_1 : decode b_N_isLetter 1 = .ok (.ifCond .le 13, 3) := by decide +kernel
theorem d_N_isLetter_4 : decode b_N_isLetter 4 = .ok (.iload_n 0, 1) := by decide +kernel
theorem d_N_isLetter_5 : decode b_N_isLetter 5 = .ok (.bipush 27, 2) := by decide +kernel
theorem d_N_isLetter_7 : decode b_N_isLetter 7 = .ok (.if_icmp .ge 7, 3) := by decide +kernel
theorem d_N_isLetter_10 : decode b_N_isLetter 10 = .ok (.iconst 1, 1) := by decide +kernel
theorem d_N_isLetter_11 : decode b_N_isLetter 11 = .ok (.goto 4, 3) := by decide +kernel
theorem d_N_isLetter_14 : decode b_N_isLetter 14 = .ok (.iconst 0, 1) := by decide +kernel
theorem d_N_isLetter_15 : decode b_N_isLetter 15 = .ok (.ireturn, 1) := by decide +kernel
abbrev b_N_digitOf : ByteArray := prog_4_method_4_code
abbrev y_N_digitOf : MethodName := ⟨"SignMachine$Names", "digitOf", "(I)I"⟩
theorem h_N_digitOf : (y_N_digitOf).cls ≠ "java/lang/invoke/MethodHandle" ∧ (y_N_digitOf).cls ≠ "java/lang/invoke/VarHandle" ∧ (parseMethodDescriptor (y_N_digitOf).desc).map (fun d => d.parameters.length) = some 1 := by decide +kernel
theorem d_N_digitOf_0 : decode b_N_digitOf 0 = .ok (.iload_n 0, 1) := by decide +kernel
theorem d_N_digitOf_1 : decode b_N_digitOf 1 = .ok (.bipush 27, 2) := by decide +kernel
theorem d_N_digitOf_3 : decode b_N_digitOf 3 = .ok (.isub, 1) := by decide +kernel
theorem d_N_digitOf_4 : decode b_N_digitOf 4 = .ok (.ireturn, 1) := by decide +kernel
abbrev b_N_localDigit : ByteArray := prog_4_method_5_code
abbrev y_N_localDigit : MethodName := ⟨"SignMachine$Names", "localDigit", "(JI)I"⟩
theorem h_N_localDigit : (y_N_localDigit).cls ≠ "java/lang/invoke/MethodHandle" ∧ (y_N_localDigit).cls ≠ "java/lang/invoke/VarHandle" ∧ (parseMethodDescriptor (y_N_localDigit).desc).map (fun d => d.parameters.length) = some 2 := by decide +kernel
theorem d_N_localDigit_0 : decode b_N_localDigit 0 = .ok (.lload_n 0, 1) := by decide +kernel
theorem d_N_localDigit_1 : decode b_N_localDigit 1 = .ok (.bipush 6, 2) := by decide +kernel
theorem d_N_localDigit_3 : decode b_N_localDigit 3 = .ok (.lshr, 1) := by decide +kernel
theorem d_N_localDigit_4 : decode b_N_localDigit 4 = .ok (.ldc2_w 29, 3) := by decide +kernel
theorem d_N_localDigit_7 : decode b_N_localDigit 7 = .ok (.lsub, 1) := by decide +kernel
theorem d_N_localDigit_8 : decode b_N_localDigit 8 = .ok (.lstore_n 3, 1) := by decide +kernel
theorem d_N_localDigit_9 : decode b_N_localDigit 9 = .ok (.lload_n 0, 1) := by decide +kernel
theorem d_N_localDigit_10 : decode b_N_localDigit 10 = .ok (.ldc2_w 31, 3) := by decide +kernel
theorem d_N_localDigit_13 : decode b_N_localDigit 13 = .ok (.land, 1) := by decide +kernel
theorem d_N_localDigit_14 : decode b_N_localDigit 14 = .ok (.iload_n 2, 1) := by decide +kernel
theorem d_N_localDigit_15 : decode b_N_localDigit 15 = .ok (.i2l, 1) := by decide +kernel
theorem d_N_localDigit_16 : decode b_N_localDigit 16 = .ok (.lcmp, 1) := by decide +kernel
theorem d_N_localDigit_17 : decode b_N_localDigit 17 = .ok (.ifCond .ne 21, 3) := by decide +kernel
theorem d_N_localDigit_20 : decode b_N_localDigit 20 = .ok (.lload_n 3, 1) := by decide +kernel
theorem d_N_localDigit_21 : decode b_N_localDigit 21 = .ok (.lconst 0, 1) := by decide +kernel
theorem d_N_localDigit_22 : decode b_N_localDigit 22 = .ok (.lcmp, 1) := by decide +kernel
theorem d_N_localDigit_23 : decode b_N_localDigit 23 = .ok (.ifCond .lt 15, 3) := by decide +kernel
theorem d_N_localDigit_26 : decode b_N_localDigit 26 = .ok (.lload_n 3, 1) := by decide +kernel
theorem d_N_localDigit_27 : decode b_N_localDigit 27 = .ok (.ldc2_w 33, 3) := by decide +kernel
theorem d_N_localDigit_30 : decode b_N_localDigit 30 = .ok (.lcmp, 1) := by decide +kernel
theorem d_N_localDigit_31 : decode b_N_localDigit 31 = .ok (.ifCond .ge 7, 3) := by decide +kernel
theorem d_N_localDigit_34 : decode b_N_localDigit 34 = .ok (.iconst 1, 1) := by decide +kernel
theorem d_N_localDigit_35 : decode b_N_localDigit 35 = .ok (.goto 4, 3) := by decide +kernel
theorem d_N_localDigit_38 : decode b_N_localDigit 38 = .ok (.iconst 0, 1) := by decide +kernel
theorem d_N_localDigit_39 : decode b_N_localDigit 39 = .ok (.istore 5, 2) := by decide +kernel
theorem d_N_localDigit_41 : decode b_N_localDigit 41 = .ok (.iload 5, 2) := by decide +kernel
theorem d_N_localDigit_43 : decode b_N_localDigit 43 = .ok (.ifCond .eq 8, 3) := by decide +kernel
theorem d_N_localDigit_46 : decode b_N_localDigit 46 = .ok (.lload_n 3, 1) := by decide +kernel
theorem d_N_localDigit_47 : decode b_N_localDigit 47 = .ok (.l2i, 1) := by decide +kernel
theorem d_N_localDigit_48 : decode b_N_localDigit 48 = .ok (.goto 5, 3) := by decide +kernel
theorem d_N_localDigit_51 : decode b_N_localDigit 51 = .ok (.bipush (-2), 2) := by decide +kernel
theorem d_N_localDigit_53 : decode b_N_localDigit 53 = .ok (.ireturn, 1) := by decide +kernel
abbrev b_A_readOp : ByteArray := prog_2_method_13_code
abbrev y_A_readOp : MethodName := ⟨"SignMachine$Assembler", "readOp", "()V"⟩
theorem h_A_readOp : (y_A_readOp).cls ≠ "java/lang/invoke/MethodHandle" ∧ (y_A_readOp).cls ≠ "java/lang/invoke/VarHandle" ∧ (parseMethodDescriptor (y_A_readOp).desc).map (fun d => d.parameters.length) = some 0 := by decide +kernel
theorem d_A_readOp_0 : decode b_A_readOp 0 = .ok (.aload_n 0, 1) := by decide +kernel
theorem d_A_readOp_1 : decode b_A_readOp 1 = .ok (.getfield 12, 3) := by decide +kernel
theorem d_A_readOp_4 : decode b_A_readOp 4 = .ok (.getfield 182, 3) := by decide +kernel
theorem d_A_readOp_7 : decode b_A_readOp 7 = .ok (.istore_n 1, 1) := by decide +kernel
theorem d_A_readOp_8 : decode b_A_readOp 8 = .ok (.aload_n 0, 1) := by decide +kernel
theorem d_A_readOp_9 : decode b_A_readOp 9 = .ok (.getfield 12, 3) := by decide +kernel
theorem d_A_readOp_12 : decode b_A_readOp 12 = .ok (.invokevirtual 194, 3) := by decide +kernel
theorem d_A_readOp_15 : decode b_A_readOp 15 = .ok (.aload_n 0, 1) := by decide +kernel
theorem d_A_readOp_16 : decode b_A_readOp 16 = .ok (.aload_n 0, 1) := by decide +kernel
theorem d_A_readOp_17 : decode b_A_readOp 17 = .ok (.getfield 12, 3) := by decide +kernel
theorem d_A_readOp_20 : decode b_A_readOp 20 = .ok (.iload_n 1, 1) := by decide +kernel
theorem d_A_readOp_21 : decode b_A_readOp 21 = .ok (.aload_n 0, 1) := by decide +kernel
theorem d_A_readOp_22 : decode b_A_readOp 22 = .ok (.getfield 12, 3) := by decide +kernel
theorem d_A_readOp_25 : decode b_A_readOp 25 = .ok (.getfield 182, 3) := by decide +kernel
theorem d_A_readOp_28 : decode b_A_readOp 28 = .ok (.invokestatic 197, 3) := by decide +kernel
theorem d_A_readOp_31 : decode b_A_readOp 31 = .ok (.putfield 60, 3) := by decide +kernel
theorem d_A_readOp_34 : decode b_A_readOp 34 = .ok (.aload_n 0, 1) := by decide +kernel
theorem d_A_readOp_35 : decode b_A_readOp 35 = .ok (.getfield 60, 3) := by decide +kernel
theorem d_A_readOp_38 : decode b_A_readOp 38 = .ok (.ifnonnull 12, 3) := by decide +kernel
theorem d_A_readOp_41 : decode b_A_readOp 41 = .ok (.aload_n 0, 1) := by decide +kernel
theorem d_A_readOp_42 : decode b_A_readOp 42 = .ok (.iconst 2, 1) := by decide +kernel
theorem d_A_readOp_43 : decode b_A_readOp 43 = .ok (.invokevirtual 84, 3) := by decide +kernel
theorem d_A_readOp_46 : decode b_A_readOp 46 = .ok (.pop, 1) := by decide +kernel
theorem d_A_readOp_47 : decode b_A_readOp 47 = .ok (.goto 19, 3) := by decide +kernel
theorem d_A_readOp_50 : decode b_A_readOp 50 = .ok (.aload_n 0, 1) := by decide +kernel
theorem d_A_readOp_51 : decode b_A_readOp 51 = .ok (.aload_n 0, 1) := by decide +kernel
theorem d_A_readOp_52 : decode b_A_readOp 52 = .ok (.getfield 60, 3) := by decide +kernel
theorem d_A_readOp_55 : decode b_A_readOp 55 = .ok (.aload_n 0, 1) := by decide +kernel
theorem d_A_readOp_56 : decode b_A_readOp 56 = .ok (.getfield 12, 3) := by decide +kernel
theorem d_A_readOp_59 : decode b_A_readOp 59 = .ok (.iload_n 1, 1) := by decide +kernel
theorem d_A_readOp_60 : decode b_A_readOp 60 = .ok (.invokevirtual 201, 3) := by decide +kernel
theorem d_A_readOp_63 : decode b_A_readOp 63 = .ok (.putfield 205, 3) := by decide +kernel
theorem d_A_readOp_66 : decode b_A_readOp 66 = .ok (.return_, 1) := by decide +kernel
abbrev b_R_skipToBlank : ByteArray := prog_7_method_12_code
abbrev y_R_skipToBlank : MethodName := ⟨"SignMachine$Source", "skipToBlank", "()V"⟩
theorem h_R_skipToBlank : (y_R_skipToBlank).cls ≠ "java/lang/invoke/MethodHandle" ∧ (y_R_skipToBlank).cls ≠ "java/lang/invoke/VarHandle" ∧ (parseMethodDescriptor (y_R_skipToBlank).desc).map (fun d => d.parameters.length) = some 0 := by decide +kernel
theorem d_R_skipToBlank_0 : decode b_R_skipToBlank 0 = .ok (.iconst 0, 1) := by decide +kernel
theorem d_R_skipToBlank_1 : decode b_R_skipToBlank 1 = .ok (.istore_n 1, 1) := by decide +kernel
theorem d_R_skipToBlank_2 : decode b_R_skipToBlank 2 = .ok (.iload_n 1, 1) := by decide +kernel
theorem d_R_skipToBlank_3 : decode b_R_skipToBlank 3 = .ok (.sipush 4000, 3) := by decide +kernel
theorem d_R_skipToBlank_6 : decode b_R_skipToBlank 6 = .ok (.if_icmp .ge 36, 3) := by decide +kernel
theorem d_R_skipToBlank_9 : decode b_R_skipToBlank 9 = .ok (.aload_n 0, 1) := by decide +kernel
theorem d_R_skipToBlank_10 : decode b_R_skipToBlank 10 = .ok (.invokevirtual 33, 3) := by decide +kernel
theorem d_R_skipToBlank_13 : decode b_R_skipToBlank 13 = .ok (.bipush 32, 2) := by decide +kernel
theorem d_R_skipToBlank_15 : decode b_R_skipToBlank 15 = .ok (.if_icmp .eq 27, 3) := by decide +kernel
theorem d_R_skipToBlank_18 : decode b_R_skipToBlank 18 = .ok (.aload_n 0, 1) := by decide +kernel
theorem d_R_skipToBlank_19 : decode b_R_skipToBlank 19 = .ok (.invokevirtual 33, 3) := by decide +kernel
theorem d_R_skipToBlank_22 : decode b_R_skipToBlank 22 = .ok (.iconst (-1), 1) := by decide +kernel
theorem d_R_skipToBlank_23 : decode b_R_skipToBlank 23 = .ok (.if_icmp .eq 19, 3) := by decide +kernel
theorem d_R_skipToBlank_26 : decode b_R_skipToBlank 26 = .ok (.aload_n 0, 1) := by decide +kernel
theorem d_R_skipToBlank_27 : decode b_R_skipToBlank 27 = .ok (.dup, 1) := by decide +kernel
theorem d_R_skipToBlank_28 : decode b_R_skipToBlank 28 = .ok (.getfield 23, 3) := by decide +kernel
theorem d_R_skipToBlank_31 : decode b_R_skipToBlank 31 = .ok (.iconst 1, 1) := by decide +kernel
theorem d_R_skipToBlank_32 : decode b_R_skipToBlank 32 = .ok (.iadd, 1) := by decide +kernel
theorem d_R_skipToBlank_33 : decode b_R_skipToBlank 33 = .ok (.putfield 23, 3) := by decide +kernel
theorem d_R_skipToBlank_36 : decode b_R_skipToBlank 36 = .ok (.iinc 1 1, 3) := by decide +kernel
theorem d_R_skipToBlank_39 : decode b_R_skipToBlank 39 = .ok (.goto (-37), 3) := by decide +kernel
theorem d_R_skipToBlank_42 : decode b_R_skipToBlank 42 = .ok (.return_, 1) := by decide +kernel
abbrev b_P_find : ByteArray := prog_5_method_4_code
abbrev y_P_find : MethodName := ⟨"SignMachine$Op", "find", "(LSignMachine$Source;II)LSignMachine$Op;"⟩
theorem h_P_find : (y_P_find).cls ≠ "java/lang/invoke/MethodHandle" ∧ (y_P_find).cls ≠ "java/lang/invoke/VarHandle" ∧ (parseMethodDescriptor (y_P_find).desc).map (fun d => d.parameters.length) = some 3 := by decide +kernel
theorem d_P_find_0 : decode b_P_find 0 = .ok (.iconst 0, 1) := by decide +kernel
theorem d_P_find_1 : decode b_P_find 1 = .ok (.istore_n 3, 1) := by decide +kernel
theorem d_P_find_2 : decode b_P_find 2 = .ok (.iload_n 3, 1) := by decide +kernel
theorem d_P_find_3 : decode b_P_find 3 = .ok (.getstatic 187, 3) := by decide +kernel
theorem d_P_find_6 : decode b_P_find 6 = .ok (.arraylength, 1) := by decide +kernel
theorem d_P_find_7 : decode b_P_find 7 = .ok (.if_icmp .ge 29, 3) := by decide +kernel
theorem d_P_find_10 : decode b_P_find 10 = .ok (.getstatic 187, 3) := by decide +kernel
theorem d_P_find_13 : decode b_P_find 13 = .ok (.iload_n 3, 1) := by decide +kernel
theorem d_P_find_14 : decode b_P_find 14 = .ok (.aaload, 1) := by decide +kernel
theorem d_P_find_15 : decode b_P_find 15 = .ok (.aload_n 0, 1) := by decide +kernel
theorem d_P_find_16 : decode b_P_find 16 = .ok (.iload_n 1, 1) := by decide +kernel
theorem d_P_find_17 : decode b_P_find 17 = .ok (.iload_n 2, 1) := by decide +kernel
theorem d_P_find_18 : decode b_P_find 18 = .ok (.invokevirtual 190, 3) := by decide +kernel
theorem d_P_find_21 : decode b_P_find 21 = .ok (.ifCond .eq 9, 3) := by decide +kernel
theorem d_P_find_24 : decode b_P_find 24 = .ok (.getstatic 187, 3) := by decide +kernel
theorem d_P_find_27 : decode b_P_find 27 = .ok (.iload_n 3, 1) := by decide +kernel
theorem d_P_find_28 : decode b_P_find 28 = .ok (.aaload, 1) := by decide +kernel
theorem d_P_find_29 : decode b_P_find 29 = .ok (.areturn, 1) := by decide +kernel
theorem d_P_find_30 : decode b_P_find 30 = .ok (.iinc 3 1, 3) := by decide +kernel
theorem d_P_find_33 : decode b_P_find 33 = .ok (.goto (-31), 3) := by decide +kernel
theorem d_P_find_36 : decode b_P_find 36 = .ok (.aconst_null, 1) := by decide +kernel
theorem d_P_find_37 : decode b_P_find 37 = .ok (.areturn, 1) := by decide +kernel
abbrev b_P_fits : ByteArray := prog_5_method_5_code
abbrev y_P_fits : MethodName := ⟨"SignMachine$Op", "fits", "(LSignMachine$Source;II)Z"⟩
theorem h_P_fits : (y_P_fits).cls ≠ "java/lang/invoke/MethodHandle" ∧ (y_P_fits).cls ≠ "java/lang/invoke/VarHandle" ∧ (parseMethodDescriptor (y_P_fits).desc).map (fun d => d.parameters.length) = some 3 := by decide +kernel
theorem d_P_fits_0 : decode b_P_fits 0 = .ok (.iload_n 3, 1) := by decide +kernel
theorem d_P_fits_1 : decode b_P_fits 1 = .ok (.iload_n 2, 1) := by decide +kernel
theorem d_P_fits_2 : decode b_P_fits 2 = .ok (.isub, 1) := by decide +kernel
theorem d_P_fits_3 : decode b_P_fits 3 = .ok (.aload_n 0, 1) := by decide +kernel
theorem d_P_fits_4 : decode b_P_fits 4 = .ok (.getfield 176, 3) := by decide +kernel
theorem d_P_fits_7 : decode b_P_fits 7 = .ok (.invokevirtual 194, 3) := by decide +kernel
theorem d_P_fits_10 : decode b_P_fits 10 = .ok (.if_icmp .eq 5, 3) := by decide +kernel
theorem d_P_fits_13 : decode b_P_fits 13 = .ok (.iconst 0, 1) := by decide +kernel
theorem d_P_fits_14 : decode b_P_fits 14 = .ok (.ireturn, 1) := by decide +kernel
theorem d_P_fits_15 : decode b_P_fits 15 = .ok (.iconst 0, 1) := by decide +kernel
theorem d_P_fits_16 : decode b_P_fits 16 = .ok (.istore 4, 2) := by decide +kernel
theorem d_P_fits_18 : decode b_P_fits 18 = .ok (.iload 4, 2) := by decide +kernel
theorem d_P_fits_20 : decode b_P_fits 20 = .ok (.aload_n 0, 1) := by decide +kernel
theorem d_P_fits_21 : decode b_P_fits 21 = .ok (.getfield 176, 3) := by decide +kernel
theorem d_P_fits_24 : decode b_P_fits 24 = .ok (.invokevirtual 194, 3) := by decide +kernel
theorem d_P_fits_27 : decode b_P_fits 27 = .ok (.if_icmp .ge 60, 3) := by decide +kernel
theorem d_P_fits_30 : decode b_P_fits 30 = .ok (.aload_n 0, 1) := by decide +kernel
theorem d_P_fits_31 : decode b_P_fits 31 = .ok (.getfield 176, 3) := by decide +kernel
theorem d_P_fits_34 : decode b_P_fits 34 = .ok (.iload 4, 2) := by decide +kernel
theorem d_P_fits_36 : decode b_P_fits 36 = .ok (.invokevirtual 200, 3) := by decide +kernel
theorem d_P_fits_39 : decode b_P_fits 39 = .ok (.istore 5, 2) := by decide +kernel
theorem d_P_fits_41 : decode b_P_fits 41 = .ok (.aload_n 1, 1) := by decide +kernel
theorem d_P_fits_42 : decode b_P_fits 42 = .ok (.iload_n 2, 1) := by decide +kernel
theorem d_P_fits_43 : decode b_P_fits 43 = .ok (.iload 4, 2) := by decide +kernel
theorem d_P_fits_45 : decode b_P_fits 45 = .ok (.iadd, 1) := by decide +kernel
theorem d_P_fits_46 : decode b_P_fits 46 = .ok (.invokevirtual 204, 3) := by decide +kernel
theorem d_P_fits_49 : decode b_P_fits 49 = .ok (.istore 6, 2) := by decide +kernel
theorem d_P_fits_51 : decode b_P_fits 51 = .ok (.iload 5, 2) := by decide +kernel
theorem d_P_fits_53 : decode b_P_fits 53 = .ok (.bipush 63, 2) := by decide +kernel
theorem d_P_fits_55 : decode b_P_fits 55 = .ok (.if_icmp .ne 17, 3) := by decide +kernel
theorem d_P_fits_58 : decode b_P_fits 58 = .ok (.ldc 210, 2) := by decide +kernel
theorem d_P_fits_60 : decode b_P_fits 60 = .ok (.iload 6, 2) := by decide +kernel
theorem d_P_fits_62 : decode b_P_fits 62 = .ok (.i2c, 1) := by decide +kernel
theorem d_P_fits_63 : decode b_P_fits 63 = .ok (.invokevirtual 212, 3) := by decide +kernel
theorem d_P_fits_66 : decode b_P_fits 66 = .ok (.ifCond .ge 15, 3) := by decide +kernel
theorem d_P_fits_69 : decode b_P_fits 69 = .ok (.goto 10, 3) := by decide +kernel
theorem d_P_fits_72 : decode b_P_fits 72 = .ok (.iload 5, 2) := by decide +kernel
theorem d_P_fits_74 : decode b_P_fits 74 = .ok (.iload 6, 2) := by decide +kernel
theorem d_P_fits_76 : decode b_P_fits 76 = .ok (.if_icmp .eq 5, 3) := by decide +kernel
theorem d_P_fits_79 : decode b_P_fits 79 = .ok (.iconst 0, 1) := by decide +kernel
theorem d_P_fits_80 : decode b_P_fits 80 = .ok (.ireturn, 1) := by decide +kernel
theorem d_P_fits_81 : decode b_P_fits 81 = .ok (.iinc 4 1, 3) := by decide +kernel
theorem d_P_fits_84 : decode b_P_fits 84 = .ok (.goto (-66), 3) := by decide +kernel
theorem d_P_fits_87 : decode b_P_fits 87 = .ok (.iconst 1, 1) := by decide +kernel
theorem d_P_fits_88 : decode b_P_fits 88 = .ok (.ireturn, 1) := by decide +kernel
abbrev b_JS_length0 : ByteArray := prog_16_method_54_code
abbrev y_JS_length0 : MethodName := ⟨"java/lang/String", "length", "()I"⟩
theorem h_JS_length0 : (y_JS_length0).cls ≠ "java/lang/invoke/MethodHandle" ∧ (y_JS_length0).cls ≠ "java/lang/invoke/VarHandle" ∧ (parseMethodDescriptor (y_JS_length0).desc).map (fun d => d.parameters.length) = some 0 := by decide +kernel
theorem d_JS_length0_0 : decode b_JS_length0 0 = .ok (.aload_n 0, 1) := by decide +kernel
theorem d_JS_length0_1 : decode b_JS_length0 1 = .ok (.getfield 9, 3) := by decide +kernel
theorem d_JS_length0_4 : decode b_JS_length0 4 = .ok (.arraylength, 1) := by decide +kernel
theorem d_JS_length0_5 : decode b_JS_length0 5 = .ok (.aload_n 0, 1) := by decide +kernel
theorem d_JS_length0_6 : decode b_JS_length0 6 = .ok (.invokevirtual 335, 3) := by decide +kernel
theorem d_JS_length0_9 : decode b_JS_length0 9 = .ok (.ishr, 1) := by decide +kernel
theorem d_JS_length0_10 : decode b_JS_length0 10 = .ok (.ireturn, 1) := by decide +kernel
abbrev b_JS_coder0 : ByteArray := prog_16_method_152_code
abbrev y_JS_coder0 : MethodName := ⟨"java/lang/String", "coder", "()B"⟩
theorem h_JS_coder0 : (y_JS_coder0).cls ≠ "java/lang/invoke/MethodHandle" ∧ (y_JS_coder0).cls ≠ "java/lang/invoke/VarHandle" ∧ (parseMethodDescriptor (y_JS_coder0).desc).map (fun d => d.parameters.length) = some 0 := by decide +kernel
theorem d_JS_coder0_0 : decode b_JS_coder0 0 = .ok (.getstatic 38, 3) := by decide +kernel
theorem d_JS_coder0_3 : decode b_JS_coder0 3 = .ok (.ifCond .eq 10, 3) := by decide +kernel
theorem d_JS_coder0_6 : decode b_JS_coder0 6 = .ok (.aload_n 0, 1) := by decide +kernel
theorem d_JS_coder0_7 : decode b_JS_coder0 7 = .ok (.getfield 15, 3) := by decide +kernel
theorem d_JS_coder0_10 : decode b_JS_coder0 10 = .ok (.goto 4, 3) := by decide +kernel
theorem d_JS_coder0_13 : decode b_JS_coder0 13 = .ok (.iconst 1, 1) := by decide +kernel
theorem d_JS_coder0_14 : decode b_JS_coder0 14 = .ok (.ireturn, 1) := by decide +kernel
abbrev b_JS_charAt1 : ByteArray := prog_16_method_56_code
abbrev y_JS_charAt1 : MethodName := ⟨"java/lang/String", "charAt", "(I)C"⟩
theorem h_JS_charAt1 : (y_JS_charAt1).cls ≠ "java/lang/invoke/MethodHandle" ∧ (y_JS_charAt1).cls ≠ "java/lang/invoke/VarHandle" ∧ (parseMethodDescriptor (y_JS_charAt1).desc).map (fun d => d.parameters.length) = some 1 := by decide +kernel
theorem d_JS_charAt1_0 : decode b_JS_charAt1 0 = .ok (.aload_n 0, 1) := by decide +kernel
theorem d_JS_charAt1_1 : decode b_JS_charAt1 1 = .ok (.invokevirtual 492, 3) := by decide +kernel
theorem d_JS_charAt1_4 : decode b_JS_charAt1 4 = .ok (.ifCond .eq 12, 3) := by decide +kernel
theorem d_JS_charAt1_7 : decode b_JS_charAt1 7 = .ok (.aload_n 0, 1) := by decide +kernel
theorem d_JS_charAt1_8 : decode b_JS_charAt1 8 = .ok (.getfield 9, 3) := by decide +kernel
theorem d_JS_charAt1_11 : decode b_JS_charAt1 11 = .ok (.iload_n 1, 1) := by decide +kernel
theorem d_JS_charAt1_12 : decode b_JS_charAt1 12 = .ok (.invokestatic 495, 3) := by decide +kernel
theorem d_JS_charAt1_15 : decode b_JS_charAt1 15 = .ok (.ireturn, 1) := by decide +kernel
theorem d_JS_charAt1_16 : decode b_JS_charAt1 16 = .ok (.aload_n 0, 1) := by decide +kernel
theorem d_JS_charAt1_17 : decode b_JS_charAt1 17 = .ok (.getfield 9, 3) := by decide +kernel
theorem d_JS_charAt1_20 : decode b_JS_charAt1 20 = .ok (.iload_n 1, 1) := by decide +kernel
theorem d_JS_charAt1_21 : decode b_JS_charAt1 21 = .ok (.invokestatic 498, 3) := by decide +kernel
theorem d_JS_charAt1_24 : decode b_JS_charAt1 24 = .ok (.ireturn, 1) := by decide +kernel
abbrev b_JS_isLatin10 : ByteArray := prog_16_method_154_code
abbrev y_JS_isLatin10 : MethodName := ⟨"java/lang/String", "isLatin1", "()Z"⟩
theorem h_JS_isLatin10 : (y_JS_isLatin10).cls ≠ "java/lang/invoke/MethodHandle" ∧ (y_JS_isLatin10).cls ≠ "java/lang/invoke/VarHandle" ∧ (parseMethodDescriptor (y_JS_isLatin10).desc).map (fun d => d.parameters.length) = some 0 := by decide +kernel
theorem d_JS_isLatin10_0 : decode b_JS_isLatin10 0 = .ok (.getstatic 38, 3) := by decide +kernel
theorem d_JS_isLatin10_3 : decode b_JS_isLatin10 3 = .ok (.ifCond .eq 14, 3) := by decide +kernel
theorem d_JS_isLatin10_6 : decode b_JS_isLatin10 6 = .ok (.aload_n 0, 1) := by decide +kernel
theorem d_JS_isLatin10_7 : decode b_JS_isLatin10 7 = .ok (.getfield 15, 3) := by decide +kernel
theorem d_JS_isLatin10_10 : decode b_JS_isLatin10 10 = .ok (.ifCond .ne 7, 3) := by decide +kernel
theorem d_JS_isLatin10_13 : decode b_JS_isLatin10 13 = .ok (.iconst 1, 1) := by decide +kernel
theorem d_JS_isLatin10_14 : decode b_JS_isLatin10 14 = .ok (.goto 4, 3) := by decide +kernel
theorem d_JS_isLatin10_17 : decode b_JS_isLatin10 17 = .ok (.iconst 0, 1) := by decide +kernel
theorem d_JS_isLatin10_18 : decode b_JS_isLatin10 18 = .ok (.ireturn, 1) := by decide +kernel
abbrev b_JL_charAt2 : ByteArray := prog_17_method_2_code
abbrev y_JL_charAt2 : MethodName := ⟨"java/lang/StringLatin1", "charAt", "([BI)C"⟩
theorem h_JL_charAt2 : (y_JL_charAt2).cls ≠ "java/lang/invoke/MethodHandle" ∧ (y_JL_charAt2).cls ≠ "java/lang/invoke/VarHandle" ∧ (parseMethodDescriptor (y_JL_charAt2).desc).map (fun d => d.parameters.length) = some 2 := by decide +kernel
theorem d_JL_charAt2_0 : decode b_JL_charAt2 0 = .ok (.iload_n 1, 1) := by decide +kernel
theorem d_JL_charAt2_1 : decode b_JL_charAt2 1 = .ok (.aload_n 0, 1) := by decide +kernel
theorem d_JL_charAt2_2 : decode b_JL_charAt2 2 = .ok (.arraylength, 1) := by decide +kernel
theorem d_JL_charAt2_3 : decode b_JL_charAt2 3 = .ok (.invokestatic 9, 3) := by decide +kernel
theorem d_JL_charAt2_6 : decode b_JL_charAt2 6 = .ok (.aload_n 0, 1) := by decide +kernel
theorem d_JL_charAt2_7 : decode b_JL_charAt2 7 = .ok (.iload_n 1, 1) := by decide +kernel
theorem d_JL_charAt2_8 : decode b_JL_charAt2 8 = .ok (.baload, 1) := by decide +kernel
theorem d_JL_charAt2_9 : decode b_JL_charAt2 9 = .ok (.sipush 255, 3) := by decide +kernel
theorem d_JL_charAt2_12 : decode b_JL_charAt2 12 = .ok (.iand, 1) := by decide +kernel
theorem d_JL_charAt2_13 : decode b_JL_charAt2 13 = .ok (.i2c, 1) := by decide +kernel
theorem d_JL_charAt2_14 : decode b_JL_charAt2 14 = .ok (.ireturn, 1) := by decide +kernel
abbrev b_JS_checkIndex2 : ByteArray := prog_16_method_155_code
abbrev y_JS_checkIndex2 : MethodName := ⟨"java/lang/String", "checkIndex", "(II)V"⟩
theorem h_JS_checkIndex2 : (y_JS_checkIndex2).cls ≠ "java/lang/invoke/MethodHandle" ∧ (y_JS_checkIndex2).cls ≠ "java/lang/invoke/VarHandle" ∧ (parseMethodDescriptor (y_JS_checkIndex2).desc).map (fun d => d.parameters.length) = some 2 := by decide +kernel
theorem d_JS_checkIndex2_0 : decode b_JS_checkIndex2 0 = .ok (.iload_n 0, 1) := by decide +kernel
theorem d_JS_checkIndex2_1 : decode b_JS_checkIndex2 1 = .ok (.iload_n 1, 1) := by decide +kernel
theorem d_JS_checkIndex2_2 : decode b_JS_checkIndex2 2 = .ok (.getstatic 1053, 3) := by decide +kernel
theorem d_JS_checkIndex2_5 : decode b_JS_checkIndex2 5 = .ok (.invokestatic 1059, 3) := by decide +kernel
theorem d_JS_checkIndex2_8 : decode b_JS_checkIndex2 8 = .ok (.pop, 1) := by decide +kernel
theorem d_JS_checkIndex2_9 : decode b_JS_checkIndex2 9 = .ok (.return_, 1) := by decide +kernel
abbrev b_JP_checkIndex : ByteArray := prog_19_method_11_code
abbrev y_JP_checkIndex : MethodName := ⟨"jdk/internal/util/Preconditions", "checkIndex", "(IILjava/util/function/BiFunction;)I"⟩
theorem h_JP_checkIndex : (y_JP_checkIndex).cls ≠ "java/lang/invoke/MethodHandle" ∧ (y_JP_checkIndex).cls ≠ "java/lang/invoke/VarHandle" ∧ (parseMethodDescriptor (y_JP_checkIndex).desc).map (fun d => d.parameters.length) = some 3 := by decide +kernel
theorem d_JP_checkIndex_0 : decode b_JP_checkIndex 0 = .ok (.iload_n 0, 1) := by decide +kernel
theorem d_JP_checkIndex_1 : decode b_JP_checkIndex 1 = .ok (.ifCond .lt 8, 3) := by decide +kernel
theorem d_JP_checkIndex_4 : decode b_JP_checkIndex 4 = .ok (.iload_n 0, 1) := by decide +kernel
theorem d_JP_checkIndex_5 : decode b_JP_checkIndex 5 = .ok (.iload_n 1, 1) := by decide +kernel
theorem d_JP_checkIndex_6 : decode b_JP_checkIndex 6 = .ok (.if_icmp .lt 10, 3) := by decide +kernel
theorem d_JP_checkIndex_9 : decode b_JP_checkIndex 9 = .ok (.aload_n 2, 1) := by decide +kernel
theorem d_JP_checkIndex_10 : decode b_JP_checkIndex 10 = .ok (.iload_n 0, 1) := by decide +kernel
theorem d_JP_checkIndex_11 : decode b_JP_checkIndex 11 = .ok (.iload_n 1, 1) := by decide +kernel
theorem d_JP_checkIndex_12 : decode b_JP_checkIndex 12 = .ok (.invokestatic 95, 3) := by decide +kernel
theorem d_JP_checkIndex_15 : decode b_JP_checkIndex 15 = .ok (.athrow, 1) := by decide +kernel
theorem d_JP_checkIndex_16 : decode b_JP_checkIndex 16 = .ok (.iload_n 0, 1) := by decide +kernel
theorem d_JP_checkIndex_17 : decode b_JP_checkIndex 17 = .ok (.ireturn, 1) := by decide +kernel
abbrev b_JS_indexOf1 : ByteArray := prog_16_method_79_code
abbrev y_JS_indexOf1 : MethodName := ⟨"java/lang/String", "indexOf", "(I)I"⟩
theorem h_JS_indexOf1 : (y_JS_indexOf1).cls ≠ "java/lang/invoke/MethodHandle" ∧ (y_JS_indexOf1).cls ≠ "java/lang/invoke/VarHandle" ∧ (parseMethodDescriptor (y_JS_indexOf1).desc).map (fun d => d.parameters.length) = some 1 := by decide +kernel
theorem d_JS_indexOf1_0 : decode b_JS_indexOf1 0 = .ok (.aload_n 0, 1) := by decide +kernel
theorem d_JS_indexOf1_1 : decode b_JS_indexOf1 1 = .ok (.iload_n 1, 1) := by decide +kernel
theorem d_JS_indexOf1_2 : decode b_JS_indexOf1 2 = .ok (.iconst 0, 1) := by decide +kernel
theorem d_JS_indexOf1_3 : decode b_JS_indexOf1 3 = .ok (.invokevirtual 633, 3) := by decide +kernel
theorem d_JS_indexOf1_6 : decode b_JS_indexOf1 6 = .ok (.ireturn, 1) := by decide +kernel
abbrev b_JS_indexOf2 : ByteArray := prog_16_method_80_code
abbrev y_JS_indexOf2 : MethodName := ⟨"java/lang/String", "indexOf", "(II)I"⟩
theorem h_JS_indexOf2 : (y_JS_indexOf2).cls ≠ "java/lang/invoke/MethodHandle" ∧ (y_JS_indexOf2).cls ≠ "java/lang/invoke/VarHandle" ∧ (parseMethodDescriptor (y_JS_indexOf2).desc).map (fun d => d.parameters.length) = some 2 := by decide +kernel
theorem d_JS_indexOf2_0 : decode b_JS_indexOf2 0 = .ok (.aload_n 0, 1) := by decide +kernel
theorem d_JS_indexOf2_1 : decode b_JS_indexOf2 1 = .ok (.invokevirtual 492, 3) := by decide +kernel
theorem d_JS_indexOf2_4 : decode b_JS_indexOf2 4 = .ok (.ifCond .eq 19, 3) := by decide +kernel
theorem d_JS_indexOf2_7 : decode b_JS_indexOf2 7 = .ok (.aload_n 0, 1) := by decide +kernel
theorem d_JS_indexOf2_8 : decode b_JS_indexOf2 8 = .ok (.getfield 9, 3) := by decide +kernel
theorem d_JS_indexOf2_11 : decode b_JS_indexOf2 11 = .ok (.iload_n 1, 1) := by decide +kernel
theorem d_JS_indexOf2_12 : decode b_JS_indexOf2 12 = .ok (.iload_n 2, 1) := by decide +kernel
theorem d_JS_indexOf2_13 : decode b_JS_indexOf2 13 = .ok (.aload_n 0, 1) := by decide +kernel
theorem d_JS_indexOf2_14 : decode b_JS_indexOf2 14 = .ok (.invokevirtual 505, 3) := by decide +kernel
theorem d_JS_indexOf2_17 : decode b_JS_indexOf2 17 = .ok (.invokestatic 637, 3) := by decide +kernel
theorem d_JS_indexOf2_20 : decode b_JS_indexOf2 20 = .ok (.goto 16, 3) := by decide +kernel
theorem d_JS_indexOf2_23 : decode b_JS_indexOf2 23 = .ok (.aload_n 0, 1) := by decide +kernel
theorem d_JS_indexOf2_24 : decode b_JS_indexOf2 24 = .ok (.getfield 9, 3) := by decide +kernel
theorem d_JS_indexOf2_27 : decode b_JS_indexOf2 27 = .ok (.iload_n 1, 1) := by decide +kernel
theorem d_JS_indexOf2_28 : decode b_JS_indexOf2 28 = .ok (.iload_n 2, 1) := by decide +kernel
theorem d_JS_indexOf2_29 : decode b_JS_indexOf2 29 = .ok (.aload_n 0, 1) := by decide +kernel
theorem d_JS_indexOf2_30 : decode b_JS_indexOf2 30 = .ok (.invokevirtual 505, 3) := by decide +kernel
theorem d_JS_indexOf2_33 : decode b_JS_indexOf2 33 = .ok (.invokestatic 640, 3) := by decide +kernel
theorem d_JS_indexOf2_36 : decode b_JS_indexOf2 36 = .ok (.ireturn, 1) := by decide +kernel
abbrev b_JL_indexOf4 : ByteArray := prog_17_method_22_code
abbrev y_JL_indexOf4 : MethodName := ⟨"java/lang/StringLatin1", "indexOf", "([BIII)I"⟩
theorem h_JL_indexOf4 : (y_JL_indexOf4).cls ≠ "java/lang/invoke/MethodHandle" ∧ (y_JL_indexOf4).cls ≠ "java/lang/invoke/VarHandle" ∧ (parseMethodDescriptor (y_JL_indexOf4).desc).map (fun d => d.parameters.length) = some 4 := by decide +kernel
theorem d_JL_indexOf4_0 : decode b_JL_indexOf4 0 = .ok (.iload_n 1, 1) := by decide +kernel
theorem d_JL_indexOf4_1 : decode b_JL_indexOf4 1 = .ok (.invokestatic 88, 3) := by decide +kernel
theorem d_JL_indexOf4_4 : decode b_JL_indexOf4 4 = .ok (.ifCond .ne 5, 3) := by decide +kernel
theorem d_JL_indexOf4_7 : decode b_JL_indexOf4 7 = .ok (.iconst (-1), 1) := by decide +kernel
theorem d_JL_indexOf4_8 : decode b_JL_indexOf4 8 = .ok (.ireturn, 1) := by decide +kernel
theorem d_JL_indexOf4_9 : decode b_JL_indexOf4 9 = .ok (.iload_n 2, 1) := by decide +kernel
theorem d_JL_indexOf4_10 : decode b_JL_indexOf4 10 = .ok (.iconst 0, 1) := by decide +kernel
theorem d_JL_indexOf4_11 : decode b_JL_indexOf4 11 = .ok (.invokestatic 92, 3) := by decide +kernel
theorem d_JL_indexOf4_14 : decode b_JL_indexOf4 14 = .ok (.istore_n 2, 1) := by decide +kernel
theorem d_JL_indexOf4_15 : decode b_JL_indexOf4 15 = .ok (.iload_n 3, 1) := by decide +kernel
theorem d_JL_indexOf4_16 : decode b_JL_indexOf4 16 = .ok (.aload_n 0, 1) := by decide +kernel
theorem d_JL_indexOf4_17 : decode b_JL_indexOf4 17 = .ok (.arraylength, 1) := by decide +kernel
theorem d_JL_indexOf4_18 : decode b_JL_indexOf4 18 = .ok (.invokestatic 38, 3) := by decide +kernel
theorem d_JL_indexOf4_21 : decode b_JL_indexOf4 21 = .ok (.istore_n 3, 1) := by decide +kernel
theorem d_JL_indexOf4_22 : decode b_JL_indexOf4 22 = .ok (.iload_n 2, 1) := by decide +kernel
theorem d_JL_indexOf4_23 : decode b_JL_indexOf4 23 = .ok (.iload_n 3, 1) := by decide +kernel
theorem d_JL_indexOf4_24 : decode b_JL_indexOf4 24 = .ok (.if_icmp .lt 5, 3) := by decide +kernel
theorem d_JL_indexOf4_27 : decode b_JL_indexOf4 27 = .ok (.iconst (-1), 1) := by decide +kernel
theorem d_JL_indexOf4_28 : decode b_JL_indexOf4 28 = .ok (.ireturn, 1) := by decide +kernel
theorem d_JL_indexOf4_29 : decode b_JL_indexOf4 29 = .ok (.aload_n 0, 1) := by decide +kernel
theorem d_JL_indexOf4_30 : decode b_JL_indexOf4 30 = .ok (.iload_n 1, 1) := by decide +kernel
theorem d_JL_indexOf4_31 : decode b_JL_indexOf4 31 = .ok (.iload_n 2, 1) := by decide +kernel
theorem d_JL_indexOf4_32 : decode b_JL_indexOf4 32 = .ok (.iload_n 3, 1) := by decide +kernel
theorem d_JL_indexOf4_33 : decode b_JL_indexOf4 33 = .ok (.invokestatic 95, 3) := by decide +kernel
theorem d_JL_indexOf4_36 : decode b_JL_indexOf4 36 = .ok (.ireturn, 1) := by decide +kernel
abbrev b_JL_canEncode1 : ByteArray := prog_17_method_4_code
abbrev y_JL_canEncode1 : MethodName := ⟨"java/lang/StringLatin1", "canEncode", "(I)Z"⟩
theorem h_JL_canEncode1 : (y_JL_canEncode1).cls ≠ "java/lang/invoke/MethodHandle" ∧ (y_JL_canEncode1).cls ≠ "java/lang/invoke/VarHandle" ∧ (parseMethodDescriptor (y_JL_canEncode1).desc).map (fun d => d.parameters.length) = some 1 := by decide +kernel
theorem d_JL_canEncode1_0 : decode b_JL_canEncode1 0 = .ok (.iload_n 0, 1) := by decide +kernel
theorem d_JL_canEncode1_1 : decode b_JL_canEncode1 1 = .ok (.ifCond .lt 14, 3) := by decide +kernel
theorem d_JL_canEncode1_4 : decode b_JL_canEncode1 4 = .ok (.iload_n 0, 1) := by decide +kernel
theorem d_JL_canEncode1_5 : decode b_JL_canEncode1 5 = .ok (.sipush 255, 3) := by decide +kernel
theorem d_JL_canEncode1_8 : decode b_JL_canEncode1 8 = .ok (.if_icmp .gt 7, 3) := by decide +kernel
theorem d_JL_canEncode1_11 : decode b_JL_canEncode1 11 = .ok (.iconst 1, 1) := by decide +kernel
theorem d_JL_canEncode1_12 : decode b_JL_canEncode1 12 = .ok (.goto 4, 3) := by decide +kernel
theorem d_JL_canEncode1_15 : decode b_JL_canEncode1 15 = .ok (.iconst 0, 1) := by decide +kernel
theorem d_JL_canEncode1_16 : decode b_JL_canEncode1 16 = .ok (.ireturn, 1) := by decide +kernel
abbrev b_JL_indexOfChar4 : ByteArray := prog_17_method_23_code
abbrev y_JL_indexOfChar4 : MethodName := ⟨"java/lang/StringLatin1", "indexOfChar", "([BIII)I"⟩
theorem h_JL_indexOfChar4 : (y_JL_indexOfChar4).cls ≠ "java/lang/invoke/MethodHandle" ∧ (y_JL_indexOfChar4).cls ≠ "java/lang/invoke/VarHandle" ∧ (parseMethodDescriptor (y_JL_indexOfChar4).desc).map (fun d => d.parameters.length) = some 4 := by decide +kernel
theorem d_JL_indexOfChar4_0 : decode b_JL_indexOfChar4 0 = .ok (.iload_n 1, 1) := by decide +kernel
theorem d_JL_indexOfChar4_1 : decode b_JL_indexOfChar4 1 = .ok (.i2b, 1) := by decide +kernel
theorem d_JL_indexOfChar4_2 : decode b_JL_indexOfChar4 2 = .ok (.istore 4, 2) := by decide +kernel
theorem d_JL_indexOfChar4_4 : decode b_JL_indexOfChar4 4 = .ok (.iload_n 2, 1) := by decide +kernel
theorem d_JL_indexOfChar4_5 : decode b_JL_indexOfChar4 5 = .ok (.istore 5, 2) := by decide +kernel
theorem d_JL_indexOfChar4_7 : decode b_JL_indexOfChar4 7 = .ok (.iload 5, 2) := by decide +kernel
theorem d_JL_indexOfChar4_9 : decode b_JL_indexOfChar4 9 = .ok (.iload_n 3, 1) := by decide +kernel
theorem d_JL_indexOfChar4_10 : decode b_JL_indexOfChar4 10 = .ok (.if_icmp .ge 21, 3) := by decide +kernel
theorem d_JL_indexOfChar4_13 : decode b_JL_indexOfChar4 13 = .ok (.aload_n 0, 1) := by decide +kernel
theorem d_JL_indexOfChar4_14 : decode b_JL_indexOfChar4 14 = .ok (.iload 5, 2) := by decide +kernel
theorem d_JL_indexOfChar4_16 : decode b_JL_indexOfChar4 16 = .ok (.baload, 1) := by decide +kernel
theorem d_JL_indexOfChar4_17 : decode b_JL_indexOfChar4 17 = .ok (.iload 4, 2) := by decide +kernel
theorem d_JL_indexOfChar4_19 : decode b_JL_indexOfChar4 19 = .ok (.if_icmp .ne 6, 3) := by decide +kernel
theorem d_JL_indexOfChar4_22 : decode b_JL_indexOfChar4 22 = .ok (.iload 5, 2) := by decide +kernel
theorem d_JL_indexOfChar4_24 : decode b_JL_indexOfChar4 24 = .ok (.ireturn, 1) := by decide +kernel
theorem d_JL_indexOfChar4_25 : decode b_JL_indexOfChar4 25 = .ok (.iinc 5 1, 3) := by decide +kernel
theorem d_JL_indexOfChar4_28 : decode b_JL_indexOfChar4 28 = .ok (.goto (-21), 3) := by decide +kernel
theorem d_JL_indexOfChar4_31 : decode b_JL_indexOfChar4 31 = .ok (.iconst (-1), 1) := by decide +kernel
theorem d_JL_indexOfChar4_32 : decode b_JL_indexOfChar4 32 = .ok (.ireturn, 1) := by decide +kernel
abbrev b_P_codeIn : ByteArray := prog_5_method_6_code
abbrev y_P_codeIn : MethodName := ⟨"SignMachine$Op", "codeIn", "(LSignMachine$Source;I)I"⟩
theorem h_P_codeIn : (y_P_codeIn).cls ≠ "java/lang/invoke/MethodHandle" ∧ (y_P_codeIn).cls ≠ "java/lang/invoke/VarHandle" ∧ (parseMethodDescriptor (y_P_codeIn).desc).map (fun d => d.parameters.length) = some 2 := by decide +kernel
theorem d_P_codeIn_0 : decode b_P_codeIn 0 = .ok (.aload_n 0, 1) := by decide +kernel
theorem d_P_codeIn_1 : decode b_P_codeIn 1 = .ok (.getfield 176, 3) := by decide +kernel
theorem d_P_codeIn_4 : decode b_P_codeIn 4 = .ok (.bipush 63, 2) := by decide +kernel
theorem d_P_codeIn_6 : decode b_P_codeIn 6 = .ok (.invokevirtual 212, 3) := by decide +kernel
theorem d_P_codeIn_9 : decode b_P_codeIn 9 = .ok (.istore_n 3, 1) := by decide +kernel
theorem d_P_codeIn_10 : decode b_P_codeIn 10 = .ok (.iload_n 3, 1) := by decide +kernel
theorem d_P_codeIn_11 : decode b_P_codeIn 11 = .ok (.ifCond .ge 8, 3) := by decide +kernel
theorem d_P_codeIn_14 : decode b_P_codeIn 14 = .ok (.aload_n 0, 1) := by decide +kernel
theorem d_P_codeIn_15 : decode b_P_codeIn 15 = .ok (.getfield 180, 3) := by decide +kernel
theorem d_P_codeIn_18 : decode b_P_codeIn 18 = .ok (.ireturn, 1) := by decide +kernel
theorem d_P_codeIn_19 : decode b_P_codeIn 19 = .ok (.aload_n 0, 1) := by decide +kernel
theorem d_P_codeIn_20 : decode b_P_codeIn 20 = .ok (.getfield 180, 3) := by decide +kernel
theorem d_P_codeIn_23 : decode b_P_codeIn 23 = .ok (.iconst 0, 1) := by decide +kernel
theorem d_P_codeIn_24 : decode b_P_codeIn 24 = .ok (.ldc 210, 2) := by decide +kernel
theorem d_P_codeIn_26 : decode b_P_codeIn 26 = .ok (.aload_n 1, 1) := by decide +kernel
theorem d_P_codeIn_27 : decode b_P_codeIn 27 = .ok (.iload_n 2, 1) := by decide +kernel
theorem d_P_codeIn_28 : decode b_P_codeIn 28 = .ok (.iload_n 3, 1) := by decide +kernel
theorem d_P_codeIn_29 : decode b_P_codeIn 29 = .ok (.iadd, 1) := by decide +kernel
theorem d_P_codeIn_30 : decode b_P_codeIn 30 = .ok (.invokevirtual 204, 3) := by decide +kernel
theorem d_P_codeIn_33 : decode b_P_codeIn 33 = .ok (.i2c, 1) := by decide +kernel
theorem d_P_codeIn_34 : decode b_P_codeIn 34 = .ok (.invokevirtual 212, 3) := by decide +kernel
theorem d_P_codeIn_37 : decode b_P_codeIn 37 = .ok (.invokestatic 215, 3) := by decide +kernel
theorem d_P_codeIn_40 : decode b_P_codeIn 40 = .ok (.iadd, 1) := by decide +kernel
theorem d_P_codeIn_41 : decode b_P_codeIn 41 = .ok (.ireturn, 1) := by decide +kernel
abbrev b_A_tellLabel : ByteArray := prog_2_method_14_code
abbrev y_A_tellLabel : MethodName := ⟨"SignMachine$Assembler", "tellLabel", "(I)V"⟩
theorem h_A_tellLabel : (y_A_tellLabel).cls ≠ "java/lang/invoke/MethodHandle" ∧ (y_A_tellLabel).cls ≠ "java/lang/invoke/VarHandle" ∧ (parseMethodDescriptor (y_A_tellLabel).desc).map (fun d => d.parameters.length) = some 1 := by decide +kernel
theorem d_A_tellLabel_0 : decode b_A_tellLabel 0 = .ok (.aload_n 0, 1) := by decide +kernel
theorem d_A_tellLabel_1 : decode b_A_tellLabel 1 = .ok (.iload_n 1, 1) := by decide +kernel
theorem d_A_tellLabel_2 : decode b_A_tellLabel 2 = .ok (.putfield 139, 3) := by decide +kernel
theorem d_A_tellLabel_5 : decode b_A_tellLabel 5 = .ok (.aload_n 0, 1) := by decide +kernel
theorem d_A_tellLabel_6 : decode b_A_tellLabel 6 = .ok (.getfield 64, 3) := by decide +kernel
theorem d_A_tellLabel_9 : decode b_A_tellLabel 9 = .ok (.bipush 8, 2) := by decide +kernel
theorem d_A_tellLabel_11 : decode b_A_tellLabel 11 = .ok (.invokestatic 135, 3) := by decide +kernel
theorem d_A_tellLabel_14 : decode b_A_tellLabel 14 = .ok (.istore_n 2, 1) := by decide +kernel
theorem d_A_tellLabel_15 : decode b_A_tellLabel 15 = .ok (.iload_n 2, 1) := by decide +kernel
theorem d_A_tellLabel_16 : decode b_A_tellLabel 16 = .ok (.ifCond .lt 15, 3) := by decide +kernel
theorem d_A_tellLabel_19 : decode b_A_tellLabel 19 = .ok (.aload_n 0, 1) := by decide +kernel
theorem d_A_tellLabel_20 : decode b_A_tellLabel 20 = .ok (.getfield 28, 3) := by decide +kernel
theorem d_A_tellLabel_23 : decode b_A_tellLabel 23 = .ok (.iload_n 2, 1) := by decide +kernel
theorem d_A_tellLabel_24 : decode b_A_tellLabel 24 = .ok (.iload_n 1, 1) := by decide +kernel
theorem d_A_tellLabel_25 : decode b_A_tellLabel 25 = .ok (.invokevirtual 206, 3) := by decide +kernel
theorem d_A_tellLabel_28 : decode b_A_tellLabel 28 = .ok (.goto 17, 3) := by decide +kernel
theorem d_A_tellLabel_31 : decode b_A_tellLabel 31 = .ok (.aload_n 0, 1) := by decide +kernel
theorem d_A_tellLabel_32 : decode b_A_tellLabel 32 = .ok (.getfield 64, 3) := by decide +kernel
theorem d_A_tellLabel_35 : decode b_A_tellLabel 35 = .ok (.lconst 0, 1) := by decide +kernel
theorem d_A_tellLabel_36 : decode b_A_tellLabel 36 = .ok (.lcmp, 1) := by decide +kernel
theorem d_A_tellLabel_37 : decode b_A_tellLabel 37 = .ok (.ifCond .eq 8, 3) := by decide +kernel
theorem d_A_tellLabel_40 : decode b_A_tellLabel 40 = .ok (.aload_n 0, 1) := by decide +kernel
theorem d_A_tellLabel_41 : decode b_A_tellLabel 41 = .ok (.iload_n 1, 1) := by decide +kernel
theorem d_A_tellLabel_42 : decode b_A_tellLabel 42 = .ok (.invokevirtual 209, 3) := by decide +kernel
theorem d_A_tellLabel_45 : decode b_A_tellLabel 45 = .ok (.return_, 1) := by decide +kernel
abbrev b_A_tellSymbol : ByteArray := prog_2_method_15_code
abbrev y_A_tellSymbol : MethodName := ⟨"SignMachine$Assembler", "tellSymbol", "(I)V"⟩
theorem h_A_tellSymbol : (y_A_tellSymbol).cls ≠ "java/lang/invoke/MethodHandle" ∧ (y_A_tellSymbol).cls ≠ "java/lang/invoke/VarHandle" ∧ (parseMethodDescriptor (y_A_tellSymbol).desc).map (fun d => d.parameters.length) = some 1 := by decide +kernel
theorem d_A_tellSymbol_0 : decode b_A_tellSymbol 0 = .ok (.aload_n 0, 1) := by decide +kernel
theorem d_A_tellSymbol_1 : decode b_A_tellSymbol 1 = .ok (.getfield 21, 3) := by decide +kernel
theorem d_A_tellSymbol_4 : decode b_A_tellSymbol 4 = .ok (.aload_n 0, 1) := by decide +kernel
theorem d_A_tellSymbol_5 : decode b_A_tellSymbol 5 = .ok (.getfield 64, 3) := by decide +kernel
theorem d_A_tellSymbol_8 : decode b_A_tellSymbol 8 = .ok (.invokevirtual 212, 3) := by decide +kernel
theorem d_A_tellSymbol_11 : decode b_A_tellSymbol 11 = .ok (.istore_n 2, 1) := by decide +kernel
theorem d_A_tellSymbol_12 : decode b_A_tellSymbol 12 = .ok (.aload_n 0, 1) := by decide +kernel
theorem d_A_tellSymbol_13 : decode b_A_tellSymbol 13 = .ok (.getfield 21, 3) := by decide +kernel
theorem d_A_tellSymbol_16 : decode b_A_tellSymbol 16 = .ok (.iload_n 2, 1) := by decide +kernel
theorem d_A_tellSymbol_17 : decode b_A_tellSymbol 17 = .ok (.invokevirtual 215, 3) := by decide +kernel
theorem d_A_tellSymbol_20 : decode b_A_tellSymbol 20 = .ok (.ifCond .eq 10, 3) := by decide +kernel
theorem d_A_tellSymbol_23 : decode b_A_tellSymbol 23 = .ok (.aload_n 0, 1) := by decide +kernel
theorem d_A_tellSymbol_24 : decode b_A_tellSymbol 24 = .ok (.iconst 3, 1) := by decide +kernel
theorem d_A_tellSymbol_25 : decode b_A_tellSymbol 25 = .ok (.invokevirtual 84, 3) := by decide +kernel
theorem d_A_tellSymbol_28 : decode b_A_tellSymbol 28 = .ok (.pop, 1) := by decide +kernel
theorem d_A_tellSymbol_29 : decode b_A_tellSymbol 29 = .ok (.return_, 1) := by decide +kernel
theorem d_A_tellSymbol_30 : decode b_A_tellSymbol 30 = .ok (.iload_n 2, 1) := by decide +kernel
theorem d_A_tellSymbol_31 : decode b_A_tellSymbol 31 = .ok (.ifCond .ge 15, 3) := by decide +kernel
theorem d_A_tellSymbol_34 : decode b_A_tellSymbol 34 = .ok (.aload_n 0, 1) := by decide +kernel
theorem d_A_tellSymbol_35 : decode b_A_tellSymbol 35 = .ok (.getfield 21, 3) := by decide +kernel
theorem d_A_tellSymbol_38 : decode b_A_tellSymbol 38 = .ok (.aload_n 0, 1) := by decide +kernel
theorem d_A_tellSymbol_39 : decode b_A_tellSymbol 39 = .ok (.getfield 64, 3) := by decide +kernel
theorem d_A_tellSymbol_42 : decode b_A_tellSymbol 42 = .ok (.invokevirtual 219, 3) := by decide +kernel
theorem d_A_tellSymbol_45 : decode b_A_tellSymbol 45 = .ok (.istore_n 2, 1) := by decide +kernel
theorem d_A_tellSymbol_46 : decode b_A_tellSymbol 46 = .ok (.iload_n 2, 1) := by decide +kernel
theorem d_A_tellSymbol_47 : decode b_A_tellSymbol 47 = .ok (.ifCond .ge 10, 3) := by decide +kernel
theorem d_A_tellSymbol_50 : decode b_A_tellSymbol 50 = .ok (.aload_n 0, 1) := by decide +kernel
theorem d_A_tellSymbol_51 : decode b_A_tellSymbol 51 = .ok (.iconst 5, 1) := by decide +kernel
theorem d_A_tellSymbol_52 : decode b_A_tellSymbol 52 = .ok (.invokevirtual 84, 3) := by decide +kernel
theorem d_A_tellSymbol_55 : decode b_A_tellSymbol 55 = .ok (.pop, 1) := by decide +kernel
theorem d_A_tellSymbol_56 : decode b_A_tellSymbol 56 = .ok (.return_, 1) := by decide +kernel
theorem d_A_tellSymbol_57 : decode b_A_tellSymbol 57 = .ok (.aload_n 0, 1) := by decide +kernel
theorem d_A_tellSymbol_58 : decode b_A_tellSymbol 58 = .ok (.getfield 21, 3) := by decide +kernel
theorem d_A_tellSymbol_61 : decode b_A_tellSymbol 61 = .ok (.iload_n 2, 1) := by decide +kernel
theorem d_A_tellSymbol_62 : decode b_A_tellSymbol 62 = .ok (.iload_n 1, 1) := by decide +kernel
theorem d_A_tellSymbol_63 : decode b_A_tellSymbol 63 = .ok (.invokevirtual 222, 3) := by decide +kernel
theorem d_A_tellSymbol_66 : decode b_A_tellSymbol 66 = .ok (.return_, 1) := by decide +kernel
abbrev b_N_find : ByteArray := prog_4_method_7_code
abbrev y_N_find : MethodName := ⟨"SignMachine$Names", "find", "(J)I"⟩
theorem h_N_find : (y_N_find).cls ≠ "java/lang/invoke/MethodHandle" ∧ (y_N_find).cls ≠ "java/lang/invoke/VarHandle" ∧ (parseMethodDescriptor (y_N_find).desc).map (fun d => d.parameters.length) = some 1 := by decide +kernel
theorem d_N_find_0 : decode b_N_find 0 = .ok (.iconst 0, 1) := by decide +kernel
theorem d_N_find_1 : decode b_N_find 1 = .ok (.istore_n 3, 1) := by decide +kernel
theorem d_N_find_2 : decode b_N_find 2 = .ok (.iload_n 3, 1) := by decide +kernel
theorem d_N_find_3 : decode b_N_find 3 = .ok (.aload_n 0, 1) := by decide +kernel
theorem d_N_find_4 : decode b_N_find 4 = .ok (.getfield 35, 3) := by decide +kernel
theorem d_N_find_7 : decode b_N_find 7 = .ok (.if_icmp .ge 28, 3) := by decide +kernel
theorem d_N_find_10 : decode b_N_find 10 = .ok (.iload_n 3, 1) := by decide +kernel
theorem d_N_find_11 : decode b_N_find 11 = .ok (.bipush 100, 2) := by decide +kernel
theorem d_N_find_13 : decode b_N_find 13 = .ok (.if_icmp .ge 22, 3) := by decide +kernel
theorem d_N_find_16 : decode b_N_find 16 = .ok (.aload_n 0, 1) := by decide +kernel
theorem d_N_find_17 : decode b_N_find 17 = .ok (.getfield 11, 3) := by decide +kernel
theorem d_N_find_20 : decode b_N_find 20 = .ok (.iload_n 3, 1) := by decide +kernel
theorem d_N_find_21 : decode b_N_find 21 = .ok (.laload, 1) := by decide +kernel
theorem d_N_find_22 : decode b_N_find 22 = .ok (.lload_n 1, 1) := by decide +kernel
theorem d_N_find_23 : decode b_N_find 23 = .ok (.lcmp, 1) := by decide +kernel
theorem d_N_find_24 : decode b_N_find 24 = .ok (.ifCond .ne 5, 3) := by decide +kernel
theorem d_N_find_27 : decode b_N_find 27 = .ok (.iload_n 3, 1) := by decide +kernel
theorem d_N_find_28 : decode b_N_find 28 = .ok (.ireturn, 1) := by decide +kernel
theorem d_N_find_29 : decode b_N_find 29 = .ok (.iinc 3 1, 3) := by decide +kernel
theorem d_N_find_32 : decode b_N_find 32 = .ok (.goto (-30), 3) := by decide +kernel
theorem d_N_find_35 : decode b_N_find 35 = .ok (.bipush (-2), 2) := by decide +kernel
theorem d_N_find_37 : decode b_N_find 37 = .ok (.ireturn, 1) := by decide +kernel
abbrev b_N_isTold : ByteArray := prog_4_method_12_code
abbrev y_N_isTold : MethodName := ⟨"SignMachine$Names", "isTold", "(I)Z"⟩
theorem h_N_isTold : (y_N_isTold).cls ≠ "java/lang/invoke/MethodHandle" ∧ (y_N_isTold).cls ≠ "java/lang/invoke/VarHandle" ∧ (parseMethodDescriptor (y_N_isTold).desc).map (fun d => d.parameters.length) = some 1 := by decide +kernel
theorem d_N_isTold_0 : decode b_N_isTold 0 = .ok (.iload_n 1, 1) := by decide +kernel
theorem d_N_isTold_1 : decode b_N_isTold 1 = .ok (.ifCond .lt 22, 3) := by decide +kernel
theorem d_N_isTold_4 : decode b_N_isTold 4 = .ok (.iload_n 1, 1) := by decide +kernel
theorem d_N_isTold_5 : decode b_N_isTold 5 = .ok (.bipush 100, 2) := by decide +kernel
theorem d_N_isTold_7 : decode b_N_isTold 7 = .ok (.if_icmp .ge 16, 3) := by decide +kernel
theorem d_N_isTold_10 : decode b_N_isTold 10 = .ok (.aload_n 0, 1) := by decide +kernel
theorem d_N_isTold_11 : decode b_N_isTold 11 = .ok (.getfield 19, 3) := by decide +kernel
theorem d_N_isTold_14 : decode b_N_isTold 14 = .ok (.iload_n 1, 1) := by decide +kernel
theorem d_N_isTold_15 : decode b_N_isTold 15 = .ok (.baload, 1) := by decide +kernel
theorem d_N_isTold_16 : decode b_N_isTold 16 = .ok (.ifCond .eq 7, 3) := by decide +kernel
theorem d_N_isTold_19 : decode b_N_isTold 19 = .ok (.iconst 1, 1) := by decide +kernel
theorem d_N_isTold_20 : decode b_N_isTold 20 = .ok (.goto 4, 3) := by decide +kernel
theorem d_N_isTold_23 : decode b_N_isTold 23 = .ok (.iconst 0, 1) := by decide +kernel
theorem d_N_isTold_24 : decode b_N_isTold 24 = .ok (.ireturn, 1) := by decide +kernel
abbrev b_N_tell : ByteArray := prog_4_method_13_code
abbrev y_N_tell : MethodName := ⟨"SignMachine$Names", "tell", "(II)V"⟩
theorem h_N_tell : (y_N_tell).cls ≠ "java/lang/invoke/MethodHandle" ∧ (y_N_tell).cls ≠ "java/lang/invoke/VarHandle" ∧ (parseMethodDescriptor (y_N_tell).desc).map (fun d => d.parameters.length) = some 2 := by decide +kernel
theorem d_N_tell_0 : decode b_N_tell 0 = .ok (.iload_n 1, 1) := by decide +kernel
theorem d_N_tell_1 : decode b_N_tell 1 = .ok (.ifCond .lt 23, 3) := by decide +kernel
theorem d_N_tell_4 : decode b_N_tell 4 = .ok (.iload_n 1, 1) := by decide +kernel
theorem d_N_tell_5 : decode b_N_tell 5 = .ok (.bipush 100, 2) := by decide +kernel
theorem d_N_tell_7 : decode b_N_tell 7 = .ok (.if_icmp .ge 17, 3) := by decide +kernel
theorem d_N_tell_10 : decode b_N_tell 10 = .ok (.aload_n 0, 1) := by decide +kernel
theorem d_N_tell_11 : decode b_N_tell 11 = .ok (.getfield 15, 3) := by decide +kernel
theorem d_N_tell_14 : decode b_N_tell 14 = .ok (.iload_n 1, 1) := by decide +kernel
theorem d_N_tell_15 : decode b_N_tell 15 = .ok (.iload_n 2, 1) := by decide +kernel
theorem d_N_tell_16 : decode b_N_tell 16 = .ok (.iastore, 1) := by decide +kernel
theorem d_N_tell_17 : decode b_N_tell 17 = .ok (.aload_n 0, 1) := by decide +kernel
theorem d_N_tell_18 : decode b_N_tell 18 = .ok (.getfield 19, 3) := by decide +kernel
theorem d_N_tell_21 : decode b_N_tell 21 = .ok (.iload_n 1, 1) := by decide +kernel
theorem d_N_tell_22 : decode b_N_tell 22 = .ok (.iconst 1, 1) := by decide +kernel
theorem d_N_tell_23 : decode b_N_tell 23 = .ok (.bastore, 1) := by decide +kernel
theorem d_N_tell_24 : decode b_N_tell 24 = .ok (.return_, 1) := by decide +kernel
abbrev b_N_addSymbol : ByteArray := prog_4_method_8_code
abbrev y_N_addSymbol : MethodName := ⟨"SignMachine$Names", "addSymbol", "(J)I"⟩
theorem h_N_addSymbol : (y_N_addSymbol).cls ≠ "java/lang/invoke/MethodHandle" ∧ (y_N_addSymbol).cls ≠ "java/lang/invoke/VarHandle" ∧ (parseMethodDescriptor (y_N_addSymbol).desc).map (fun d => d.parameters.length) = some 1 := by decide +kernel
theorem d_N_addSymbol_0 : decode b_N_addSymbol 0 = .ok (.aload_n 0, 1) := by decide +kernel
theorem d_N_addSymbol_1 : decode b_N_addSymbol 1 = .ok (.getfield 39, 3) := by decide +kernel
theorem d_N_addSymbol_4 : decode b_N_addSymbol 4 = .ok (.bipush 60, 2) := by decide +kernel
theorem d_N_addSymbol_6 : decode b_N_addSymbol 6 = .ok (.if_icmp .lt 6, 3) := by decide +kernel
theorem d_N_addSymbol_9 : decode b_N_addSymbol 9 = .ok (.bipush (-2), 2) := by decide +kernel
theorem d_N_addSymbol_11 : decode b_N_addSymbol 11 = .ok (.ireturn, 1) := by decide +kernel
theorem d_N_addSymbol_12 : decode b_N_addSymbol 12 = .ok (.aload_n 0, 1) := by decide +kernel
theorem d_N_addSymbol_13 : decode b_N_addSymbol 13 = .ok (.dup, 1) := by decide +kernel
theorem d_N_addSymbol_14 : decode b_N_addSymbol 14 = .ok (.getfield 39, 3) := by decide +kernel
theorem d_N_addSymbol_17 : decode b_N_addSymbol 17 = .ok (.iconst 1, 1) := by decide +kernel
theorem d_N_addSymbol_18 : decode b_N_addSymbol 18 = .ok (.iadd, 1) := by decide +kernel
theorem d_N_addSymbol_19 : decode b_N_addSymbol 19 = .ok (.putfield 39, 3) := by decide +kernel
theorem d_N_addSymbol_22 : decode b_N_addSymbol 22 = .ok (.aload_n 0, 1) := by decide +kernel
theorem d_N_addSymbol_23 : decode b_N_addSymbol 23 = .ok (.lload_n 1, 1) := by decide +kernel
theorem d_N_addSymbol_24 : decode b_N_addSymbol 24 = .ok (.iconst 0, 1) := by decide +kernel
theorem d_N_addSymbol_25 : decode b_N_addSymbol 25 = .ok (.invokevirtual 42, 3) := by decide +kernel
theorem d_N_addSymbol_28 : decode b_N_addSymbol 28 = .ok (.ireturn, 1) := by decide +kernel
abbrev b_N_add : ByteArray := prog_4_method_10_code
abbrev y_N_add : MethodName := ⟨"SignMachine$Names", "add", "(JI)I"⟩
theorem h_N_add : (y_N_add).cls ≠ "java/lang/invoke/MethodHandle" ∧ (y_N_add).cls ≠ "java/lang/invoke/VarHandle" ∧ (parseMethodDescriptor (y_N_add).desc).map (fun d => d.parameters.length) = some 2 := by decide +kernel
theorem d_N_add_0 : decode b_N_add 0 = .ok (.aload_n 0, 1) := by decide +kernel
theorem d_N_add_1 : decode b_N_add 1 = .ok (.getfield 35, 3) := by decide +kernel
theorem d_N_add_4 : decode b_N_add 4 = .ok (.ifCond .lt 12, 3) := by decide +kernel
theorem d_N_add_7 : decode b_N_add 7 = .ok (.aload_n 0, 1) := by decide +kernel
theorem d_N_add_8 : decode b_N_add 8 = .ok (.getfield 35, 3) := by decide +kernel
theorem d_N_add_11 : decode b_N_add 11 = .ok (.bipush 100, 2) := by decide +kernel
theorem d_N_add_13 : decode b_N_add 13 = .ok (.if_icmp .lt 6, 3) := by decide +kernel
theorem d_N_add_16 : decode b_N_add 16 = .ok (.bipush (-2), 2) := by decide +kernel
theorem d_N_add_18 : decode b_N_add 18 = .ok (.ireturn, 1) := by decide +kernel
theorem d_N_add_19 : decode b_N_add 19 = .ok (.aload_n 0, 1) := by decide +kernel
theorem d_N_add_20 : decode b_N_add 20 = .ok (.getfield 11, 3) := by decide +kernel
theorem d_N_add_23 : decode b_N_add 23 = .ok (.aload_n 0, 1) := by decide +kernel
theorem d_N_add_24 : decode b_N_add 24 = .ok (.getfield 35, 3) := by decide +kernel
theorem d_N_add_27 : decode b_N_add 27 = .ok (.lload_n 1, 1) := by decide +kernel
theorem d_N_add_28 : decode b_N_add 28 = .ok (.lastore, 1) := by decide +kernel
theorem d_N_add_29 : decode b_N_add 29 = .ok (.aload_n 0, 1) := by decide +kernel
theorem d_N_add_30 : decode b_N_add 30 = .ok (.getfield 15, 3) := by decide +kernel
theorem d_N_add_33 : decode b_N_add 33 = .ok (.aload_n 0, 1) := by decide +kernel
theorem d_N_add_34 : decode b_N_add 34 = .ok (.getfield 35, 3) := by decide +kernel
theorem d_N_add_37 : decode b_N_add 37 = .ok (.iload_n 3, 1) := by decide +kernel
theorem d_N_add_38 : decode b_N_add 38 = .ok (.iastore, 1) := by decide +kernel
theorem d_N_add_39 : decode b_N_add 39 = .ok (.aload_n 0, 1) := by decide +kernel
theorem d_N_add_40 : decode b_N_add 40 = .ok (.getfield 19, 3) := by decide +kernel
theorem d_N_add_43 : decode b_N_add 43 = .ok (.aload_n 0, 1) := by decide +kernel
theorem d_N_add_44 : decode b_N_add 44 = .ok (.getfield 35, 3) := by decide +kernel
theorem d_N_add_47 : decode b_N_add 47 = .ok (.iconst 0, 1) := by decide +kernel
theorem d_N_add_48 : decode b_N_add 48 = .ok (.bastore, 1) := by decide +kernel
theorem d_N_add_49 : decode b_N_add 49 = .ok (.aload_n 0, 1) := by decide +kernel
theorem d_N_add_50 : decode b_N_add 50 = .ok (.dup, 1) := by decide +kernel
theorem d_N_add_51 : decode b_N_add 51 = .ok (.getfield 35, 3) := by decide +kernel
theorem d_N_add_54 : decode b_N_add 54 = .ok (.iconst 1, 1) := by decide +kernel
theorem d_N_add_55 : decode b_N_add 55 = .ok (.iadd, 1) := by decide +kernel
theorem d_N_add_56 : decode b_N_add 56 = .ok (.putfield 35, 3) := by decide +kernel
theorem d_N_add_59 : decode b_N_add 59 = .ok (.aload_n 0, 1) := by decide +kernel
theorem d_N_add_60 : decode b_N_add 60 = .ok (.getfield 35, 3) := by decide +kernel
theorem d_N_add_63 : decode b_N_add 63 = .ok (.iconst 1, 1) := by decide +kernel
theorem d_N_add_64 : decode b_N_add 64 = .ok (.isub, 1) := by decide +kernel
theorem d_N_add_65 : decode b_N_add 65 = .ok (.ireturn, 1) := by decide +kernel
abbrev b_O_closeLocal : ByteArray := prog_6_method_4_code
abbrev y_O_closeLocal : MethodName := ⟨"SignMachine$Output", "closeLocal", "(II)V"⟩
theorem h_O_closeLocal : (y_O_closeLocal).cls ≠ "java/lang/invoke/MethodHandle" ∧ (y_O_closeLocal).cls ≠ "java/lang/invoke/VarHandle" ∧ (parseMethodDescriptor (y_O_closeLocal).desc).map (fun d => d.parameters.length) = some 2 := by decide +kernel
theorem d_O_closeLocal_0 : decode b_O_closeLocal 0 = .ok (.iload_n 1, 1) := by decide +kernel
theorem d_O_closeLocal_1 : decode b_O_closeLocal 1 = .ok (.ifCond .lt 12, 3) := by decide +kernel
theorem d_O_closeLocal_4 : decode b_O_closeLocal 4 = .ok (.iload_n 1, 1) := by decide +kernel
theorem d_O_closeLocal_5 : decode b_O_closeLocal 5 = .ok (.aload_n 0, 1) := by decide +kernel
theorem d_O_closeLocal_6 : decode b_O_closeLocal 6 = .ok (.getfield 32, 3) := by decide +kernel
theorem d_O_closeLocal_9 : decode b_O_closeLocal 9 = .ok (.arraylength, 1) := by decide +kernel
theorem d_O_closeLocal_10 : decode b_O_closeLocal 10 = .ok (.if_icmp .lt 4, 3) := by decide +kernel
theorem d_O_closeLocal_13 : decode b_O_closeLocal 13 = .ok (.return_, 1) := by decide +kernel
theorem d_O_closeLocal_14 : decode b_O_closeLocal 14 = .ok (.aload_n 0, 1) := by decide +kernel
theorem d_O_closeLocal_15 : decode b_O_closeLocal 15 = .ok (.getfield 32, 3) := by decide +kernel
theorem d_O_closeLocal_18 : decode b_O_closeLocal 18 = .ok (.iload_n 1, 1) := by decide +kernel
theorem d_O_closeLocal_19 : decode b_O_closeLocal 19 = .ok (.iaload, 1) := by decide +kernel
theorem d_O_closeLocal_20 : decode b_O_closeLocal 20 = .ok (.istore_n 3, 1) := by decide +kernel
theorem d_O_closeLocal_21 : decode b_O_closeLocal 21 = .ok (.iconst 0, 1) := by decide +kernel
theorem d_O_closeLocal_22 : decode b_O_closeLocal 22 = .ok (.istore 4, 2) := by decide +kernel
theorem d_O_closeLocal_24 : decode b_O_closeLocal 24 = .ok (.iload 4, 2) := by decide +kernel
theorem d_O_closeLocal_26 : decode b_O_closeLocal 26 = .ok (.sipush 1101, 3) := by decide +kernel
theorem d_O_closeLocal_29 : decode b_O_closeLocal 29 = .ok (.if_icmp .ge 41, 3) := by decide +kernel
theorem d_O_closeLocal_32 : decode b_O_closeLocal 32 = .ok (.iload_n 3, 1) := by decide +kernel
theorem d_O_closeLocal_33 : decode b_O_closeLocal 33 = .ok (.invokestatic 39, 3) := by decide +kernel
theorem d_O_closeLocal_36 : decode b_O_closeLocal 36 = .ok (.ifCond .eq 34, 3) := by decide +kernel
theorem d_O_closeLocal_39 : decode b_O_closeLocal 39 = .ok (.aload_n 0, 1) := by decide +kernel
theorem d_O_closeLocal_40 : decode b_O_closeLocal 40 = .ok (.getfield 29, 3) := by decide +kernel
theorem d_O_closeLocal_43 : decode b_O_closeLocal 43 = .ok (.iload_n 3, 1) := by decide +kernel
theorem d_O_closeLocal_44 : decode b_O_closeLocal 44 = .ok (.iaload, 1) := by decide +kernel
theorem d_O_closeLocal_45 : decode b_O_closeLocal 45 = .ok (.istore 5, 2) := by decide +kernel
theorem d_O_closeLocal_47 : decode b_O_closeLocal 47 = .ok (.aload_n 0, 1) := by decide +kernel
theorem d_O_closeLocal_48 : decode b_O_closeLocal 48 = .ok (.getfield 25, 3) := by decide +kernel
theorem d_O_closeLocal_51 : decode b_O_closeLocal 51 = .ok (.iload_n 3, 1) := by decide +kernel
theorem d_O_closeLocal_52 : decode b_O_closeLocal 52 = .ok (.iconst 3, 1) := by decide +kernel
theorem d_O_closeLocal_53 : decode b_O_closeLocal 53 = .ok (.bastore, 1) := by decide +kernel
theorem d_O_closeLocal_54 : decode b_O_closeLocal 54 = .ok (.aload_n 0, 1) := by decide +kernel
theorem d_O_closeLocal_55 : decode b_O_closeLocal 55 = .ok (.getfield 29, 3) := by decide +kernel
theorem d_O_closeLocal_58 : decode b_O_closeLocal 58 = .ok (.iload_n 3, 1) := by decide +kernel
theorem d_O_closeLocal_59 : decode b_O_closeLocal 59 = .ok (.iload_n 2, 1) := by decide +kernel
theorem d_O_closeLocal_60 : decode b_O_closeLocal 60 = .ok (.iastore, 1) := by decide +kernel
theorem d_O_closeLocal_61 : decode b_O_closeLocal 61 = .ok (.iload 5, 2) := by decide +kernel
theorem d_O_closeLocal_63 : decode b_O_closeLocal 63 = .ok (.istore_n 3, 1) := by decide +kernel
theorem d_O_closeLocal_64 : decode b_O_closeLocal 64 = .ok (.iinc 4 1, 3) := by decide +kernel
theorem d_O_closeLocal_67 : decode b_O_closeLocal 67 = .ok (.goto (-43), 3) := by decide +kernel
theorem d_O_closeLocal_70 : decode b_O_closeLocal 70 = .ok (.aload_n 0, 1) := by decide +kernel
theorem d_O_closeLocal_71 : decode b_O_closeLocal 71 = .ok (.getfield 32, 3) := by decide +kernel
theorem d_O_closeLocal_74 : decode b_O_closeLocal 74 = .ok (.iload_n 1, 1) := by decide +kernel
theorem d_O_closeLocal_75 : decode b_O_closeLocal 75 = .ok (.bipush (-2), 2) := by decide +kernel
theorem d_O_closeLocal_77 : decode b_O_closeLocal 77 = .ok (.iastore, 1) := by decide +kernel
theorem d_O_closeLocal_78 : decode b_O_closeLocal 78 = .ok (.return_, 1) := by decide +kernel
abbrev b_A_takeArgument : ByteArray := prog_2_method_5_code
abbrev y_A_takeArgument : MethodName := ⟨"SignMachine$Assembler", "takeArgument", "()V"⟩
theorem h_A_takeArgument : (y_A_takeArgument).cls ≠ "java/lang/invoke/MethodHandle" ∧ (y_A_takeArgument).cls ≠ "java/lang/invoke/VarHandle" ∧ (parseMethodDescriptor (y_A_takeArgument).desc).map (fun d => d.parameters.length) = some 0 := by decide +kernel
theorem d_A_takeArgument_0 : decode b_A_takeArgument 0 = .ok (.aload_n 0, 1) := by decide +kernel
theorem d_A_takeArgument_1 : decode b_A_takeArgument 1 = .ok (.getfield 43, 3) := by decide +kernel
theorem d_A_takeArgument_4 : decode b_A_takeArgument 4 = .ok (.ifCond .ne 10, 3) := by decide +kernel
theorem d_A_takeArgument_7 : decode b_A_takeArgument 7 = .ok (.aload_n 0, 1) := by decide +kernel
theorem d_A_takeArgument_8 : decode b_A_takeArgument 8 = .ok (.getfield 60, 3) := by decide +kernel
theorem d_A_takeArgument_11 : decode b_A_takeArgument 11 = .ok (.ifnonnull 4, 3) := by decide +kernel
theorem d_A_takeArgument_14 : decode b_A_takeArgument 14 = .ok (.return_, 1) := by decide +kernel
theorem d_A_takeArgument_15 : decode b_A_takeArgument 15 = .ok (.aload_n 0, 1) := by decide +kernel
theorem d_A_takeArgument_16 : decode b_A_takeArgument 16 = .ok (.getfield 60, 3) := by decide +kernel
theorem d_A_takeArgument_19 : decode b_A_takeArgument 19 = .ok (.getstatic 100, 3) := by decide +kernel
theorem d_A_takeArgument_22 : decode b_A_takeArgument 22 = .ok (.if_acmp .ne 8, 3) := by decide +kernel
theorem d_A_takeArgument_25 : decode b_A_takeArgument 25 = .ok (.aload_n 0, 1) := by decide +kernel
theorem d_A_takeArgument_26 : decode b_A_takeArgument 26 = .ok (.invokevirtual 103, 3) := by decide +kernel
theorem d_A_takeArgument_29 : decode b_A_takeArgument 29 = .ok (.return_, 1) := by decide +kernel
theorem d_A_takeArgument_30 : decode b_A_takeArgument 30 = .ok (.aload_n 0, 1) := by decide +kernel
theorem d_A_takeArgument_31 : decode b_A_takeArgument 31 = .ok (.getfield 12, 3) := by decide +kernel
theorem d_A_takeArgument_34 : decode b_A_takeArgument 34 = .ok (.invokevirtual 77, 3) := by decide +kernel
theorem d_A_takeArgument_37 : decode b_A_takeArgument 37 = .ok (.aload_n 0, 1) := by decide +kernel
theorem d_A_takeArgument_38 : decode b_A_takeArgument 38 = .ok (.getfield 60, 3) := by decide +kernel
theorem d_A_takeArgument_41 : decode b_A_takeArgument 41 = .ok (.getfield 106, 3) := by decide +kernel
theorem d_A_takeArgument_44 : decode b_A_takeArgument 44 = .ok (.ifCond .lt 15, 3) := by decide +kernel
theorem d_A_takeArgument_47 : decode b_A_takeArgument 47 = .ok (.aload_n 0, 1) := by decide +kernel
theorem d_A_takeArgument_48 : decode b_A_takeArgument 48 = .ok (.aload_n 0, 1) := by decide +kernel
theorem d_A_takeArgument_49 : decode b_A_takeArgument 49 = .ok (.getfield 60, 3) := by decide +kernel
theorem d_A_takeArgument_52 : decode b_A_takeArgument 52 = .ok (.getfield 109, 3) := by decide +kernel
theorem d_A_takeArgument_55 : decode b_A_takeArgument 55 = .ok (.invokevirtual 112, 3) := by decide +kernel
theorem d_A_takeArgument_58 : decode b_A_takeArgument 58 = .ok (.return_, 1) := by decide +kernel
theorem d_A_takeArgument_59 : decode b_A_takeArgument 59 = .ok (.aload_n 0, 1) := by decide +kernel
theorem d_A_takeArgument_60 : decode b_A_takeArgument 60 = .ok (.invokevirtual 115, 3) := by decide +kernel
theorem d_A_takeArgument_63 : decode b_A_takeArgument 63 = .ok (.istore_n 1, 1) := by decide +kernel
theorem d_A_takeArgument_64 : decode b_A_takeArgument 64 = .ok (.aload_n 0, 1) := by decide +kernel
theorem d_A_takeArgument_65 : decode b_A_takeArgument 65 = .ok (.invokevirtual 118, 3) := by decide +kernel
theorem d_A_takeArgument_68 : decode b_A_takeArgument 68 = .ok (.aload_n 0, 1) := by decide +kernel
theorem d_A_takeArgument_69 : decode b_A_takeArgument 69 = .ok (.getfield 43, 3) := by decide +kernel
theorem d_A_takeArgument_72 : decode b_A_takeArgument 72 = .ok (.ifCond .eq 4, 3) := by decide +kernel
theorem d_A_takeArgument_75 : decode b_A_takeArgument 75 = .ok (.return_, 1) := by decide +kernel
theorem d_A_takeArgument_76 : decode b_A_takeArgument 76 = .ok (.aload_n 0, 1) := by decide +kernel
theorem d_A_takeArgument_77 : decode b_A_takeArgument 77 = .ok (.getfield 60, 3) := by decide +kernel
theorem d_A_takeArgument_80 : decode b_A_takeArgument 80 = .ok (.getstatic 91, 3) := by decide +kernel
theorem d_A_takeArgument_83 : decode b_A_takeArgument 83 = .ok (.if_acmp .ne 14, 3) := by decide +kernel
theorem d_A_takeArgument_86 : decode b_A_takeArgument 86 = .ok (.aload_n 0, 1) := by decide +kernel
theorem d_A_takeArgument_87 : decode b_A_takeArgument 87 = .ok (.iload_n 1, 1) := by decide +kernel
theorem d_A_takeArgument_88 : decode b_A_takeArgument 88 = .ok (.invokestatic 121, 3) := by decide +kernel
theorem d_A_takeArgument_91 : decode b_A_takeArgument 91 = .ok (.invokevirtual 96, 3) := by decide +kernel
theorem d_A_takeArgument_94 : decode b_A_takeArgument 94 = .ok (.goto 29, 3) := by decide +kernel
theorem d_A_takeArgument_97 : decode b_A_takeArgument 97 = .ok (.aload_n 0, 1) := by decide +kernel
theorem d_A_takeArgument_98 : decode b_A_takeArgument 98 = .ok (.getfield 60, 3) := by decide +kernel
theorem d_A_takeArgument_101 : decode b_A_takeArgument 101 = .ok (.getstatic 126, 3) := by decide +kernel
theorem d_A_takeArgument_104 : decode b_A_takeArgument 104 = .ok (.if_acmp .ne 11, 3) := by decide +kernel
theorem d_A_takeArgument_107 : decode b_A_takeArgument 107 = .ok (.aload_n 0, 1) := by decide +kernel
theorem d_A_takeArgument_108 : decode b_A_takeArgument 108 = .ok (.iload_n 1, 1) := by decide +kernel
theorem d_A_takeArgument_109 : decode b_A_takeArgument 109 = .ok (.invokevirtual 129, 3) := by decide +kernel
theorem d_A_takeArgument_112 : decode b_A_takeArgument 112 = .ok (.goto 11, 3) := by decide +kernel
theorem d_A_takeArgument_115 : decode b_A_takeArgument 115 = .ok (.aload_n 0, 1) := by decide +kernel
theorem d_A_takeArgument_116 : decode b_A_takeArgument 116 = .ok (.iload_n 1, 1) := by decide +kernel
theorem d_A_takeArgument_117 : decode b_A_takeArgument 117 = .ok (.invokestatic 121, 3) := by decide +kernel
theorem d_A_takeArgument_120 : decode b_A_takeArgument 120 = .ok (.invokevirtual 132, 3) := by decide +kernel
theorem d_A_takeArgument_123 : decode b_A_takeArgument 123 = .ok (.return_, 1) := by decide +kernel
abbrev b_A_readW : ByteArray := prog_2_method_28_code
abbrev y_A_readW : MethodName := ⟨"SignMachine$Assembler", "readW", "()I"⟩
theorem h_A_readW : (y_A_readW).cls ≠ "java/lang/invoke/MethodHandle" ∧ (y_A_readW).cls ≠ "java/lang/invoke/VarHandle" ∧ (parseMethodDescriptor (y_A_readW).desc).map (fun d => d.parameters.length) = some 0 := by decide +kernel
theorem d_A_readW_0 : decode b_A_readW 0 = .ok (.iconst 0, 1) := by decide +kernel
theorem d_A_readW_1 : decode b_A_readW 1 = .ok (.istore_n 1, 1) := by decide +kernel
theorem d_A_readW_2 : decode b_A_readW 2 = .ok (.iconst 0, 1) := by decide +kernel
theorem d_A_readW_3 : decode b_A_readW 3 = .ok (.istore_n 2, 1) := by decide +kernel
theorem d_A_readW_4 : decode b_A_readW 4 = .ok (.iload_n 2, 1) := by decide +kernel
theorem d_A_readW_5 : decode b_A_readW 5 = .ok (.sipush 4000, 3) := by decide +kernel
theorem d_A_readW_8 : decode b_A_readW 8 = .ok (.if_icmp .ge 95, 3) := by decide +kernel
theorem d_A_readW_11 : decode b_A_readW 11 = .ok (.aload_n 0, 1) := by decide +kernel
theorem d_A_readW_12 : decode b_A_readW 12 = .ok (.invokevirtual 256, 3) := by decide +kernel
theorem d_A_readW_15 : decode b_A_readW 15 = .ok (.istore_n 3, 1) := by decide +kernel
theorem d_A_readW_16 : decode b_A_readW 16 = .ok (.iconst 5, 1) := by decide +kernel
theorem d_A_readW_17 : decode b_A_readW 17 = .ok (.istore 4, 2) := by decide +kernel
theorem d_A_readW_19 : decode b_A_readW 19 = .ok (.aload_n 0, 1) := by decide +kernel
theorem d_A_readW_20 : decode b_A_readW 20 = .ok (.getfield 43, 3) := by decide +kernel
theorem d_A_readW_23 : decode b_A_readW 23 = .ok (.ifCond .ne 25, 3) := by decide +kernel
theorem d_A_readW_26 : decode b_A_readW 26 = .ok (.aload_n 0, 1) := by decide +kernel
theorem d_A_readW_27 : decode b_A_readW 27 = .ok (.getfield 12, 3) := by decide +kernel
theorem d_A_readW_30 : decode b_A_readW 30 = .ok (.bipush 40, 2) := by decide +kernel
theorem d_A_readW_32 : decode b_A_readW 32 = .ok (.invokevirtual 240, 3) := by decide +kernel
theorem d_A_readW_35 : decode b_A_readW 35 = .ok (.ifCond .eq 13, 3) := by decide +kernel
theorem d_A_readW_38 : decode b_A_readW 38 = .ok (.aload_n 0, 1) := by decide +kernel
theorem d_A_readW_39 : decode b_A_readW 39 = .ok (.invokevirtual 256, 3) := by decide +kernel
theorem d_A_readW_42 : decode b_A_readW 42 = .ok (.istore 4, 2) := by decide +kernel
theorem d_A_readW_44 : decode b_A_readW 44 = .ok (.aload_n 0, 1) := by decide +kernel
theorem d_A_readW_45 : decode b_A_readW 45 = .ok (.invokevirtual 259, 3) := by decide +kernel
theorem d_A_readW_48 : decode b_A_readW 48 = .ok (.iload 4, 2) := by decide +kernel
theorem d_A_readW_50 : decode b_A_readW 50 = .ok (.invokestatic 292, 3) := by decide +kernel
theorem d_A_readW_53 : decode b_A_readW 53 = .ok (.ifCond .ne 9, 3) := by decide +kernel
theorem d_A_readW_56 : decode b_A_readW 56 = .ok (.aload_n 0, 1) := by decide +kernel
theorem d_A_readW_57 : decode b_A_readW 57 = .ok (.iconst 4, 1) := by decide +kernel
theorem d_A_readW_58 : decode b_A_readW 58 = .ok (.invokevirtual 84, 3) := by decide +kernel
theorem d_A_readW_61 : decode b_A_readW 61 = .ok (.pop, 1) := by decide +kernel
theorem d_A_readW_62 : decode b_A_readW 62 = .ok (.aload_n 0, 1) := by decide +kernel
theorem d_A_readW_63 : decode b_A_readW 63 = .ok (.getfield 43, 3) := by decide +kernel
theorem d_A_readW_66 : decode b_A_readW 66 = .ok (.ifCond .eq 5, 3) := by decide +kernel
theorem d_A_readW_69 : decode b_A_readW 69 = .ok (.iconst 0, 1) := by decide +kernel
theorem d_A_readW_70 : decode b_A_readW 70 = .ok (.ireturn, 1) := by decide +kernel
theorem d_A_readW_71 : decode b_A_readW 71 = .ok (.iload_n 1, 1) := by decide +kernel
theorem d_A_readW_72 : decode b_A_readW 72 = .ok (.iload_n 3, 1) := by decide +kernel
theorem d_A_readW_73 : decode b_A_readW 73 = .ok (.iconst 0, 1) := by decide +kernel
theorem d_A_readW_74 : decode b_A_readW 74 = .ok (.invokestatic 295, 3) := by decide +kernel
theorem d_A_readW_77 : decode b_A_readW 77 = .ok (.iload 4, 2) := by decide +kernel
theorem d_A_readW_79 : decode b_A_readW 79 = .ok (.invokestatic 298, 3) := by decide +kernel
theorem d_A_readW_82 : decode b_A_readW 82 = .ok (.istore_n 1, 1) := by decide +kernel
theorem d_A_readW_83 : decode b_A_readW 83 = .ok (.aload_n 0, 1) := by decide +kernel
theorem d_A_readW_84 : decode b_A_readW 84 = .ok (.getfield 12, 3) := by decide +kernel
theorem d_A_readW_87 : decode b_A_readW 87 = .ok (.bipush 44, 2) := by decide +kernel
theorem d_A_readW_89 : decode b_A_readW 89 = .ok (.invokevirtual 240, 3) := by decide +kernel
theorem d_A_readW_92 : decode b_A_readW 92 = .ok (.ifCond .ne 5, 3) := by decide +kernel
theorem d_A_readW_95 : decode b_A_readW 95 = .ok (.iload_n 1, 1) := by decide +kernel
theorem d_A_readW_96 : decode b_A_readW 96 = .ok (.ireturn, 1) := by decide +kernel
theorem d_A_readW_97 : decode b_A_readW 97 = .ok (.iinc 2 1, 3) := by decide +kernel
theorem d_A_readW_100 : decode b_A_readW 100 = .ok (.goto (-96), 3) := by decide +kernel
theorem d_A_readW_103 : decode b_A_readW 103 = .ok (.iload_n 1, 1) := by decide +kernel
theorem d_A_readW_104 : decode b_A_readW 104 = .ok (.ireturn, 1) := by decide +kernel
abbrev b_A_readExp : ByteArray := prog_2_method_29_code
abbrev y_A_readExp : MethodName := ⟨"SignMachine$Assembler", "readExp", "()I"⟩
theorem h_A_readExp : (y_A_readExp).cls ≠ "java/lang/invoke/MethodHandle" ∧ (y_A_readExp).cls ≠ "java/lang/invoke/VarHandle" ∧ (parseMethodDescriptor (y_A_readExp).desc).map (fun d => d.parameters.length) = some 0 := by decide +kernel
theorem d_A_readExp_0 : decode b_A_readExp 0 = .ok (.lconst 0, 1) := by decide +kernel
theorem d_A_readExp_1 : decode b_A_readExp 1 = .ok (.lstore_n 1, 1) := by decide +kernel
theorem d_A_readExp_2 : decode b_A_readExp 2 = .ok (.bipush 43, 2) := by decide +kernel
theorem d_A_readExp_4 : decode b_A_readExp 4 = .ok (.istore_n 3, 1) := by decide +kernel
theorem d_A_readExp_5 : decode b_A_readExp 5 = .ok (.aload_n 0, 1) := by decide +kernel
theorem d_A_readExp_6 : decode b_A_readExp 6 = .ok (.getfield 12, 3) := by decide +kernel
theorem d_A_readExp_9 : decode b_A_readExp 9 = .ok (.invokevirtual 80, 3) := by decide +kernel
theorem d_A_readExp_12 : decode b_A_readExp 12 = .ok (.bipush 43, 2) := by decide +kernel
theorem d_A_readExp_14 : decode b_A_readExp 14 = .ok (.if_icmp .eq 15, 3) := by decide +kernel
theorem d_A_readExp_17 : decode b_A_readExp 17 = .ok (.aload_n 0, 1) := by decide +kernel
theorem d_A_readExp_18 : decode b_A_readExp 18 = .ok (.getfield 12, 3) := by decide +kernel
theorem d_A_readExp_21 : decode b_A_readExp 21 = .ok (.invokevirtual 80, 3) := by decide +kernel
theorem d_A_readExp_24 : decode b_A_readExp 24 = .ok (.bipush 45, 2) := by decide +kernel
theorem d_A_readExp_26 : decode b_A_readExp 26 = .ok (.if_icmp .ne 18, 3) := by decide +kernel
theorem d_A_readExp_29 : decode b_A_readExp 29 = .ok (.aload_n 0, 1) := by decide +kernel
theorem d_A_readExp_30 : decode b_A_readExp 30 = .ok (.getfield 12, 3) := by decide +kernel
theorem d_A_readExp_33 : decode b_A_readExp 33 = .ok (.invokevirtual 80, 3) := by decide +kernel
theorem d_A_readExp_36 : decode b_A_readExp 36 = .ok (.istore_n 3, 1) := by decide +kernel
theorem d_A_readExp_37 : decode b_A_readExp 37 = .ok (.aload_n 0, 1) := by decide +kernel
theorem d_A_readExp_38 : decode b_A_readExp 38 = .ok (.getfield 12, 3) := by decide +kernel
theorem d_A_readExp_41 : decode b_A_readExp 41 = .ok (.invokevirtual 250, 3) := by decide +kernel
theorem d_A_readExp_44 : decode b_A_readExp 44 = .ok (.iconst 0, 1) := by decide +kernel
theorem d_A_readExp_45 : decode b_A_readExp 45 = .ok (.istore 4, 2) := by decide +kernel
theorem d_A_readExp_47 : decode b_A_readExp 47 = .ok (.iload 4, 2) := by decide +kernel
theorem d_A_readExp_49 : decode b_A_readExp 49 = .ok (.sipush 4000, 3) := by decide +kernel
theorem d_A_readExp_52 : decode b_A_readExp 52 = .ok (.if_icmp .ge 71, 3) := by decide +kernel
theorem d_A_readExp_55 : decode b_A_readExp 55 = .ok (.aload_n 0, 1) := by decide +kernel
theorem d_A_readExp_56 : decode b_A_readExp 56 = .ok (.getfield 12, 3) := by decide +kernel
theorem d_A_readExp_59 : decode b_A_readExp 59 = .ok (.invokevirtual 185, 3) := by decide +kernel
theorem d_A_readExp_62 : decode b_A_readExp 62 = .ok (.aload_n 0, 1) := by decide +kernel
theorem d_A_readExp_63 : decode b_A_readExp 63 = .ok (.invokevirtual 302, 3) := by decide +kernel
theorem d_A_readExp_66 : decode b_A_readExp 66 = .ok (.i2l, 1) := by decide +kernel
theorem d_A_readExp_67 : decode b_A_readExp 67 = .ok (.lstore 5, 2) := by decide +kernel
theorem d_A_readExp_69 : decode b_A_readExp 69 = .ok (.aload_n 0, 1) := by decide +kernel
theorem d_A_readExp_70 : decode b_A_readExp 70 = .ok (.getfield 43, 3) := by decide +kernel
theorem d_A_readExp_73 : decode b_A_readExp 73 = .ok (.ifCond .ne 12, 3) := by decide +kernel
theorem d_A_readExp_76 : decode b_A_readExp 76 = .ok (.aload_n 0, 1) := by decide +kernel
theorem d_A_readExp_77 : decode b_A_readExp 77 = .ok (.lload_n 1, 1) := by decide +kernel
theorem d_A_readExp_78 : decode b_A_readExp 78 = .ok (.iload_n 3, 1) := by decide +kernel
theorem d_A_readExp_79 : decode b_A_readExp 79 = .ok (.lload 5, 2) := by decide +kernel
theorem d_A_readExp_81 : decode b_A_readExp 81 = .ok (.invokevirtual 305, 3) := by decide +kernel
theorem d_A_readExp_84 : decode b_A_readExp 84 = .ok (.lstore_n 1, 1) := by decide +kernel
theorem d_A_readExp_85 : decode b_A_readExp 85 = .ok (.aload_n 0, 1) := by decide +kernel
theorem d_A_readExp_86 : decode b_A_readExp 86 = .ok (.getfield 12, 3) := by decide +kernel
theorem d_A_readExp_89 : decode b_A_readExp 89 = .ok (.invokevirtual 80, 3) := by decide +kernel
theorem d_A_readExp_92 : decode b_A_readExp 92 = .ok (.istore_n 3, 1) := by decide +kernel
theorem d_A_readExp_93 : decode b_A_readExp 93 = .ok (.aload_n 0, 1) := by decide +kernel
theorem d_A_readExp_94 : decode b_A_readExp 94 = .ok (.getfield 43, 3) := by decide +kernel
theorem d_A_readExp_97 : decode b_A_readExp 97 = .ok (.ifCond .ne 10, 3) := by decide +kernel
theorem d_A_readExp_100 : decode b_A_readExp 100 = .ok (.iload_n 3, 1) := by decide +kernel
theorem d_A_readExp_101 : decode b_A_readExp 101 = .ok (.invokestatic 285, 3) := by decide +kernel
theorem d_A_readExp_104 : decode b_A_readExp 104 = .ok (.ifCond .ne 6, 3) := by decide +kernel
theorem d_A_readExp_107 : decode b_A_readExp 107 = .ok (.lload_n 1, 1) := by decide +kernel
theorem d_A_readExp_108 : decode b_A_readExp 108 = .ok (.l2i, 1) := by decide +kernel
theorem d_A_readExp_109 : decode b_A_readExp 109 = .ok (.ireturn, 1) := by decide +kernel
theorem d_A_readExp_110 : decode b_A_readExp 110 = .ok (.aload_n 0, 1) := by decide +kernel
theorem d_A_readExp_111 : decode b_A_readExp 111 = .ok (.getfield 12, 3) := by decide +kernel
theorem d_A_readExp_114 : decode b_A_readExp 114 = .ok (.invokevirtual 250, 3) := by decide +kernel
theorem d_A_readExp_117 : decode b_A_readExp 117 = .ok (.iinc 4 1, 3) := by decide +kernel
theorem d_A_readExp_120 : decode b_A_readExp 120 = .ok (.goto (-73), 3) := by decide +kernel
theorem d_A_readExp_123 : decode b_A_readExp 123 = .ok (.lload_n 1, 1) := by decide +kernel
theorem d_A_readExp_124 : decode b_A_readExp 124 = .ok (.l2i, 1) := by decide +kernel
theorem d_A_readExp_125 : decode b_A_readExp 125 = .ok (.ireturn, 1) := by decide +kernel
abbrev b_R_skip : ByteArray := prog_7_method_9_code
abbrev y_R_skip : MethodName := ⟨"SignMachine$Source", "skip", "()V"⟩
theorem h_R_skip : (y_R_skip).cls ≠ "java/lang/invoke/MethodHandle" ∧ (y_R_skip).cls ≠ "java/lang/invoke/VarHandle" ∧ (parseMethodDescriptor (y_R_skip).desc).map (fun d => d.parameters.length) = some 0 := by decide +kernel
theorem d_R_skip_0 : decode b_R_skip 0 = .ok (.aload_n 0, 1) := by decide +kernel
theorem d_R_skip_1 : decode b_R_skip 1 = .ok (.dup, 1) := by decide +kernel
theorem d_R_skip_2 : decode b_R_skip 2 = .ok (.getfield 23, 3) := by decide +kernel
theorem d_R_skip_5 : decode b_R_skip 5 = .ok (.iconst 1, 1) := by decide +kernel
theorem d_R_skip_6 : decode b_R_skip 6 = .ok (.iadd, 1) := by decide +kernel
theorem d_R_skip_7 : decode b_R_skip 7 = .ok (.putfield 23, 3) := by decide +kernel
theorem d_R_skip_10 : decode b_R_skip 10 = .ok (.return_, 1) := by decide +kernel
abbrev b_A_atomValue : ByteArray := prog_2_method_32_code
abbrev y_A_atomValue : MethodName := ⟨"SignMachine$Assembler", "atomValue", "()I"⟩
theorem h_A_atomValue : (y_A_atomValue).cls ≠ "java/lang/invoke/MethodHandle" ∧ (y_A_atomValue).cls ≠ "java/lang/invoke/VarHandle" ∧ (parseMethodDescriptor (y_A_atomValue).desc).map (fun d => d.parameters.length) = some 0 := by decide +kernel
theorem d_A_atomValue_0 : decode b_A_atomValue 0 = .ok (.aload_n 0, 1) := by decide +kernel
theorem d_A_atomValue_1 : decode b_A_atomValue 1 = .ok (.getfield 12, 3) := by decide +kernel
theorem d_A_atomValue_4 : decode b_A_atomValue 4 = .ok (.getfield 188, 3) := by decide +kernel
theorem d_A_atomValue_7 : decode b_A_atomValue 7 = .ok (.tableswitch 41 1 3 #[25, 38, 33], 25) := by decide +kernel
theorem d_A_atomValue_32 : decode b_A_atomValue 32 = .ok (.aload_n 0, 1) := by decide +kernel
theorem d_A_atomValue_33 : decode b_A_atomValue 33 = .ok (.getfield 12, 3) := by decide +kernel
theorem d_A_atomValue_36 : decode b_A_atomValue 36 = .ok (.getfield 316, 3) := by decide +kernel
theorem d_A_atomValue_39 : decode b_A_atomValue 39 = .ok (.ireturn, 1) := by decide +kernel
theorem d_A_atomValue_40 : decode b_A_atomValue 40 = .ok (.aload_n 0, 1) := by decide +kernel
theorem d_A_atomValue_41 : decode b_A_atomValue 41 = .ok (.getfield 49, 3) := by decide +kernel
theorem d_A_atomValue_44 : decode b_A_atomValue 44 = .ok (.ireturn, 1) := by decide +kernel
theorem d_A_atomValue_45 : decode b_A_atomValue 45 = .ok (.goto 9, 3) := by decide +kernel
theorem d_A_atomValue_48 : decode b_A_atomValue 48 = .ok (.aload_n 0, 1) := by decide +kernel
theorem d_A_atomValue_49 : decode b_A_atomValue 49 = .ok (.iconst 1, 1) := by decide +kernel
theorem d_A_atomValue_50 : decode b_A_atomValue 50 = .ok (.invokevirtual 84, 3) := by decide +kernel
theorem d_A_atomValue_53 : decode b_A_atomValue 53 = .ok (.ireturn, 1) := by decide +kernel
theorem d_A_atomValue_54 : decode b_A_atomValue 54 = .ok (.aload_n 0, 1) := by decide +kernel
theorem d_A_atomValue_55 : decode b_A_atomValue 55 = .ok (.getfield 12, 3) := by decide +kernel
theorem d_A_atomValue_58 : decode b_A_atomValue 58 = .ok (.getfield 191, 3) := by decide +kernel
theorem d_A_atomValue_61 : decode b_A_atomValue 61 = .ok (.iconst 2, 1) := by decide +kernel
theorem d_A_atomValue_62 : decode b_A_atomValue 62 = .ok (.invokestatic 135, 3) := by decide +kernel
theorem d_A_atomValue_65 : decode b_A_atomValue 65 = .ok (.istore_n 1, 1) := by decide +kernel
theorem d_A_atomValue_66 : decode b_A_atomValue 66 = .ok (.iload_n 1, 1) := by decide +kernel
theorem d_A_atomValue_67 : decode b_A_atomValue 67 = .ok (.ifCond .lt 31, 3) := by decide +kernel
theorem d_A_atomValue_70 : decode b_A_atomValue 70 = .ok (.aload_n 0, 1) := by decide +kernel
theorem d_A_atomValue_71 : decode b_A_atomValue 71 = .ok (.getfield 21, 3) := by decide +kernel
theorem d_A_atomValue_74 : decode b_A_atomValue 74 = .ok (.iload_n 1, 1) := by decide +kernel
theorem d_A_atomValue_75 : decode b_A_atomValue 75 = .ok (.invokevirtual 318, 3) := by decide +kernel
theorem d_A_atomValue_78 : decode b_A_atomValue 78 = .ok (.ifCond .eq 14, 3) := by decide +kernel
theorem d_A_atomValue_81 : decode b_A_atomValue 81 = .ok (.aload_n 0, 1) := by decide +kernel
theorem d_A_atomValue_82 : decode b_A_atomValue 82 = .ok (.getfield 21, 3) := by decide +kernel
theorem d_A_atomValue_85 : decode b_A_atomValue 85 = .ok (.iload_n 1, 1) := by decide +kernel
theorem d_A_atomValue_86 : decode b_A_atomValue 86 = .ok (.invokevirtual 321, 3) := by decide +kernel
theorem d_A_atomValue_89 : decode b_A_atomValue 89 = .ok (.goto 8, 3) := by decide +kernel
theorem d_A_atomValue_92 : decode b_A_atomValue 92 = .ok (.aload_n 0, 1) := by decide +kernel
theorem d_A_atomValue_93 : decode b_A_atomValue 93 = .ok (.iconst 3, 1) := by decide +kernel
theorem d_A_atomValue_94 : decode b_A_atomValue 94 = .ok (.invokevirtual 84, 3) := by decide +kernel
theorem d_A_atomValue_97 : decode b_A_atomValue 97 = .ok (.ireturn, 1) := by decide +kernel
theorem d_A_atomValue_98 : decode b_A_atomValue 98 = .ok (.aload_n 0, 1) := by decide +kernel
theorem d_A_atomValue_99 : decode b_A_atomValue 99 = .ok (.getfield 21, 3) := by decide +kernel
theorem d_A_atomValue_102 : decode b_A_atomValue 102 = .ok (.aload_n 0, 1) := by decide +kernel
theorem d_A_atomValue_103 : decode b_A_atomValue 103 = .ok (.getfield 12, 3) := by decide +kernel
theorem d_A_atomValue_106 : decode b_A_atomValue 106 = .ok (.getfield 191, 3) := by decide +kernel
theorem d_A_atomValue_109 : decode b_A_atomValue 109 = .ok (.invokevirtual 212, 3) := by decide +kernel
theorem d_A_atomValue_112 : decode b_A_atomValue 112 = .ok (.istore_n 2, 1) := by decide +kernel
theorem d_A_atomValue_113 : decode b_A_atomValue 113 = .ok (.aload_n 0, 1) := by decide +kernel
theorem d_A_atomValue_114 : decode b_A_atomValue 114 = .ok (.getfield 21, 3) := by decide +kernel
theorem d_A_atomValue_117 : decode b_A_atomValue 117 = .ok (.iload_n 2, 1) := by decide +kernel
theorem d_A_atomValue_118 : decode b_A_atomValue 118 = .ok (.invokevirtual 215, 3) := by decide +kernel
theorem d_A_atomValue_121 : decode b_A_atomValue 121 = .ok (.ifCond .eq 14, 3) := by decide +kernel
theorem d_A_atomValue_124 : decode b_A_atomValue 124 = .ok (.aload_n 0, 1) := by decide +kernel
theorem d_A_atomValue_125 : decode b_A_atomValue 125 = .ok (.getfield 21, 3) := by decide +kernel
theorem d_A_atomValue_128 : decode b_A_atomValue 128 = .ok (.iload_n 2, 1) := by decide +kernel
theorem d_A_atomValue_129 : decode b_A_atomValue 129 = .ok (.invokevirtual 161, 3) := by decide +kernel
theorem d_A_atomValue_132 : decode b_A_atomValue 132 = .ok (.goto 8, 3) := by decide +kernel
theorem d_A_atomValue_135 : decode b_A_atomValue 135 = .ok (.aload_n 0, 1) := by decide +kernel
theorem d_A_atomValue_136 : decode b_A_atomValue 136 = .ok (.iconst 3, 1) := by decide +kernel
theorem d_A_atomValue_137 : decode b_A_atomValue 137 = .ok (.invokevirtual 84, 3) := by decide +kernel
theorem d_A_atomValue_140 : decode b_A_atomValue 140 = .ok (.ireturn, 1) := by decide +kernel
abbrev b_N_isLocalTold : ByteArray := prog_4_method_14_code
abbrev y_N_isLocalTold : MethodName := ⟨"SignMachine$Names", "isLocalTold", "(I)Z"⟩
theorem h_N_isLocalTold : (y_N_isLocalTold).cls ≠ "java/lang/invoke/MethodHandle" ∧ (y_N_isLocalTold).cls ≠ "java/lang/invoke/VarHandle" ∧ (parseMethodDescriptor (y_N_isLocalTold).desc).map (fun d => d.parameters.length) = some 1 := by decide +kernel
theorem d_N_isLocalTold_0 : decode b_N_isLocalTold 0 = .ok (.iload_n 1, 1) := by decide +kernel
theorem d_N_isLocalTold_1 : decode b_N_isLocalTold 1 = .ok (.ifCond .lt 22, 3) := by decide +kernel
theorem d_N_isLocalTold_4 : decode b_N_isLocalTold 4 = .ok (.iload_n 1, 1) := by decide +kernel
theorem d_N_isLocalTold_5 : decode b_N_isLocalTold 5 = .ok (.bipush 10, 2) := by decide +kernel
theorem d_N_isLocalTold_7 : decode b_N_isLocalTold 7 = .ok (.if_icmp .ge 16, 3) := by decide +kernel
theorem d_N_isLocalTold_10 : decode b_N_isLocalTold 10 = .ok (.aload_n 0, 1) := by decide +kernel
theorem d_N_isLocalTold_11 : decode b_N_isLocalTold 11 = .ok (.getfield 26, 3) := by decide +kernel
theorem d_N_isLocalTold_14 : decode b_N_isLocalTold 14 = .ok (.iload_n 1, 1) := by decide +kernel
theorem d_N_isLocalTold_15 : decode b_N_isLocalTold 15 = .ok (.baload, 1) := by decide +kernel
theorem d_N_isLocalTold_16 : decode b_N_isLocalTold 16 = .ok (.ifCond .eq 7, 3) := by decide +kernel
theorem d_N_isLocalTold_19 : decode b_N_isLocalTold 19 = .ok (.iconst 1, 1) := by decide +kernel
theorem d_N_isLocalTold_20 : decode b_N_isLocalTold 20 = .ok (.goto 4, 3) := by decide +kernel
theorem d_N_isLocalTold_23 : decode b_N_isLocalTold 23 = .ok (.iconst 0, 1) := by decide +kernel
theorem d_N_isLocalTold_24 : decode b_N_isLocalTold 24 = .ok (.ireturn, 1) := by decide +kernel
abbrev b_N_localValue : ByteArray := prog_4_method_15_code
abbrev y_N_localValue : MethodName := ⟨"SignMachine$Names", "localValue", "(I)I"⟩
theorem h_N_localValue : (y_N_localValue).cls ≠ "java/lang/invoke/MethodHandle" ∧ (y_N_localValue).cls ≠ "java/lang/invoke/VarHandle" ∧ (parseMethodDescriptor (y_N_localValue).desc).map (fun d => d.parameters.length) = some 1 := by decide +kernel
theorem d_N_localValue_0 : decode b_N_localValue 0 = .ok (.iload_n 1, 1) := by decide +kernel
theorem d_N_localValue_1 : decode b_N_localValue 1 = .ok (.ifCond .lt 18, 3) := by decide +kernel
theorem d_N_localValue_4 : decode b_N_localValue 4 = .ok (.iload_n 1, 1) := by decide +kernel
theorem d_N_localValue_5 : decode b_N_localValue 5 = .ok (.bipush 10, 2) := by decide +kernel
theorem d_N_localValue_7 : decode b_N_localValue 7 = .ok (.if_icmp .ge 12, 3) := by decide +kernel
theorem d_N_localValue_10 : decode b_N_localValue 10 = .ok (.aload_n 0, 1) := by decide +kernel
theorem d_N_localValue_11 : decode b_N_localValue 11 = .ok (.getfield 23, 3) := by decide +kernel
theorem d_N_localValue_14 : decode b_N_localValue 14 = .ok (.iload_n 1, 1) := by decide +kernel
theorem d_N_localValue_15 : decode b_N_localValue 15 = .ok (.iaload, 1) := by decide +kernel
theorem d_N_localValue_16 : decode b_N_localValue 16 = .ok (.goto 4, 3) := by decide +kernel
theorem d_N_localValue_19 : decode b_N_localValue 19 = .ok (.iconst 0, 1) := by decide +kernel
theorem d_N_localValue_20 : decode b_N_localValue 20 = .ok (.ireturn, 1) := by decide +kernel
abbrev b_A_reckon : ByteArray := prog_2_method_31_code
abbrev y_A_reckon : MethodName := ⟨"SignMachine$Assembler", "reckon", "(JIJ)J"⟩
theorem h_A_reckon : (y_A_reckon).cls ≠ "java/lang/invoke/MethodHandle" ∧ (y_A_reckon).cls ≠ "java/lang/invoke/VarHandle" ∧ (parseMethodDescriptor (y_A_reckon).desc).map (fun d => d.parameters.length) = some 3 := by decide +kernel
theorem d_A_reckon_0 : decode b_A_reckon 0 = .ok (.iload_n 3, 1) := by decide +kernel
theorem d_A_reckon_1 : decode b_A_reckon 1 = .ok (.lookupswitch 83 #[(42, 61), (43, 43), (45, 52), (58, 70)], 43) := by decide +kernel
theorem d_A_reckon_44 : decode b_A_reckon 44 = .ok (.lload_n 1, 1) := by decide +kernel
theorem d_A_reckon_45 : decode b_A_reckon 45 = .ok (.lload 4, 2) := by decide +kernel
theorem d_A_reckon_47 : decode b_A_reckon 47 = .ok (.ladd, 1) := by decide +kernel
theorem d_A_reckon_48 : decode b_A_reckon 48 = .ok (.lstore 6, 2) := by decide +kernel
theorem d_A_reckon_50 : decode b_A_reckon 50 = .ok (.goto 54, 3) := by decide +kernel
theorem d_A_reckon_53 : decode b_A_reckon 53 = .ok (.lload_n 1, 1) := by decide +kernel
theorem d_A_reckon_54 : decode b_A_reckon 54 = .ok (.lload 4, 2) := by decide +kernel
theorem d_A_reckon_56 : decode b_A_reckon 56 = .ok (.lsub, 1) := by decide +kernel
theorem d_A_reckon_57 : decode b_A_reckon 57 = .ok (.lstore 6, 2) := by decide +kernel
theorem d_A_reckon_59 : decode b_A_reckon 59 = .ok (.goto 45, 3) := by decide +kernel
theorem d_A_reckon_62 : decode b_A_reckon 62 = .ok (.lload_n 1, 1) := by decide +kernel
theorem d_A_reckon_63 : decode b_A_reckon 63 = .ok (.lload 4, 2) := by decide +kernel
theorem d_A_reckon_65 : decode b_A_reckon 65 = .ok (.lmul, 1) := by decide +kernel
theorem d_A_reckon_66 : decode b_A_reckon 66 = .ok (.lstore 6, 2) := by decide +kernel
theorem d_A_reckon_68 : decode b_A_reckon 68 = .ok (.goto 36, 3) := by decide +kernel
theorem d_A_reckon_71 : decode b_A_reckon 71 = .ok (.ldc2_w 309, 3) := by decide +kernel
theorem d_A_reckon_74 : decode b_A_reckon 74 = .ok (.lload_n 1, 1) := by decide +kernel
theorem d_A_reckon_75 : decode b_A_reckon 75 = .ok (.lmul, 1) := by decide +kernel
theorem d_A_reckon_76 : decode b_A_reckon 76 = .ok (.lload 4, 2) := by decide +kernel
theorem d_A_reckon_78 : decode b_A_reckon 78 = .ok (.ladd, 1) := by decide +kernel
theorem d_A_reckon_79 : decode b_A_reckon 79 = .ok (.lstore 6, 2) := by decide +kernel
theorem d_A_reckon_81 : decode b_A_reckon 81 = .ok (.goto 23, 3) := by decide +kernel
theorem d_A_reckon_84 : decode b_A_reckon 84 = .ok (.lload 4, 2) := by decide +kernel
theorem d_A_reckon_86 : decode b_A_reckon 86 = .ok (.lconst 0, 1) := by decide +kernel
theorem d_A_reckon_87 : decode b_A_reckon 87 = .ok (.lcmp, 1) := by decide +kernel
theorem d_A_reckon_88 : decode b_A_reckon 88 = .ok (.ifCond .ne 10, 3) := by decide +kernel
theorem d_A_reckon_91 : decode b_A_reckon 91 = .ok (.aload_n 0, 1) := by decide +kernel
theorem d_A_reckon_92 : decode b_A_reckon 92 = .ok (.iconst 4, 1) := by decide +kernel
theorem d_A_reckon_93 : decode b_A_reckon 93 = .ok (.invokevirtual 84, 3) := by decide +kernel
theorem d_A_reckon_96 : decode b_A_reckon 96 = .ok (.i2l, 1) := by decide +kernel
theorem d_A_reckon_97 : decode b_A_reckon 97 = .ok (.lreturn, 1) := by decide +kernel
theorem d_A_reckon_98 : decode b_A_reckon 98 = .ok (.lload_n 1, 1) := by decide +kernel
theorem d_A_reckon_99 : decode b_A_reckon 99 = .ok (.lload 4, 2) := by decide +kernel
theorem d_A_reckon_101 : decode b_A_reckon 101 = .ok (.ldiv, 1) := by decide +kernel
theorem d_A_reckon_102 : decode b_A_reckon 102 = .ok (.lstore 6, 2) := by decide +kernel
theorem d_A_reckon_104 : decode b_A_reckon 104 = .ok (.lload 6, 2) := by decide +kernel
theorem d_A_reckon_106 : decode b_A_reckon 106 = .ok (.invokestatic 311, 3) := by decide +kernel
theorem d_A_reckon_109 : decode b_A_reckon 109 = .ok (.ldc2_w 314, 3) := by decide +kernel
theorem d_A_reckon_112 : decode b_A_reckon 112 = .ok (.lcmp, 1) := by decide +kernel
theorem d_A_reckon_113 : decode b_A_reckon 113 = .ok (.ifCond .le 12, 3) := by decide +kernel
theorem d_A_reckon_116 : decode b_A_reckon 116 = .ok (.aload_n 0, 1) := by decide +kernel
theorem d_A_reckon_117 : decode b_A_reckon 117 = .ok (.iconst 4, 1) := by decide +kernel
theorem d_A_reckon_118 : decode b_A_reckon 118 = .ok (.invokevirtual 84, 3) := by decide +kernel
theorem d_A_reckon_121 : decode b_A_reckon 121 = .ok (.i2l, 1) := by decide +kernel
theorem d_A_reckon_122 : decode b_A_reckon 122 = .ok (.goto 5, 3) := by decide +kernel
theorem d_A_reckon_125 : decode b_A_reckon 125 = .ok (.lload 6, 2) := by decide +kernel
theorem d_A_reckon_127 : decode b_A_reckon 127 = .ok (.lreturn, 1) := by decide +kernel
abbrev b_A_isOperator : ByteArray := prog_2_method_30_code
abbrev y_A_isOperator : MethodName := ⟨"SignMachine$Assembler", "isOperator", "(I)Z"⟩
theorem h_A_isOperator : (y_A_isOperator).cls ≠ "java/lang/invoke/MethodHandle" ∧ (y_A_isOperator).cls ≠ "java/lang/invoke/VarHandle" ∧ (parseMethodDescriptor (y_A_isOperator).desc).map (fun d => d.parameters.length) = some 1 := by decide +kernel
theorem d_A_isOperator_0 : decode b_A_isOperator 0 = .ok (.iload_n 0, 1) := by decide +kernel
theorem d_A_isOperator_1 : decode b_A_isOperator 1 = .ok (.bipush 43, 2) := by decide +kernel
theorem d_A_isOperator_3 : decode b_A_isOperator 3 = .ok (.if_icmp .eq 27, 3) := by decide +kernel
theorem d_A_isOperator_6 : decode b_A_isOperator 6 = .ok (.iload_n 0, 1) := by decide +kernel
theorem d_A_isOperator_7 : decode b_A_isOperator 7 = .ok (.bipush 45, 2) := by decide +kernel
theorem d_A_isOperator_9 : decode b_A_isOperator 9 = .ok (.if_icmp .eq 21, 3) := by decide +kernel
theorem d_A_isOperator_12 : decode b_A_isOperator 12 = .ok (.iload_n 0, 1) := by decide +kernel
theorem d_A_isOperator_13 : decode b_A_isOperator 13 = .ok (.bipush 42, 2) := by decide +kernel
theorem d_A_isOperator_15 : decode b_A_isOperator 15 = .ok (.if_icmp .eq 15, 3) := by decide +kernel
theorem d_A_isOperator_18 : decode b_A_isOperator 18 = .ok (.iload_n 0, 1) := by decide +kernel
theorem d_A_isOperator_19 : decode b_A_isOperator 19 = .ok (.bipush 47, 2) := by decide +kernel
theorem d_A_isOperator_21 : decode b_A_isOperator 21 = .ok (.if_icmp .eq 9, 3) := by decide +kernel
theorem d_A_isOperator_24 : decode b_A_isOperator 24 = .ok (.iload_n 0, 1) := by decide +kernel
theorem d_A_isOperator_25 : decode b_A_isOperator 25 = .ok (.bipush 58, 2) := by decide +kernel
theorem d_A_isOperator_27 : decode b_A_isOperator 27 = .ok (.if_icmp .ne 7, 3) := by decide +kernel
theorem d_A_isOperator_30 : decode b_A_isOperator 30 = .ok (.iconst 1, 1) := by decide +kernel
theorem d_A_isOperator_31 : decode b_A_isOperator 31 = .ok (.goto 4, 3) := by decide +kernel
theorem d_A_isOperator_34 : decode b_A_isOperator 34 = .ok (.iconst 0, 1) := by decide +kernel
theorem d_A_isOperator_35 : decode b_A_isOperator 35 = .ok (.ireturn, 1) := by decide +kernel
abbrev b_R_takes : ByteArray := prog_7_method_10_code
abbrev y_R_takes : MethodName := ⟨"SignMachine$Source", "takes", "(I)Z"⟩
theorem h_R_takes : (y_R_takes).cls ≠ "java/lang/invoke/MethodHandle" ∧ (y_R_takes).cls ≠ "java/lang/invoke/VarHandle" ∧ (parseMethodDescriptor (y_R_takes).desc).map (fun d => d.parameters.length) = some 1 := by decide +kernel
theorem d_R_takes_0 : decode b_R_takes 0 = .ok (.aload_n 0, 1) := by decide +kernel
theorem d_R_takes_1 : decode b_R_takes 1 = .ok (.invokevirtual 33, 3) := by decide +kernel
theorem d_R_takes_4 : decode b_R_takes 4 = .ok (.iload_n 1, 1) := by decide +kernel
theorem d_R_takes_5 : decode b_R_takes 5 = .ok (.if_icmp .eq 5, 3) := by decide +kernel
theorem d_R_takes_8 : decode b_R_takes 8 = .ok (.iconst 0, 1) := by decide +kernel
theorem d_R_takes_9 : decode b_R_takes 9 = .ok (.ireturn, 1) := by decide +kernel
theorem d_R_takes_10 : decode b_R_takes 10 = .ok (.aload_n 0, 1) := by decide +kernel
theorem d_R_takes_11 : decode b_R_takes 11 = .ok (.dup, 1) := by decide +kernel
theorem d_R_takes_12 : decode b_R_takes 12 = .ok (.getfield 23, 3) := by decide +kernel
theorem d_R_takes_15 : decode b_R_takes 15 = .ok (.iconst 1, 1) := by decide +kernel
theorem d_R_takes_16 : decode b_R_takes 16 = .ok (.iadd, 1) := by decide +kernel
theorem d_R_takes_17 : decode b_R_takes 17 = .ok (.putfield 23, 3) := by decide +kernel
theorem d_R_takes_20 : decode b_R_takes 20 = .ok (.iconst 1, 1) := by decide +kernel
theorem d_R_takes_21 : decode b_R_takes 21 = .ok (.ireturn, 1) := by decide +kernel
abbrev b_A_expectBracket : ByteArray := prog_2_method_27_code
abbrev y_A_expectBracket : MethodName := ⟨"SignMachine$Assembler", "expectBracket", "()V"⟩
theorem h_A_expectBracket : (y_A_expectBracket).cls ≠ "java/lang/invoke/MethodHandle" ∧ (y_A_expectBracket).cls ≠ "java/lang/invoke/VarHandle" ∧ (parseMethodDescriptor (y_A_expectBracket).desc).map (fun d => d.parameters.length) = some 0 := by decide +kernel
theorem d_A_expectBracket_0 : decode b_A_expectBracket 0 = .ok (.aload_n 0, 1) := by decide +kernel
theorem d_A_expectBracket_1 : decode b_A_expectBracket 1 = .ok (.getfield 12, 3) := by decide +kernel
theorem d_A_expectBracket_4 : decode b_A_expectBracket 4 = .ok (.bipush 41, 2) := by decide +kernel
theorem d_A_expectBracket_6 : decode b_A_expectBracket 6 = .ok (.invokevirtual 240, 3) := by decide +kernel
theorem d_A_expectBracket_9 : decode b_A_expectBracket 9 = .ok (.ifCond .ne 9, 3) := by decide +kernel
theorem d_A_expectBracket_12 : decode b_A_expectBracket 12 = .ok (.aload_n 0, 1) := by decide +kernel
theorem d_A_expectBracket_13 : decode b_A_expectBracket 13 = .ok (.iconst 1, 1) := by decide +kernel
theorem d_A_expectBracket_14 : decode b_A_expectBracket 14 = .ok (.invokevirtual 84, 3) := by decide +kernel
theorem d_A_expectBracket_17 : decode b_A_expectBracket 17 = .ok (.pop, 1) := by decide +kernel
theorem d_A_expectBracket_18 : decode b_A_expectBracket 18 = .ok (.return_, 1) := by decide +kernel
abbrev b_A_expectEnd : ByteArray := prog_2_method_26_code
abbrev y_A_expectEnd : MethodName := ⟨"SignMachine$Assembler", "expectEnd", "()V"⟩
theorem h_A_expectEnd : (y_A_expectEnd).cls ≠ "java/lang/invoke/MethodHandle" ∧ (y_A_expectEnd).cls ≠ "java/lang/invoke/VarHandle" ∧ (parseMethodDescriptor (y_A_expectEnd).desc).map (fun d => d.parameters.length) = some 0 := by decide +kernel
theorem d_A_expectEnd_0 : decode b_A_expectEnd 0 = .ok (.aload_n 0, 1) := by decide +kernel
theorem d_A_expectEnd_1 : decode b_A_expectEnd 1 = .ok (.getfield 12, 3) := by decide +kernel
theorem d_A_expectEnd_4 : decode b_A_expectEnd 4 = .ok (.invokevirtual 80, 3) := by decide +kernel
theorem d_A_expectEnd_7 : decode b_A_expectEnd 7 = .ok (.istore_n 1, 1) := by decide +kernel
theorem d_A_expectEnd_8 : decode b_A_expectEnd 8 = .ok (.iload_n 1, 1) := by decide +kernel
theorem d_A_expectEnd_9 : decode b_A_expectEnd 9 = .ok (.iconst (-1), 1) := by decide +kernel
theorem d_A_expectEnd_10 : decode b_A_expectEnd 10 = .ok (.if_icmp .eq 15, 3) := by decide +kernel
theorem d_A_expectEnd_13 : decode b_A_expectEnd 13 = .ok (.iload_n 1, 1) := by decide +kernel
theorem d_A_expectEnd_14 : decode b_A_expectEnd 14 = .ok (.bipush 32, 2) := by decide +kernel
theorem d_A_expectEnd_16 : decode b_A_expectEnd 16 = .ok (.if_icmp .eq 9, 3) := by decide +kernel
theorem d_A_expectEnd_19 : decode b_A_expectEnd 19 = .ok (.aload_n 0, 1) := by decide +kernel
theorem d_A_expectEnd_20 : decode b_A_expectEnd 20 = .ok (.iconst 1, 1) := by decide +kernel
theorem d_A_expectEnd_21 : decode b_A_expectEnd 21 = .ok (.invokevirtual 84, 3) := by decide +kernel
theorem d_A_expectEnd_24 : decode b_A_expectEnd 24 = .ok (.pop, 1) := by decide +kernel
theorem d_A_expectEnd_25 : decode b_A_expectEnd 25 = .ok (.return_, 1) := by decide +kernel
abbrev b_A_takePlace : ByteArray := prog_2_method_16_code
abbrev y_A_takePlace : MethodName := ⟨"SignMachine$Assembler", "takePlace", "(I)V"⟩
theorem h_A_takePlace : (y_A_takePlace).cls ≠ "java/lang/invoke/MethodHandle" ∧ (y_A_takePlace).cls ≠ "java/lang/invoke/VarHandle" ∧ (parseMethodDescriptor (y_A_takePlace).desc).map (fun d => d.parameters.length) = some 1 := by decide +kernel
theorem d_A_takePlace_0 : decode b_A_takePlace 0 = .ok (.iload_n 1, 1) := by decide +kernel
theorem d_A_takePlace_1 : decode b_A_takePlace 1 = .ok (.invokestatic 225, 3) := by decide +kernel
theorem d_A_takePlace_4 : decode b_A_takePlace 4 = .ok (.ifCond .ne 10, 3) := by decide +kernel
theorem d_A_takePlace_7 : decode b_A_takePlace 7 = .ok (.aload_n 0, 1) := by decide +kernel
theorem d_A_takePlace_8 : decode b_A_takePlace 8 = .ok (.iconst 4, 1) := by decide +kernel
theorem d_A_takePlace_9 : decode b_A_takePlace 9 = .ok (.invokevirtual 84, 3) := by decide +kernel
theorem d_A_takePlace_12 : decode b_A_takePlace 12 = .ok (.pop, 1) := by decide +kernel
theorem d_A_takePlace_13 : decode b_A_takePlace 13 = .ok (.return_, 1) := by decide +kernel
theorem d_A_takePlace_14 : decode b_A_takePlace 14 = .ok (.aload_n 0, 1) := by decide +kernel
theorem d_A_takePlace_15 : decode b_A_takePlace 15 = .ok (.getfield 60, 3) := by decide +kernel
theorem d_A_takePlace_18 : decode b_A_takePlace 18 = .ok (.getstatic 230, 3) := by decide +kernel
theorem d_A_takePlace_21 : decode b_A_takePlace 21 = .ok (.if_acmp .ne 9, 3) := by decide +kernel
theorem d_A_takePlace_24 : decode b_A_takePlace 24 = .ok (.aload_n 0, 1) := by decide +kernel
theorem d_A_takePlace_25 : decode b_A_takePlace 25 = .ok (.iload_n 1, 1) := by decide +kernel
theorem d_A_takePlace_26 : decode b_A_takePlace 26 = .ok (.putfield 49, 3) := by decide +kernel
theorem d_A_takePlace_29 : decode b_A_takePlace 29 = .ok (.return_, 1) := by decide +kernel
theorem d_A_takePlace_30 : decode b_A_takePlace 30 = .ok (.aload_n 0, 1) := by decide +kernel
theorem d_A_takePlace_31 : decode b_A_takePlace 31 = .ok (.iload_n 1, 1) := by decide +kernel
theorem d_A_takePlace_32 : decode b_A_takePlace 32 = .ok (.putfield 233, 3) := by decide +kernel
theorem d_A_takePlace_35 : decode b_A_takePlace 35 = .ok (.aload_n 0, 1) := by decide +kernel
theorem d_A_takePlace_36 : decode b_A_takePlace 36 = .ok (.iconst 1, 1) := by decide +kernel
theorem d_A_takePlace_37 : decode b_A_takePlace 37 = .ok (.putfield 52, 3) := by decide +kernel
theorem d_A_takePlace_40 : decode b_A_takePlace 40 = .ok (.aload_n 0, 1) := by decide +kernel
theorem d_A_takePlace_41 : decode b_A_takePlace 41 = .ok (.aload_n 0, 1) := by decide +kernel
theorem d_A_takePlace_42 : decode b_A_takePlace 42 = .ok (.getfield 49, 3) := by decide +kernel
theorem d_A_takePlace_45 : decode b_A_takePlace 45 = .ok (.putfield 32, 3) := by decide +kernel
theorem d_A_takePlace_48 : decode b_A_takePlace 48 = .ok (.aload_n 0, 1) := by decide +kernel
theorem d_A_takePlace_49 : decode b_A_takePlace 49 = .ok (.invokevirtual 236, 3) := by decide +kernel
theorem d_A_takePlace_52 : decode b_A_takePlace 52 = .ok (.return_, 1) := by decide +kernel
abbrev b_A_putPending : ByteArray := prog_2_method_17_code
abbrev y_A_putPending : MethodName := ⟨"SignMachine$Assembler", "putPending", "()V"⟩
theorem h_A_putPending : (y_A_putPending).cls ≠ "java/lang/invoke/MethodHandle" ∧ (y_A_putPending).cls ≠ "java/lang/invoke/VarHandle" ∧ (parseMethodDescriptor (y_A_putPending).desc).map (fun d => d.parameters.length) = some 0 := by decide +kernel
theorem d_A_putPending_0 : decode b_A_putPending 0 = .ok (.iconst 0, 1) := by decide +kernel
theorem d_A_putPending_1 : decode b_A_putPending 1 = .ok (.istore_n 1, 1) := by decide +kernel
theorem d_A_putPending_2 : decode b_A_putPending 2 = .ok (.iload_n 1, 1) := by decide +kernel
theorem d_A_putPending_3 : decode b_A_putPending 3 = .ok (.aload_n 0, 1) := by decide +kernel
theorem d_A_putPending_4 : decode b_A_putPending 4 = .ok (.getfield 21, 3) := by decide +kernel
theorem d_A_putPending_7 : decode b_A_putPending 7 = .ok (.getfield 239, 3) := by decide +kernel
theorem d_A_putPending_10 : decode b_A_putPending 10 = .ok (.if_icmp .ge 53, 3) := by decide +kernel
theorem d_A_putPending_13 : decode b_A_putPending 13 = .ok (.aload_n 0, 1) := by decide +kernel
theorem d_A_putPending_14 : decode b_A_putPending 14 = .ok (.getfield 43, 3) := by decide +kernel
theorem d_A_putPending_17 : decode b_A_putPending 17 = .ok (.ifCond .ne 46, 3) := by decide +kernel
theorem d_A_putPending_20 : decode b_A_putPending 20 = .ok (.aload_n 0, 1) := by decide +kernel
theorem d_A_putPending_21 : decode b_A_putPending 21 = .ok (.getfield 21, 3) := by decide +kernel
theorem d_A_putPending_24 : decode b_A_putPending 24 = .ok (.iload_n 1, 1) := by decide +kernel
theorem d_A_putPending_25 : decode b_A_putPending 25 = .ok (.invokevirtual 215, 3) := by decide +kernel
theorem d_A_putPending_28 : decode b_A_putPending 28 = .ok (.ifCond .ne 29, 3) := by decide +kernel
theorem d_A_putPending_31 : decode b_A_putPending 31 = .ok (.aload_n 0, 1) := by decide +kernel
theorem d_A_putPending_32 : decode b_A_putPending 32 = .ok (.getfield 21, 3) := by decide +kernel
theorem d_A_putPending_35 : decode b_A_putPending 35 = .ok (.iload_n 1, 1) := by decide +kernel
theorem d_A_putPending_36 : decode b_A_putPending 36 = .ok (.invokevirtual 161, 3) := by decide +kernel
theorem d_A_putPending_39 : decode b_A_putPending 39 = .ok (.istore_n 2, 1) := by decide +kernel
theorem d_A_putPending_40 : decode b_A_putPending 40 = .ok (.aload_n 0, 1) := by decide +kernel
theorem d_A_putPending_41 : decode b_A_putPending 41 = .ok (.getfield 21, 3) := by decide +kernel
theorem d_A_putPending_44 : decode b_A_putPending 44 = .ok (.iload_n 1, 1) := by decide +kernel
theorem d_A_putPending_45 : decode b_A_putPending 45 = .ok (.aload_n 0, 1) := by decide +kernel
theorem d_A_putPending_46 : decode b_A_putPending 46 = .ok (.getfield 49, 3) := by decide +kernel
theorem d_A_putPending_49 : decode b_A_putPending 49 = .ok (.invokevirtual 222, 3) := by decide +kernel
theorem d_A_putPending_52 : decode b_A_putPending 52 = .ok (.aload_n 0, 1) := by decide +kernel
theorem d_A_putPending_53 : decode b_A_putPending 53 = .ok (.iload_n 2, 1) := by decide +kernel
theorem d_A_putPending_54 : decode b_A_putPending 54 = .ok (.invokevirtual 129, 3) := by decide +kernel
theorem d_A_putPending_57 : decode b_A_putPending 57 = .ok (.iinc 1 1, 3) := by decide +kernel
theorem d_A_putPending_60 : decode b_A_putPending 60 = .ok (.goto (-58), 3) := by decide +kernel
theorem d_A_putPending_63 : decode b_A_putPending 63 = .ok (.return_, 1) := by decide +kernel
abbrev b_A_putWord : ByteArray := prog_2_method_20_code
abbrev y_A_putWord : MethodName := ⟨"SignMachine$Assembler", "putWord", "(I)V"⟩
theorem h_A_putWord : (y_A_putWord).cls ≠ "java/lang/invoke/MethodHandle" ∧ (y_A_putWord).cls ≠ "java/lang/invoke/VarHandle" ∧ (parseMethodDescriptor (y_A_putWord).desc).map (fun d => d.parameters.length) = some 1 := by decide +kernel
theorem d_A_putWord_0 : decode b_A_putWord 0 = .ok (.aload_n 0, 1) := by decide +kernel
theorem d_A_putWord_1 : decode b_A_putWord 1 = .ok (.iconst 0, 1) := by decide +kernel
theorem d_A_putWord_2 : decode b_A_putWord 2 = .ok (.putfield 268, 3) := by decide +kernel
theorem d_A_putWord_5 : decode b_A_putWord 5 = .ok (.aload_n 0, 1) := by decide +kernel
theorem d_A_putWord_6 : decode b_A_putWord 6 = .ok (.iload_n 1, 1) := by decide +kernel
theorem d_A_putWord_7 : decode b_A_putWord 7 = .ok (.invokevirtual 265, 3) := by decide +kernel
theorem d_A_putWord_10 : decode b_A_putWord 10 = .ok (.return_, 1) := by decide +kernel
abbrev b_A_putInstruction : ByteArray := prog_2_method_21_code
abbrev y_A_putInstruction : MethodName := ⟨"SignMachine$Assembler", "putInstruction", "(I)V"⟩
theorem h_A_putInstruction : (y_A_putInstruction).cls ≠ "java/lang/invoke/MethodHandle" ∧ (y_A_putInstruction).cls ≠ "java/lang/invoke/VarHandle" ∧ (parseMethodDescriptor (y_A_putInstruction).desc).map (fun d => d.parameters.length) = some 1 := by decide +kernel
theorem d_A_putInstruction_0 : decode b_A_putInstruction 0 = .ok (.aload_n 0, 1) := by decide +kernel
theorem d_A_putInstruction_1 : decode b_A_putInstruction 1 = .ok (.getfield 49, 3) := by decide +kernel
theorem d_A_putInstruction_4 : decode b_A_putInstruction 4 = .ok (.invokestatic 225, 3) := by decide +kernel
theorem d_A_putInstruction_7 : decode b_A_putInstruction 7 = .ok (.ifCond .ne 10, 3) := by decide +kernel
theorem d_A_putInstruction_10 : decode b_A_putInstruction 10 = .ok (.aload_n 0, 1) := by decide +kernel
theorem d_A_putInstruction_11 : decode b_A_putInstruction 11 = .ok (.iconst 4, 1) := by decide +kernel
theorem d_A_putInstruction_12 : decode b_A_putInstruction 12 = .ok (.invokevirtual 84, 3) := by decide +kernel
theorem d_A_putInstruction_15 : decode b_A_putInstruction 15 = .ok (.pop, 1) := by decide +kernel
theorem d_A_putInstruction_16 : decode b_A_putInstruction 16 = .ok (.return_, 1) := by decide +kernel
theorem d_A_putInstruction_17 : decode b_A_putInstruction 17 = .ok (.aload_n 0, 1) := by decide +kernel
theorem d_A_putInstruction_18 : decode b_A_putInstruction 18 = .ok (.getfield 28, 3) := by decide +kernel
theorem d_A_putInstruction_21 : decode b_A_putInstruction 21 = .ok (.aload_n 0, 1) := by decide +kernel
theorem d_A_putInstruction_22 : decode b_A_putInstruction 22 = .ok (.getfield 49, 3) := by decide +kernel
theorem d_A_putInstruction_25 : decode b_A_putInstruction 25 = .ok (.iload_n 1, 1) := by decide +kernel
theorem d_A_putInstruction_26 : decode b_A_putInstruction 26 = .ok (.aload_n 0, 1) := by decide +kernel
theorem d_A_putInstruction_27 : decode b_A_putInstruction 27 = .ok (.getfield 12, 3) := by decide +kernel
theorem d_A_putInstruction_30 : decode b_A_putInstruction 30 = .ok (.getfield 179, 3) := by decide +kernel
theorem d_A_putInstruction_33 : decode b_A_putInstruction 33 = .ok (.aload_n 0, 1) := by decide +kernel
theorem d_A_putInstruction_34 : decode b_A_putInstruction 34 = .ok (.getfield 268, 3) := by decide +kernel
theorem d_A_putInstruction_37 : decode b_A_putInstruction 37 = .ok (.aload_n 0, 1) := by decide +kernel
theorem d_A_putInstruction_38 : decode b_A_putInstruction 38 = .ok (.getfield 269, 3) := by decide +kernel
theorem d_A_putInstruction_41 : decode b_A_putInstruction 41 = .ok (.invokevirtual 272, 3) := by decide +kernel
theorem d_A_putInstruction_44 : decode b_A_putInstruction 44 = .ok (.aload_n 0, 1) := by decide +kernel
theorem d_A_putInstruction_45 : decode b_A_putInstruction 45 = .ok (.dup, 1) := by decide +kernel
theorem d_A_putInstruction_46 : decode b_A_putInstruction 46 = .ok (.getfield 49, 3) := by decide +kernel
theorem d_A_putInstruction_49 : decode b_A_putInstruction 49 = .ok (.iconst 1, 1) := by decide +kernel
theorem d_A_putInstruction_50 : decode b_A_putInstruction 50 = .ok (.iadd, 1) := by decide +kernel
theorem d_A_putInstruction_51 : decode b_A_putInstruction 51 = .ok (.putfield 49, 3) := by decide +kernel
theorem d_A_putInstruction_54 : decode b_A_putInstruction 54 = .ok (.return_, 1) := by decide +kernel
abbrev b_O_add : ByteArray := prog_6_method_3_code
abbrev y_O_add : MethodName := ⟨"SignMachine$Output", "add", "(IIIII)V"⟩
theorem h_O_add : (y_O_add).cls ≠ "java/lang/invoke/MethodHandle" ∧ (y_O_add).cls ≠ "java/lang/invoke/VarHandle" ∧ (parseMethodDescriptor (y_O_add).desc).map (fun d => d.parameters.length) = some 5 := by decide +kernel
theorem d_O_add_0 : decode b_O_add 0 = .ok (.aload_n 0, 1) := by decide +kernel
theorem d_O_add_1 : decode b_O_add 1 = .ok (.getfield 35, 3) := by decide +kernel
theorem d_O_add_4 : decode b_O_add 4 = .ok (.ifCond .lt 13, 3) := by decide +kernel
theorem d_O_add_7 : decode b_O_add 7 = .ok (.aload_n 0, 1) := by decide +kernel
theorem d_O_add_8 : decode b_O_add 8 = .ok (.getfield 35, 3) := by decide +kernel
theorem d_O_add_11 : decode b_O_add 11 = .ok (.sipush 1101, 3) := by decide +kernel
theorem d_O_add_14 : decode b_O_add 14 = .ok (.if_icmp .lt 4, 3) := by decide +kernel
theorem d_O_add_17 : decode b_O_add 17 = .ok (.return_, 1) := by decide +kernel
theorem d_O_add_18 : decode b_O_add 18 = .ok (.aload_n 0, 1) := by decide +kernel
theorem d_O_add_19 : decode b_O_add 19 = .ok (.getfield 15, 3) := by decide +kernel
theorem d_O_add_22 : decode b_O_add 22 = .ok (.aload_n 0, 1) := by decide +kernel
theorem d_O_add_23 : decode b_O_add 23 = .ok (.getfield 35, 3) := by decide +kernel
theorem d_O_add_26 : decode b_O_add 26 = .ok (.iload_n 1, 1) := by decide +kernel
theorem d_O_add_27 : decode b_O_add 27 = .ok (.iastore, 1) := by decide +kernel
theorem d_O_add_28 : decode b_O_add 28 = .ok (.aload_n 0, 1) := by decide +kernel
theorem d_O_add_29 : decode b_O_add 29 = .ok (.getfield 19, 3) := by decide +kernel
theorem d_O_add_32 : decode b_O_add 32 = .ok (.aload_n 0, 1) := by decide +kernel
theorem d_O_add_33 : decode b_O_add 33 = .ok (.getfield 35, 3) := by decide +kernel
theorem d_O_add_36 : decode b_O_add 36 = .ok (.iload_n 2, 1) := by decide +kernel
theorem d_O_add_37 : decode b_O_add 37 = .ok (.iastore, 1) := by decide +kernel
theorem d_O_add_38 : decode b_O_add 38 = .ok (.aload_n 0, 1) := by decide +kernel
theorem d_O_add_39 : decode b_O_add 39 = .ok (.getfield 22, 3) := by decide +kernel
theorem d_O_add_42 : decode b_O_add 42 = .ok (.aload_n 0, 1) := by decide +kernel
theorem d_O_add_43 : decode b_O_add 43 = .ok (.getfield 35, 3) := by decide +kernel
theorem d_O_add_46 : decode b_O_add 46 = .ok (.iload_n 3, 1) := by decide +kernel
theorem d_O_add_47 : decode b_O_add 47 = .ok (.iastore, 1) := by decide +kernel
theorem d_O_add_48 : decode b_O_add 48 = .ok (.aload_n 0, 1) := by decide +kernel
theorem d_O_add_49 : decode b_O_add 49 = .ok (.getfield 25, 3) := by decide +kernel
theorem d_O_add_52 : decode b_O_add 52 = .ok (.aload_n 0, 1) := by decide +kernel
theorem d_O_add_53 : decode b_O_add 53 = .ok (.getfield 35, 3) := by decide +kernel
theorem d_O_add_56 : decode b_O_add 56 = .ok (.iload 4, 2) := by decide +kernel
theorem d_O_add_58 : decode b_O_add 58 = .ok (.i2b, 1) := by decide +kernel
theorem d_O_add_59 : decode b_O_add 59 = .ok (.bastore, 1) := by decide +kernel
theorem d_O_add_60 : decode b_O_add 60 = .ok (.aload_n 0, 1) := by decide +kernel
theorem d_O_add_61 : decode b_O_add 61 = .ok (.getfield 29, 3) := by decide +kernel
theorem d_O_add_64 : decode b_O_add 64 = .ok (.aload_n 0, 1) := by decide +kernel
theorem d_O_add_65 : decode b_O_add 65 = .ok (.getfield 35, 3) := by decide +kernel
theorem d_O_add_68 : decode b_O_add 68 = .ok (.iload 5, 2) := by decide +kernel
theorem d_O_add_70 : decode b_O_add 70 = .ok (.iastore, 1) := by decide +kernel
theorem d_O_add_71 : decode b_O_add 71 = .ok (.iload 4, 2) := by decide +kernel
theorem d_O_add_73 : decode b_O_add 73 = .ok (.iconst 2, 1) := by decide +kernel
theorem d_O_add_74 : decode b_O_add 74 = .ok (.if_icmp .ne 45, 3) := by decide +kernel
theorem d_O_add_77 : decode b_O_add 77 = .ok (.iload 5, 2) := by decide +kernel
theorem d_O_add_79 : decode b_O_add 79 = .ok (.ifCond .lt 40, 3) := by decide +kernel
theorem d_O_add_82 : decode b_O_add 82 = .ok (.iload 5, 2) := by decide +kernel
theorem d_O_add_84 : decode b_O_add 84 = .ok (.aload_n 0, 1) := by decide +kernel
theorem d_O_add_85 : decode b_O_add 85 = .ok (.getfield 32, 3) := by decide +kernel
theorem d_O_add_88 : decode b_O_add 88 = .ok (.arraylength, 1) := by decide +kernel
theorem d_O_add_89 : decode b_O_add 89 = .ok (.if_icmp .ge 30, 3) := by decide +kernel
theorem d_O_add_92 : decode b_O_add 92 = .ok (.aload_n 0, 1) := by decide +kernel
theorem d_O_add_93 : decode b_O_add 93 = .ok (.getfield 29, 3) := by decide +kernel
theorem d_O_add_96 : decode b_O_add 96 = .ok (.aload_n 0, 1) := by decide +kernel
theorem d_O_add_97 : decode b_O_add 97 = .ok (.getfield 35, 3) := by decide +kernel
theorem d_O_add_100 : decode b_O_add 100 = .ok (.aload_n 0, 1) := by decide +kernel
theorem d_O_add_101 : decode b_O_add 101 = .ok (.getfield 32, 3) := by decide +kernel
theorem d_O_add_104 : decode b_O_add 104 = .ok (.iload 5, 2) := by decide +kernel
theorem d_O_add_106 : decode b_O_add 106 = .ok (.iaload, 1) := by decide +kernel
theorem d_O_add_107 : decode b_O_add 107 = .ok (.iastore, 1) := by decide +kernel
theorem d_O_add_108 : decode b_O_add 108 = .ok (.aload_n 0, 1) := by decide +kernel
theorem d_O_add_109 : decode b_O_add 109 = .ok (.getfield 32, 3) := by decide +kernel
theorem d_O_add_112 : decode b_O_add 112 = .ok (.iload 5, 2) := by decide +kernel
theorem d_O_add_114 : decode b_O_add 114 = .ok (.aload_n 0, 1) := by decide +kernel
theorem d_O_add_115 : decode b_O_add 115 = .ok (.getfield 35, 3) := by decide +kernel
theorem d_O_add_118 : decode b_O_add 118 = .ok (.iastore, 1) := by decide +kernel
theorem d_O_add_119 : decode b_O_add 119 = .ok (.aload_n 0, 1) := by decide +kernel
theorem d_O_add_120 : decode b_O_add 120 = .ok (.dup, 1) := by decide +kernel
theorem d_O_add_121 : decode b_O_add 121 = .ok (.getfield 35, 3) := by decide +kernel
theorem d_O_add_124 : decode b_O_add 124 = .ok (.iconst 1, 1) := by decide +kernel
theorem d_O_add_125 : decode b_O_add 125 = .ok (.iadd, 1) := by decide +kernel
theorem d_O_add_126 : decode b_O_add 126 = .ok (.putfield 35, 3) := by decide +kernel
theorem d_O_add_129 : decode b_O_add 129 = .ok (.return_, 1) := by decide +kernel
abbrev b_A_takeOperation : ByteArray := prog_2_method_19_code
abbrev y_A_takeOperation : MethodName := ⟨"SignMachine$Assembler", "takeOperation", "(I)V"⟩
theorem h_A_takeOperation : (y_A_takeOperation).cls ≠ "java/lang/invoke/MethodHandle" ∧ (y_A_takeOperation).cls ≠ "java/lang/invoke/VarHandle" ∧ (parseMethodDescriptor (y_A_takeOperation).desc).map (fun d => d.parameters.length) = some 1 := by decide +kernel
theorem d_A_takeOperation_0 : decode b_A_takeOperation 0 = .ok (.aload_n 0, 1) := by decide +kernel
theorem d_A_takeOperation_1 : decode b_A_takeOperation 1 = .ok (.invokevirtual 253, 3) := by decide +kernel
theorem d_A_takeOperation_4 : decode b_A_takeOperation 4 = .ok (.istore_n 2, 1) := by decide +kernel
theorem d_A_takeOperation_5 : decode b_A_takeOperation 5 = .ok (.iconst 0, 1) := by decide +kernel
theorem d_A_takeOperation_6 : decode b_A_takeOperation 6 = .ok (.istore_n 3, 1) := by decide +kernel
theorem d_A_takeOperation_7 : decode b_A_takeOperation 7 = .ok (.iload_n 1, 1) := by decide +kernel
theorem d_A_takeOperation_8 : decode b_A_takeOperation 8 = .ok (.istore 4, 2) := by decide +kernel
theorem d_A_takeOperation_10 : decode b_A_takeOperation 10 = .ok (.aload_n 0, 1) := by decide +kernel
theorem d_A_takeOperation_11 : decode b_A_takeOperation 11 = .ok (.getfield 43, 3) := by decide +kernel
theorem d_A_takeOperation_14 : decode b_A_takeOperation 14 = .ok (.ifCond .ne 20, 3) := by decide +kernel
theorem d_A_takeOperation_17 : decode b_A_takeOperation 17 = .ok (.aload_n 0, 1) := by decide +kernel
theorem d_A_takeOperation_18 : decode b_A_takeOperation 18 = .ok (.getfield 12, 3) := by decide +kernel
theorem d_A_takeOperation_21 : decode b_A_takeOperation 21 = .ok (.bipush 44, 2) := by decide +kernel
theorem d_A_takeOperation_23 : decode b_A_takeOperation 23 = .ok (.invokevirtual 240, 3) := by decide +kernel
theorem d_A_takeOperation_26 : decode b_A_takeOperation 26 = .ok (.ifCond .eq 8, 3) := by decide +kernel
theorem d_A_takeOperation_29 : decode b_A_takeOperation 29 = .ok (.aload_n 0, 1) := by decide +kernel
theorem d_A_takeOperation_30 : decode b_A_takeOperation 30 = .ok (.invokevirtual 256, 3) := by decide +kernel
theorem d_A_takeOperation_33 : decode b_A_takeOperation 33 = .ok (.istore_n 3, 1) := by decide +kernel
theorem d_A_takeOperation_34 : decode b_A_takeOperation 34 = .ok (.aload_n 0, 1) := by decide +kernel
theorem d_A_takeOperation_35 : decode b_A_takeOperation 35 = .ok (.getfield 43, 3) := by decide +kernel
theorem d_A_takeOperation_38 : decode b_A_takeOperation 38 = .ok (.ifCond .ne 25, 3) := by decide +kernel
theorem d_A_takeOperation_41 : decode b_A_takeOperation 41 = .ok (.aload_n 0, 1) := by decide +kernel
theorem d_A_takeOperation_42 : decode b_A_takeOperation 42 = .ok (.getfield 12, 3) := by decide +kernel
theorem d_A_takeOperation_45 : decode b_A_takeOperation 45 = .ok (.bipush 40, 2) := by decide +kernel
theorem d_A_takeOperation_47 : decode b_A_takeOperation 47 = .ok (.invokevirtual 240, 3) := by decide +kernel
theorem d_A_takeOperation_50 : decode b_A_takeOperation 50 = .ok (.ifCond .eq 13, 3) := by decide +kernel
theorem d_A_takeOperation_53 : decode b_A_takeOperation 53 = .ok (.aload_n 0, 1) := by decide +kernel
theorem d_A_takeOperation_54 : decode b_A_takeOperation 54 = .ok (.invokevirtual 256, 3) := by decide +kernel
theorem d_A_takeOperation_57 : decode b_A_takeOperation 57 = .ok (.istore 4, 2) := by decide +kernel
theorem d_A_takeOperation_59 : decode b_A_takeOperation 59 = .ok (.aload_n 0, 1) := by decide +kernel
theorem d_A_takeOperation_60 : decode b_A_takeOperation 60 = .ok (.invokevirtual 259, 3) := by decide +kernel
theorem d_A_takeOperation_63 : decode b_A_takeOperation 63 = .ok (.aload_n 0, 1) := by decide +kernel
theorem d_A_takeOperation_64 : decode b_A_takeOperation 64 = .ok (.invokevirtual 118, 3) := by decide +kernel
theorem d_A_takeOperation_67 : decode b_A_takeOperation 67 = .ok (.iload_n 2, 1) := by decide +kernel
theorem d_A_takeOperation_68 : decode b_A_takeOperation 68 = .ok (.invokestatic 167, 3) := by decide +kernel
theorem d_A_takeOperation_71 : decode b_A_takeOperation 71 = .ok (.sipush 4095, 3) := by decide +kernel
theorem d_A_takeOperation_74 : decode b_A_takeOperation 74 = .ok (.if_icmp .gt 25, 3) := by decide +kernel
theorem d_A_takeOperation_77 : decode b_A_takeOperation 77 = .ok (.iload_n 3, 1) := by decide +kernel
theorem d_A_takeOperation_78 : decode b_A_takeOperation 78 = .ok (.ifCond .lt 21, 3) := by decide +kernel
theorem d_A_takeOperation_81 : decode b_A_takeOperation 81 = .ok (.iload_n 3, 1) := by decide +kernel
theorem d_A_takeOperation_82 : decode b_A_takeOperation 82 = .ok (.bipush 6, 2) := by decide +kernel
theorem d_A_takeOperation_84 : decode b_A_takeOperation 84 = .ok (.if_icmp .gt 15, 3) := by decide +kernel
theorem d_A_takeOperation_87 : decode b_A_takeOperation 87 = .ok (.iload 4, 2) := by decide +kernel
theorem d_A_takeOperation_89 : decode b_A_takeOperation 89 = .ok (.ifCond .lt 10, 3) := by decide +kernel
theorem d_A_takeOperation_92 : decode b_A_takeOperation 92 = .ok (.iload 4, 2) := by decide +kernel
theorem d_A_takeOperation_94 : decode b_A_takeOperation 94 = .ok (.bipush 63, 2) := by decide +kernel
theorem d_A_takeOperation_96 : decode b_A_takeOperation 96 = .ok (.if_icmp .le 9, 3) := by decide +kernel
theorem d_A_takeOperation_99 : decode b_A_takeOperation 99 = .ok (.aload_n 0, 1) := by decide +kernel
theorem d_A_takeOperation_100 : decode b_A_takeOperation 100 = .ok (.iconst 4, 1) := by decide +kernel
theorem d_A_takeOperation_101 : decode b_A_takeOperation 101 = .ok (.invokevirtual 84, 3) := by decide +kernel
theorem d_A_takeOperation_104 : decode b_A_takeOperation 104 = .ok (.pop, 1) := by decide +kernel
theorem d_A_takeOperation_105 : decode b_A_takeOperation 105 = .ok (.aload_n 0, 1) := by decide +kernel
theorem d_A_takeOperation_106 : decode b_A_takeOperation 106 = .ok (.getfield 43, 3) := by decide +kernel
theorem d_A_takeOperation_109 : decode b_A_takeOperation 109 = .ok (.ifCond .ne 27, 3) := by decide +kernel
theorem d_A_takeOperation_112 : decode b_A_takeOperation 112 = .ok (.aload_n 0, 1) := by decide +kernel
theorem d_A_takeOperation_113 : decode b_A_takeOperation 113 = .ok (.iload_n 2, 1) := by decide +kernel
theorem d_A_takeOperation_114 : decode b_A_takeOperation 114 = .ok (.invokestatic 262, 3) := by decide +kernel
theorem d_A_takeOperation_117 : decode b_A_takeOperation 117 = .ok (.iload_n 3, 1) := by decide +kernel
theorem d_A_takeOperation_118 : decode b_A_takeOperation 118 = .ok (.bipush 12, 2) := by decide +kernel
theorem d_A_takeOperation_120 : decode b_A_takeOperation 120 = .ok (.ishl, 1) := by decide +kernel
theorem d_A_takeOperation_121 : decode b_A_takeOperation 121 = .ok (.ior, 1) := by decide +kernel
theorem d_A_takeOperation_122 : decode b_A_takeOperation 122 = .ok (.iload 4, 2) := by decide +kernel
theorem d_A_takeOperation_124 : decode b_A_takeOperation 124 = .ok (.bipush 6, 2) := by decide +kernel
theorem d_A_takeOperation_126 : decode b_A_takeOperation 126 = .ok (.ishl, 1) := by decide +kernel
theorem d_A_takeOperation_127 : decode b_A_takeOperation 127 = .ok (.ior, 1) := by decide +kernel
theorem d_A_takeOperation_128 : decode b_A_takeOperation 128 = .ok (.aload_n 0, 1) := by decide +kernel
theorem d_A_takeOperation_129 : decode b_A_takeOperation 129 = .ok (.getfield 205, 3) := by decide +kernel
theorem d_A_takeOperation_132 : decode b_A_takeOperation 132 = .ok (.ior, 1) := by decide +kernel
theorem d_A_takeOperation_133 : decode b_A_takeOperation 133 = .ok (.invokevirtual 265, 3) := by decide +kernel
theorem d_A_takeOperation_136 : decode b_A_takeOperation 136 = .ok (.return_, 1) := by decide +kernel
abbrev b_A_readAddress : ByteArray := prog_2_method_22_code
abbrev y_A_readAddress : MethodName := ⟨"SignMachine$Assembler", "readAddress", "()I"⟩
theorem h_A_readAddress : (y_A_readAddress).cls ≠ "java/lang/invoke/MethodHandle" ∧ (y_A_readAddress).cls ≠ "java/lang/invoke/VarHandle" ∧ (parseMethodDescriptor (y_A_readAddress).desc).map (fun d => d.parameters.length) = some 0 := by decide +kernel
theorem d_A_readAddress_0 : decode b_A_readAddress 0 = .ok (.aload_n 0, 1) := by decide +kernel
theorem d_A_readAddress_1 : decode b_A_readAddress 1 = .ok (.iconst 0, 1) := by decide +kernel
theorem d_A_readAddress_2 : decode b_A_readAddress 2 = .ok (.putfield 268, 3) := by decide +kernel
theorem d_A_readAddress_5 : decode b_A_readAddress 5 = .ok (.aload_n 0, 1) := by decide +kernel
theorem d_A_readAddress_6 : decode b_A_readAddress 6 = .ok (.getfield 12, 3) := by decide +kernel
theorem d_A_readAddress_9 : decode b_A_readAddress 9 = .ok (.invokevirtual 80, 3) := by decide +kernel
theorem d_A_readAddress_12 : decode b_A_readAddress 12 = .ok (.istore_n 1, 1) := by decide +kernel
theorem d_A_readAddress_13 : decode b_A_readAddress 13 = .ok (.iload_n 1, 1) := by decide +kernel
theorem d_A_readAddress_14 : decode b_A_readAddress 14 = .ok (.iconst (-1), 1) := by decide +kernel
theorem d_A_readAddress_15 : decode b_A_readAddress 15 = .ok (.if_icmp .eq 15, 3) := by decide +kernel
theorem d_A_readAddress_18 : decode b_A_readAddress 18 = .ok (.iload_n 1, 1) := by decide +kernel
theorem d_A_readAddress_19 : decode b_A_readAddress 19 = .ok (.bipush 44, 2) := by decide +kernel
theorem d_A_readAddress_21 : decode b_A_readAddress 21 = .ok (.if_icmp .eq 9, 3) := by decide +kernel
theorem d_A_readAddress_24 : decode b_A_readAddress 24 = .ok (.iload_n 1, 1) := by decide +kernel
theorem d_A_readAddress_25 : decode b_A_readAddress 25 = .ok (.bipush 40, 2) := by decide +kernel
theorem d_A_readAddress_27 : decode b_A_readAddress 27 = .ok (.if_icmp .ne 5, 3) := by decide +kernel
theorem d_A_readAddress_30 : decode b_A_readAddress 30 = .ok (.iconst 0, 1) := by decide +kernel
theorem d_A_readAddress_31 : decode b_A_readAddress 31 = .ok (.ireturn, 1) := by decide +kernel
theorem d_A_readAddress_32 : decode b_A_readAddress 32 = .ok (.aload_n 0, 1) := by decide +kernel
theorem d_A_readAddress_33 : decode b_A_readAddress 33 = .ok (.getfield 12, 3) := by decide +kernel
theorem d_A_readAddress_36 : decode b_A_readAddress 36 = .ok (.bipush 61, 2) := by decide +kernel
theorem d_A_readAddress_38 : decode b_A_readAddress 38 = .ok (.invokevirtual 240, 3) := by decide +kernel
theorem d_A_readAddress_41 : decode b_A_readAddress 41 = .ok (.ifCond .eq 13, 3) := by decide +kernel
theorem d_A_readAddress_44 : decode b_A_readAddress 44 = .ok (.aload_n 0, 1) := by decide +kernel
theorem d_A_readAddress_45 : decode b_A_readAddress 45 = .ok (.aload_n 0, 1) := by decide +kernel
theorem d_A_readAddress_46 : decode b_A_readAddress 46 = .ok (.invokevirtual 115, 3) := by decide +kernel
theorem d_A_readAddress_49 : decode b_A_readAddress 49 = .ok (.invokevirtual 276, 3) := by decide +kernel
theorem d_A_readAddress_52 : decode b_A_readAddress 52 = .ok (.iconst 0, 1) := by decide +kernel
theorem d_A_readAddress_53 : decode b_A_readAddress 53 = .ok (.ireturn, 1) := by decide +kernel
theorem d_A_readAddress_54 : decode b_A_readAddress 54 = .ok (.aload_n 0, 1) := by decide +kernel
theorem d_A_readAddress_55 : decode b_A_readAddress 55 = .ok (.invokevirtual 279, 3) := by decide +kernel
theorem d_A_readAddress_58 : decode b_A_readAddress 58 = .ok (.ifCond .eq 7, 3) := by decide +kernel
theorem d_A_readAddress_61 : decode b_A_readAddress 61 = .ok (.iconst 0, 1) := by decide +kernel
theorem d_A_readAddress_62 : decode b_A_readAddress 62 = .ok (.goto 7, 3) := by decide +kernel
theorem d_A_readAddress_65 : decode b_A_readAddress 65 = .ok (.aload_n 0, 1) := by decide +kernel
theorem d_A_readAddress_66 : decode b_A_readAddress 66 = .ok (.invokevirtual 256, 3) := by decide +kernel
theorem d_A_readAddress_69 : decode b_A_readAddress 69 = .ok (.ireturn, 1) := by decide +kernel
abbrev b_A_readLaterName : ByteArray := prog_2_method_24_code
abbrev y_A_readLaterName : MethodName := ⟨"SignMachine$Assembler", "readLaterName", "()Z"⟩
theorem h_A_readLaterName : (y_A_readLaterName).cls ≠ "java/lang/invoke/MethodHandle" ∧ (y_A_readLaterName).cls ≠ "java/lang/invoke/VarHandle" ∧ (parseMethodDescriptor (y_A_readLaterName).desc).map (fun d => d.parameters.length) = some 0 := by decide +kernel
theorem d_A_readLaterName_0 : decode b_A_readLaterName 0 = .ok (.aload_n 0, 1) := by decide +kernel
theorem d_A_readLaterName_1 : decode b_A_readLaterName 1 = .ok (.getfield 12, 3) := by decide +kernel
theorem d_A_readLaterName_4 : decode b_A_readLaterName 4 = .ok (.getfield 182, 3) := by decide +kernel
theorem d_A_readLaterName_7 : decode b_A_readLaterName 7 = .ok (.istore_n 1, 1) := by decide +kernel
theorem d_A_readLaterName_8 : decode b_A_readLaterName 8 = .ok (.aload_n 0, 1) := by decide +kernel
theorem d_A_readLaterName_9 : decode b_A_readLaterName 9 = .ok (.getfield 12, 3) := by decide +kernel
theorem d_A_readLaterName_12 : decode b_A_readLaterName 12 = .ok (.invokevirtual 185, 3) := by decide +kernel
theorem d_A_readLaterName_15 : decode b_A_readLaterName 15 = .ok (.aload_n 0, 1) := by decide +kernel
theorem d_A_readLaterName_16 : decode b_A_readLaterName 16 = .ok (.getfield 12, 3) := by decide +kernel
theorem d_A_readLaterName_19 : decode b_A_readLaterName 19 = .ok (.getfield 188, 3) := by decide +kernel
theorem d_A_readLaterName_22 : decode b_A_readLaterName 22 = .ok (.iconst 2, 1) := by decide +kernel
theorem d_A_readLaterName_23 : decode b_A_readLaterName 23 = .ok (.if_icmp .ne 66, 3) := by decide +kernel
theorem d_A_readLaterName_26 : decode b_A_readLaterName 26 = .ok (.aload_n 0, 1) := by decide +kernel
theorem d_A_readLaterName_27 : decode b_A_readLaterName 27 = .ok (.getfield 12, 3) := by decide +kernel
theorem d_A_readLaterName_30 : decode b_A_readLaterName 30 = .ok (.invokevirtual 80, 3) := by decide +kernel
theorem d_A_readLaterName_33 : decode b_A_readLaterName 33 = .ok (.invokestatic 285, 3) := by decide +kernel
theorem d_A_readLaterName_36 : decode b_A_readLaterName 36 = .ok (.ifCond .ne 53, 3) := by decide +kernel
theorem d_A_readLaterName_39 : decode b_A_readLaterName 39 = .ok (.aload_n 0, 1) := by decide +kernel
theorem d_A_readLaterName_40 : decode b_A_readLaterName 40 = .ok (.getfield 12, 3) := by decide +kernel
theorem d_A_readLaterName_43 : decode b_A_readLaterName 43 = .ok (.getfield 191, 3) := by decide +kernel
theorem d_A_readLaterName_46 : decode b_A_readLaterName 46 = .ok (.bipush 6, 2) := by decide +kernel
theorem d_A_readLaterName_48 : decode b_A_readLaterName 48 = .ok (.invokestatic 135, 3) := by decide +kernel
theorem d_A_readLaterName_51 : decode b_A_readLaterName 51 = .ok (.istore_n 2, 1) := by decide +kernel
theorem d_A_readLaterName_52 : decode b_A_readLaterName 52 = .ok (.iload_n 2, 1) := by decide +kernel
theorem d_A_readLaterName_53 : decode b_A_readLaterName 53 = .ok (.ifCond .lt 15, 3) := by decide +kernel
theorem d_A_readLaterName_56 : decode b_A_readLaterName 56 = .ok (.aload_n 0, 1) := by decide +kernel
theorem d_A_readLaterName_57 : decode b_A_readLaterName 57 = .ok (.iconst 2, 1) := by decide +kernel
theorem d_A_readLaterName_58 : decode b_A_readLaterName 58 = .ok (.putfield 268, 3) := by decide +kernel
theorem d_A_readLaterName_61 : decode b_A_readLaterName 61 = .ok (.aload_n 0, 1) := by decide +kernel
theorem d_A_readLaterName_62 : decode b_A_readLaterName 62 = .ok (.iload_n 2, 1) := by decide +kernel
theorem d_A_readLaterName_63 : decode b_A_readLaterName 63 = .ok (.putfield 269, 3) := by decide +kernel
theorem d_A_readLaterName_66 : decode b_A_readLaterName 66 = .ok (.iconst 1, 1) := by decide +kernel
theorem d_A_readLaterName_67 : decode b_A_readLaterName 67 = .ok (.ireturn, 1) := by decide +kernel
theorem d_A_readLaterName_68 : decode b_A_readLaterName 68 = .ok (.aload_n 0, 1) := by decide +kernel
theorem d_A_readLaterName_69 : decode b_A_readLaterName 69 = .ok (.aload_n 0, 1) := by decide +kernel
theorem d_A_readLaterName_70 : decode b_A_readLaterName 70 = .ok (.getfield 12, 3) := by decide +kernel
theorem d_A_readLaterName_73 : decode b_A_readLaterName 73 = .ok (.getfield 191, 3) := by decide +kernel
theorem d_A_readLaterName_76 : decode b_A_readLaterName 76 = .ok (.invokevirtual 288, 3) := by decide +kernel
theorem d_A_readLaterName_79 : decode b_A_readLaterName 79 = .ok (.ifCond .eq 10, 3) := by decide +kernel
theorem d_A_readLaterName_82 : decode b_A_readLaterName 82 = .ok (.aload_n 0, 1) := by decide +kernel
theorem d_A_readLaterName_83 : decode b_A_readLaterName 83 = .ok (.iconst 1, 1) := by decide +kernel
theorem d_A_readLaterName_84 : decode b_A_readLaterName 84 = .ok (.putfield 268, 3) := by decide +kernel
theorem d_A_readLaterName_87 : decode b_A_readLaterName 87 = .ok (.iconst 1, 1) := by decide +kernel
theorem d_A_readLaterName_88 : decode b_A_readLaterName 88 = .ok (.ireturn, 1) := by decide +kernel
theorem d_A_readLaterName_89 : decode b_A_readLaterName 89 = .ok (.aload_n 0, 1) := by decide +kernel
theorem d_A_readLaterName_90 : decode b_A_readLaterName 90 = .ok (.getfield 12, 3) := by decide +kernel
theorem d_A_readLaterName_93 : decode b_A_readLaterName 93 = .ok (.iload_n 1, 1) := by decide +kernel
theorem d_A_readLaterName_94 : decode b_A_readLaterName 94 = .ok (.putfield 182, 3) := by decide +kernel
theorem d_A_readLaterName_97 : decode b_A_readLaterName 97 = .ok (.iconst 0, 1) := by decide +kernel
theorem d_A_readLaterName_98 : decode b_A_readLaterName 98 = .ok (.ireturn, 1) := by decide +kernel
abbrev b_A_isLaterSymbol : ByteArray := prog_2_method_25_code
abbrev y_A_isLaterSymbol : MethodName := ⟨"SignMachine$Assembler", "isLaterSymbol", "(J)Z"⟩
theorem h_A_isLaterSymbol : (y_A_isLaterSymbol).cls ≠ "java/lang/invoke/MethodHandle" ∧ (y_A_isLaterSymbol).cls ≠ "java/lang/invoke/VarHandle" ∧ (parseMethodDescriptor (y_A_isLaterSymbol).desc).map (fun d => d.parameters.length) = some 1 := by decide +kernel
theorem d_A_isLaterSymbol_0 : decode b_A_isLaterSymbol 0 = .ok (.lload_n 1, 1) := by decide +kernel
theorem d_A_isLaterSymbol_1 : decode b_A_isLaterSymbol 1 = .ok (.iconst 2, 1) := by decide +kernel
theorem d_A_isLaterSymbol_2 : decode b_A_isLaterSymbol 2 = .ok (.invokestatic 135, 3) := by decide +kernel
theorem d_A_isLaterSymbol_5 : decode b_A_isLaterSymbol 5 = .ok (.ifCond .ge 12, 3) := by decide +kernel
theorem d_A_isLaterSymbol_8 : decode b_A_isLaterSymbol 8 = .ok (.lload_n 1, 1) := by decide +kernel
theorem d_A_isLaterSymbol_9 : decode b_A_isLaterSymbol 9 = .ok (.bipush 8, 2) := by decide +kernel
theorem d_A_isLaterSymbol_11 : decode b_A_isLaterSymbol 11 = .ok (.invokestatic 135, 3) := by decide +kernel
theorem d_A_isLaterSymbol_14 : decode b_A_isLaterSymbol 14 = .ok (.ifCond .lt 5, 3) := by decide +kernel
theorem d_A_isLaterSymbol_17 : decode b_A_isLaterSymbol 17 = .ok (.iconst 0, 1) := by decide +kernel
theorem d_A_isLaterSymbol_18 : decode b_A_isLaterSymbol 18 = .ok (.ireturn, 1) := by decide +kernel
theorem d_A_isLaterSymbol_19 : decode b_A_isLaterSymbol 19 = .ok (.aload_n 0, 1) := by decide +kernel
theorem d_A_isLaterSymbol_20 : decode b_A_isLaterSymbol 20 = .ok (.aload_n 0, 1) := by decide +kernel
theorem d_A_isLaterSymbol_21 : decode b_A_isLaterSymbol 21 = .ok (.getfield 21, 3) := by decide +kernel
theorem d_A_isLaterSymbol_24 : decode b_A_isLaterSymbol 24 = .ok (.lload_n 1, 1) := by decide +kernel
theorem d_A_isLaterSymbol_25 : decode b_A_isLaterSymbol 25 = .ok (.invokevirtual 212, 3) := by decide +kernel
theorem d_A_isLaterSymbol_28 : decode b_A_isLaterSymbol 28 = .ok (.putfield 269, 3) := by decide +kernel
theorem d_A_isLaterSymbol_31 : decode b_A_isLaterSymbol 31 = .ok (.aload_n 0, 1) := by decide +kernel
theorem d_A_isLaterSymbol_32 : decode b_A_isLaterSymbol 32 = .ok (.getfield 21, 3) := by decide +kernel
theorem d_A_isLaterSymbol_35 : decode b_A_isLaterSymbol 35 = .ok (.aload_n 0, 1) := by decide +kernel
theorem d_A_isLaterSymbol_36 : decode b_A_isLaterSymbol 36 = .ok (.getfield 269, 3) := by decide +kernel
theorem d_A_isLaterSymbol_39 : decode b_A_isLaterSymbol 39 = .ok (.invokevirtual 215, 3) := by decide +kernel
theorem d_A_isLaterSymbol_42 : decode b_A_isLaterSymbol 42 = .ok (.ifCond .eq 5, 3) := by decide +kernel
theorem d_A_isLaterSymbol_45 : decode b_A_isLaterSymbol 45 = .ok (.iconst 0, 1) := by decide +kernel
theorem d_A_isLaterSymbol_46 : decode b_A_isLaterSymbol 46 = .ok (.ireturn, 1) := by decide +kernel
theorem d_A_isLaterSymbol_47 : decode b_A_isLaterSymbol 47 = .ok (.aload_n 0, 1) := by decide +kernel
theorem d_A_isLaterSymbol_48 : decode b_A_isLaterSymbol 48 = .ok (.getfield 269, 3) := by decide +kernel
theorem d_A_isLaterSymbol_51 : decode b_A_isLaterSymbol 51 = .ok (.ifCond .ge 15, 3) := by decide +kernel
theorem d_A_isLaterSymbol_54 : decode b_A_isLaterSymbol 54 = .ok (.aload_n 0, 1) := by decide +kernel
theorem d_A_isLaterSymbol_55 : decode b_A_isLaterSymbol 55 = .ok (.aload_n 0, 1) := by decide +kernel
theorem d_A_isLaterSymbol_56 : decode b_A_isLaterSymbol 56 = .ok (.getfield 21, 3) := by decide +kernel
theorem d_A_isLaterSymbol_59 : decode b_A_isLaterSymbol 59 = .ok (.lload_n 1, 1) := by decide +kernel
theorem d_A_isLaterSymbol_60 : decode b_A_isLaterSymbol 60 = .ok (.invokevirtual 219, 3) := by decide +kernel
theorem d_A_isLaterSymbol_63 : decode b_A_isLaterSymbol 63 = .ok (.putfield 269, 3) := by decide +kernel
theorem d_A_isLaterSymbol_66 : decode b_A_isLaterSymbol 66 = .ok (.aload_n 0, 1) := by decide +kernel
theorem d_A_isLaterSymbol_67 : decode b_A_isLaterSymbol 67 = .ok (.getfield 269, 3) := by decide +kernel
theorem d_A_isLaterSymbol_70 : decode b_A_isLaterSymbol 70 = .ok (.ifCond .ge 9, 3) := by decide +kernel
theorem d_A_isLaterSymbol_73 : decode b_A_isLaterSymbol 73 = .ok (.aload_n 0, 1) := by decide +kernel
theorem d_A_isLaterSymbol_74 : decode b_A_isLaterSymbol 74 = .ok (.iconst 5, 1) := by decide +kernel
theorem d_A_isLaterSymbol_75 : decode b_A_isLaterSymbol 75 = .ok (.invokevirtual 84, 3) := by decide +kernel
theorem d_A_isLaterSymbol_78 : decode b_A_isLaterSymbol 78 = .ok (.pop, 1) := by decide +kernel
theorem d_A_isLaterSymbol_79 : decode b_A_isLaterSymbol 79 = .ok (.iconst 1, 1) := by decide +kernel
theorem d_A_isLaterSymbol_80 : decode b_A_isLaterSymbol 80 = .ok (.ireturn, 1) := by decide +kernel
abbrev b_A_takeLiteral : ByteArray := prog_2_method_23_code
abbrev y_A_takeLiteral : MethodName := ⟨"SignMachine$Assembler", "takeLiteral", "(I)V"⟩
theorem h_A_takeLiteral : (y_A_takeLiteral).cls ≠ "java/lang/invoke/MethodHandle" ∧ (y_A_takeLiteral).cls ≠ "java/lang/invoke/VarHandle" ∧ (parseMethodDescriptor (y_A_takeLiteral).desc).map (fun d => d.parameters.length) = some 1 := by decide +kernel
theorem d_A_takeLiteral_0 : decode b_A_takeLiteral 0 = .ok (.aload_n 0, 1) := by decide +kernel
theorem d_A_takeLiteral_1 : decode b_A_takeLiteral 1 = .ok (.getfield 12, 3) := by decide +kernel
theorem d_A_takeLiteral_4 : decode b_A_takeLiteral 4 = .ok (.bipush 61, 2) := by decide +kernel
theorem d_A_takeLiteral_6 : decode b_A_takeLiteral 6 = .ok (.invokevirtual 240, 3) := by decide +kernel
theorem d_A_takeLiteral_9 : decode b_A_takeLiteral 9 = .ok (.ifCond .ne 9, 3) := by decide +kernel
theorem d_A_takeLiteral_12 : decode b_A_takeLiteral 12 = .ok (.aload_n 0, 1) := by decide +kernel
theorem d_A_takeLiteral_13 : decode b_A_takeLiteral 13 = .ok (.iconst 1, 1) := by decide +kernel
theorem d_A_takeLiteral_14 : decode b_A_takeLiteral 14 = .ok (.invokevirtual 84, 3) := by decide +kernel
theorem d_A_takeLiteral_17 : decode b_A_takeLiteral 17 = .ok (.pop, 1) := by decide +kernel
theorem d_A_takeLiteral_18 : decode b_A_takeLiteral 18 = .ok (.aload_n 0, 1) := by decide +kernel
theorem d_A_takeLiteral_19 : decode b_A_takeLiteral 19 = .ok (.getfield 43, 3) := by decide +kernel
theorem d_A_takeLiteral_22 : decode b_A_takeLiteral 22 = .ok (.ifCond .eq 4, 3) := by decide +kernel
theorem d_A_takeLiteral_25 : decode b_A_takeLiteral 25 = .ok (.return_, 1) := by decide +kernel
theorem d_A_takeLiteral_26 : decode b_A_takeLiteral 26 = .ok (.aload_n 0, 1) := by decide +kernel
theorem d_A_takeLiteral_27 : decode b_A_takeLiteral 27 = .ok (.iconst 1, 1) := by decide +kernel
theorem d_A_takeLiteral_28 : decode b_A_takeLiteral 28 = .ok (.putfield 268, 3) := by decide +kernel
theorem d_A_takeLiteral_31 : decode b_A_takeLiteral 31 = .ok (.aload_n 0, 1) := by decide +kernel
theorem d_A_takeLiteral_32 : decode b_A_takeLiteral 32 = .ok (.aload_n 0, 1) := by decide +kernel
theorem d_A_takeLiteral_33 : decode b_A_takeLiteral 33 = .ok (.getfield 21, 3) := by decide +kernel
theorem d_A_takeLiteral_36 : decode b_A_takeLiteral 36 = .ok (.iload_n 1, 1) := by decide +kernel
theorem d_A_takeLiteral_37 : decode b_A_takeLiteral 37 = .ok (.invokevirtual 282, 3) := by decide +kernel
theorem d_A_takeLiteral_40 : decode b_A_takeLiteral 40 = .ok (.putfield 269, 3) := by decide +kernel
theorem d_A_takeLiteral_43 : decode b_A_takeLiteral 43 = .ok (.aload_n 0, 1) := by decide +kernel
theorem d_A_takeLiteral_44 : decode b_A_takeLiteral 44 = .ok (.getfield 269, 3) := by decide +kernel
theorem d_A_takeLiteral_47 : decode b_A_takeLiteral 47 = .ok (.ifCond .ge 9, 3) := by decide +kernel
theorem d_A_takeLiteral_50 : decode b_A_takeLiteral 50 = .ok (.aload_n 0, 1) := by decide +kernel
theorem d_A_takeLiteral_51 : decode b_A_takeLiteral 51 = .ok (.iconst 5, 1) := by decide +kernel
theorem d_A_takeLiteral_52 : decode b_A_takeLiteral 52 = .ok (.invokevirtual 84, 3) := by decide +kernel
theorem d_A_takeLiteral_55 : decode b_A_takeLiteral 55 = .ok (.pop, 1) := by decide +kernel
theorem d_A_takeLiteral_56 : decode b_A_takeLiteral 56 = .ok (.return_, 1) := by decide +kernel
abbrev b_N_addLiteral : ByteArray := prog_4_method_9_code
abbrev y_N_addLiteral : MethodName := ⟨"SignMachine$Names", "addLiteral", "(I)I"⟩
theorem h_N_addLiteral : (y_N_addLiteral).cls ≠ "java/lang/invoke/MethodHandle" ∧ (y_N_addLiteral).cls ≠ "java/lang/invoke/VarHandle" ∧ (parseMethodDescriptor (y_N_addLiteral).desc).map (fun d => d.parameters.length) = some 1 := by decide +kernel
theorem d_N_addLiteral_0 : decode b_N_addLiteral 0 = .ok (.aload_n 0, 1) := by decide +kernel
theorem d_N_addLiteral_1 : decode b_N_addLiteral 1 = .ok (.getfield 35, 3) := by decide +kernel
theorem d_N_addLiteral_4 : decode b_N_addLiteral 4 = .ok (.aload_n 0, 1) := by decide +kernel
theorem d_N_addLiteral_5 : decode b_N_addLiteral 5 = .ok (.getfield 39, 3) := by decide +kernel
theorem d_N_addLiteral_8 : decode b_N_addLiteral 8 = .ok (.isub, 1) := by decide +kernel
theorem d_N_addLiteral_9 : decode b_N_addLiteral 9 = .ok (.bipush 40, 2) := by decide +kernel
theorem d_N_addLiteral_11 : decode b_N_addLiteral 11 = .ok (.if_icmp .lt 8, 3) := by decide +kernel
theorem d_N_addLiteral_14 : decode b_N_addLiteral 14 = .ok (.bipush (-2), 2) := by decide +kernel
theorem d_N_addLiteral_16 : decode b_N_addLiteral 16 = .ok (.goto 9, 3) := by decide +kernel
theorem d_N_addLiteral_19 : decode b_N_addLiteral 19 = .ok (.aload_n 0, 1) := by decide +kernel
theorem d_N_addLiteral_20 : decode b_N_addLiteral 20 = .ok (.lconst 0, 1) := by decide +kernel
theorem d_N_addLiteral_21 : decode b_N_addLiteral 21 = .ok (.iload_n 1, 1) := by decide +kernel
theorem d_N_addLiteral_22 : decode b_N_addLiteral 22 = .ok (.invokevirtual 42, 3) := by decide +kernel
theorem d_N_addLiteral_25 : decode b_N_addLiteral 25 = .ok (.ireturn, 1) := by decide +kernel
abbrev b_A_takeCharacters : ByteArray := prog_2_method_18_code
abbrev y_A_takeCharacters : MethodName := ⟨"SignMachine$Assembler", "takeCharacters", "()V"⟩
theorem h_A_takeCharacters : (y_A_takeCharacters).cls ≠ "java/lang/invoke/MethodHandle" ∧ (y_A_takeCharacters).cls ≠ "java/lang/invoke/VarHandle" ∧ (parseMethodDescriptor (y_A_takeCharacters).desc).map (fun d => d.parameters.length) = some 0 := by decide +kernel
theorem d_A_takeCharacters_0 : decode b_A_takeCharacters 0 = .ok (.aload_n 0, 1) := by decide +kernel
theorem d_A_takeCharacters_1 : decode b_A_takeCharacters 1 = .ok (.getfield 12, 3) := by decide +kernel
theorem d_A_takeCharacters_4 : decode b_A_takeCharacters 4 = .ok (.bipush 32, 2) := by decide +kernel
theorem d_A_takeCharacters_6 : decode b_A_takeCharacters 6 = .ok (.invokevirtual 240, 3) := by decide +kernel
theorem d_A_takeCharacters_9 : decode b_A_takeCharacters 9 = .ok (.pop, 1) := by decide +kernel
theorem d_A_takeCharacters_10 : decode b_A_takeCharacters 10 = .ok (.iconst 0, 1) := by decide +kernel
theorem d_A_takeCharacters_11 : decode b_A_takeCharacters 11 = .ok (.istore_n 1, 1) := by decide +kernel
theorem d_A_takeCharacters_12 : decode b_A_takeCharacters 12 = .ok (.iconst 0, 1) := by decide +kernel
theorem d_A_takeCharacters_13 : decode b_A_takeCharacters 13 = .ok (.istore_n 2, 1) := by decide +kernel
theorem d_A_takeCharacters_14 : decode b_A_takeCharacters 14 = .ok (.iload_n 2, 1) := by decide +kernel
theorem d_A_takeCharacters_15 : decode b_A_takeCharacters 15 = .ok (.iconst 5, 1) := by decide +kernel
theorem d_A_takeCharacters_16 : decode b_A_takeCharacters 16 = .ok (.if_icmp .ge 63, 3) := by decide +kernel
theorem d_A_takeCharacters_19 : decode b_A_takeCharacters 19 = .ok (.aload_n 0, 1) := by decide +kernel
theorem d_A_takeCharacters_20 : decode b_A_takeCharacters 20 = .ok (.getfield 12, 3) := by decide +kernel
theorem d_A_takeCharacters_23 : decode b_A_takeCharacters 23 = .ok (.invokevirtual 80, 3) := by decide +kernel
theorem d_A_takeCharacters_26 : decode b_A_takeCharacters 26 = .ok (.iconst (-1), 1) := by decide +kernel
theorem d_A_takeCharacters_27 : decode b_A_takeCharacters 27 = .ok (.if_icmp .ne 7, 3) := by decide +kernel
theorem d_A_takeCharacters_30 : decode b_A_takeCharacters 30 = .ok (.iconst 0, 1) := by decide +kernel
theorem d_A_takeCharacters_31 : decode b_A_takeCharacters 31 = .ok (.goto 16, 3) := by decide +kernel
theorem d_A_takeCharacters_34 : decode b_A_takeCharacters 34 = .ok (.ldc 243, 2) := by decide +kernel
theorem d_A_takeCharacters_36 : decode b_A_takeCharacters 36 = .ok (.aload_n 0, 1) := by decide +kernel
theorem d_A_takeCharacters_37 : decode b_A_takeCharacters 37 = .ok (.getfield 12, 3) := by decide +kernel
theorem d_A_takeCharacters_40 : decode b_A_takeCharacters 40 = .ok (.invokevirtual 80, 3) := by decide +kernel
theorem d_A_takeCharacters_43 : decode b_A_takeCharacters 43 = .ok (.i2c, 1) := by decide +kernel
theorem d_A_takeCharacters_44 : decode b_A_takeCharacters 44 = .ok (.invokevirtual 245, 3) := by decide +kernel
theorem d_A_takeCharacters_47 : decode b_A_takeCharacters 47 = .ok (.istore_n 3, 1) := by decide +kernel
theorem d_A_takeCharacters_48 : decode b_A_takeCharacters 48 = .ok (.iload_n 3, 1) := by decide +kernel
theorem d_A_takeCharacters_49 : decode b_A_takeCharacters 49 = .ok (.ifCond .ge 10, 3) := by decide +kernel
theorem d_A_takeCharacters_52 : decode b_A_takeCharacters 52 = .ok (.aload_n 0, 1) := by decide +kernel
theorem d_A_takeCharacters_53 : decode b_A_takeCharacters 53 = .ok (.iconst 1, 1) := by decide +kernel
theorem d_A_takeCharacters_54 : decode b_A_takeCharacters 54 = .ok (.invokevirtual 84, 3) := by decide +kernel
theorem d_A_takeCharacters_57 : decode b_A_takeCharacters 57 = .ok (.pop, 1) := by decide +kernel
theorem d_A_takeCharacters_58 : decode b_A_takeCharacters 58 = .ok (.return_, 1) := by decide +kernel
theorem d_A_takeCharacters_59 : decode b_A_takeCharacters 59 = .ok (.iload_n 1, 1) := by decide +kernel
theorem d_A_takeCharacters_60 : decode b_A_takeCharacters 60 = .ok (.bipush 6, 2) := by decide +kernel
theorem d_A_takeCharacters_62 : decode b_A_takeCharacters 62 = .ok (.ishl, 1) := by decide +kernel
theorem d_A_takeCharacters_63 : decode b_A_takeCharacters 63 = .ok (.iload_n 3, 1) := by decide +kernel
theorem d_A_takeCharacters_64 : decode b_A_takeCharacters 64 = .ok (.ior, 1) := by decide +kernel
theorem d_A_takeCharacters_65 : decode b_A_takeCharacters 65 = .ok (.istore_n 1, 1) := by decide +kernel
theorem d_A_takeCharacters_66 : decode b_A_takeCharacters 66 = .ok (.aload_n 0, 1) := by decide +kernel
theorem d_A_takeCharacters_67 : decode b_A_takeCharacters 67 = .ok (.getfield 12, 3) := by decide +kernel
theorem d_A_takeCharacters_70 : decode b_A_takeCharacters 70 = .ok (.invokevirtual 250, 3) := by decide +kernel
theorem d_A_takeCharacters_73 : decode b_A_takeCharacters 73 = .ok (.iinc 2 1, 3) := by decide +kernel
theorem d_A_takeCharacters_76 : decode b_A_takeCharacters 76 = .ok (.goto (-62), 3) := by decide +kernel
theorem d_A_takeCharacters_79 : decode b_A_takeCharacters 79 = .ok (.aload_n 0, 1) := by decide +kernel
theorem d_A_takeCharacters_80 : decode b_A_takeCharacters 80 = .ok (.iload_n 1, 1) := by decide +kernel
theorem d_A_takeCharacters_81 : decode b_A_takeCharacters 81 = .ok (.invokevirtual 129, 3) := by decide +kernel
theorem d_A_takeCharacters_84 : decode b_A_takeCharacters 84 = .ok (.return_, 1) := by decide +kernel
abbrev b_A_leaveLine : ByteArray := prog_2_method_6_code
abbrev y_A_leaveLine : MethodName := ⟨"SignMachine$Assembler", "leaveLine", "()V"⟩
theorem h_A_leaveLine : (y_A_leaveLine).cls ≠ "java/lang/invoke/MethodHandle" ∧ (y_A_leaveLine).cls ≠ "java/lang/invoke/VarHandle" ∧ (parseMethodDescriptor (y_A_leaveLine).desc).map (fun d => d.parameters.length) = some 0 := by decide +kernel
theorem d_A_leaveLine_0 : decode b_A_leaveLine 0 = .ok (.aload_n 0, 1) := by decide +kernel
theorem d_A_leaveLine_1 : decode b_A_leaveLine 1 = .ok (.getfield 21, 3) := by decide +kernel
theorem d_A_leaveLine_4 : decode b_A_leaveLine 4 = .ok (.aload_n 0, 1) := by decide +kernel
theorem d_A_leaveLine_5 : decode b_A_leaveLine 5 = .ok (.getfield 64, 3) := by decide +kernel
theorem d_A_leaveLine_8 : decode b_A_leaveLine 8 = .ok (.bipush 8, 2) := by decide +kernel
theorem d_A_leaveLine_10 : decode b_A_leaveLine 10 = .ok (.invokestatic 135, 3) := by decide +kernel
theorem d_A_leaveLine_13 : decode b_A_leaveLine 13 = .ok (.aload_n 0, 1) := by decide +kernel
theorem d_A_leaveLine_14 : decode b_A_leaveLine 14 = .ok (.getfield 139, 3) := by decide +kernel
theorem d_A_leaveLine_17 : decode b_A_leaveLine 17 = .ok (.invokevirtual 142, 3) := by decide +kernel
theorem d_A_leaveLine_20 : decode b_A_leaveLine 20 = .ok (.return_, 1) := by decide +kernel
abbrev b_N_tellLocal : ByteArray := prog_4_method_16_code
abbrev y_N_tellLocal : MethodName := ⟨"SignMachine$Names", "tellLocal", "(II)V"⟩
theorem h_N_tellLocal : (y_N_tellLocal).cls ≠ "java/lang/invoke/MethodHandle" ∧ (y_N_tellLocal).cls ≠ "java/lang/invoke/VarHandle" ∧ (parseMethodDescriptor (y_N_tellLocal).desc).map (fun d => d.parameters.length) = some 2 := by decide +kernel
theorem d_N_tellLocal_0 : decode b_N_tellLocal 0 = .ok (.iload_n 1, 1) := by decide +kernel
theorem d_N_tellLocal_1 : decode b_N_tellLocal 1 = .ok (.ifCond .lt 23, 3) := by decide +kernel
theorem d_N_tellLocal_4 : decode b_N_tellLocal 4 = .ok (.iload_n 1, 1) := by decide +kernel
theorem d_N_tellLocal_5 : decode b_N_tellLocal 5 = .ok (.bipush 10, 2) := by decide +kernel
theorem d_N_tellLocal_7 : decode b_N_tellLocal 7 = .ok (.if_icmp .ge 17, 3) := by decide +kernel
theorem d_N_tellLocal_10 : decode b_N_tellLocal 10 = .ok (.aload_n 0, 1) := by decide +kernel
theorem d_N_tellLocal_11 : decode b_N_tellLocal 11 = .ok (.getfield 23, 3) := by decide +kernel
theorem d_N_tellLocal_14 : decode b_N_tellLocal 14 = .ok (.iload_n 1, 1) := by decide +kernel
theorem d_N_tellLocal_15 : decode b_N_tellLocal 15 = .ok (.iload_n 2, 1) := by decide +kernel
theorem d_N_tellLocal_16 : decode b_N_tellLocal 16 = .ok (.iastore, 1) := by decide +kernel
theorem d_N_tellLocal_17 : decode b_N_tellLocal 17 = .ok (.aload_n 0, 1) := by decide +kernel
theorem d_N_tellLocal_18 : decode b_N_tellLocal 18 = .ok (.getfield 26, 3) := by decide +kernel
theorem d_N_tellLocal_21 : decode b_N_tellLocal 21 = .ok (.iload_n 1, 1) := by decide +kernel
theorem d_N_tellLocal_22 : decode b_N_tellLocal 22 = .ok (.iconst 1, 1) := by decide +kernel
theorem d_N_tellLocal_23 : decode b_N_tellLocal 23 = .ok (.bastore, 1) := by decide +kernel
theorem d_N_tellLocal_24 : decode b_N_tellLocal 24 = .ok (.return_, 1) := by decide +kernel
abbrev b_S_about : ByteArray := prog_1_method_16_code
abbrev y_S_about : MethodName := ⟨"SignMachine", "about", "(I)I"⟩
theorem h_S_about : (y_S_about).cls ≠ "java/lang/invoke/MethodHandle" ∧ (y_S_about).cls ≠ "java/lang/invoke/VarHandle" ∧ (parseMethodDescriptor (y_S_about).desc).map (fun d => d.parameters.length) = some 1 := by decide +kernel
theorem d_S_about_0 : decode b_S_about 0 = .ok (.aload_n 0, 1) := by decide +kernel
theorem d_S_about_1 : decode b_S_about 1 = .ok (.invokevirtual 95, 3) := by decide +kernel
theorem d_S_about_4 : decode b_S_about 4 = .ok (.astore_n 2, 1) := by decide +kernel
theorem d_S_about_5 : decode b_S_about 5 = .ok (.iload_n 1, 1) := by decide +kernel
theorem d_S_about_6 : decode b_S_about 6 = .ok (.tableswitch 44 0 2 #[26, 31, 36], 26) := by decide +kernel
theorem d_S_about_32 : decode b_S_about 32 = .ok (.aload_n 2, 1) := by decide +kernel
theorem d_S_about_33 : decode b_S_about 33 = .ok (.getfield 150, 3) := by decide +kernel
theorem d_S_about_36 : decode b_S_about 36 = .ok (.ireturn, 1) := by decide +kernel
theorem d_S_about_37 : decode b_S_about 37 = .ok (.aload_n 2, 1) := by decide +kernel
theorem d_S_about_38 : decode b_S_about 38 = .ok (.getfield 153, 3) := by decide +kernel
theorem d_S_about_41 : decode b_S_about 41 = .ok (.ireturn, 1) := by decide +kernel
theorem d_S_about_42 : decode b_S_about 42 = .ok (.aload_n 2, 1) := by decide +kernel
theorem d_S_about_43 : decode b_S_about 43 = .ok (.getfield 99, 3) := by decide +kernel
theorem d_S_about_46 : decode b_S_about 46 = .ok (.getfield 115, 3) := by decide +kernel
theorem d_S_about_49 : decode b_S_about 49 = .ok (.ireturn, 1) := by decide +kernel
theorem d_S_about_50 : decode b_S_about 50 = .ok (.iconst (-1), 1) := by decide +kernel
theorem d_S_about_51 : decode b_S_about 51 = .ok (.ireturn, 1) := by decide +kernel
